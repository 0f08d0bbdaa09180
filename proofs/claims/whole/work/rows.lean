section
-- ===== PART A: goes FIRST, ahead of the names: the tables' words, and 'selects' of the private methods out of them =====
/-- a private method of a class that the tables say can be made, by its rows of tables_1 -/
def lw_okq (q : MethodName × Nat) : Prop := (q.1.cls ≠ "java/lang/invoke/MethodHandle" ∧ q.1.cls ≠ "java/lang/invoke/VarHandle") ∧ Cond.instantiable q.1.cls q.2 ∈ tables_1 ∧ Cond.privateMethod q.1 ∈ tables_1 ∧ Cond.instanceMethod q.1 ∈ tables_1
theorem lw_p0 : lw_okq (⟨"SheetMarker", "sheetAt", "(I)LSheetMarker$Sheet;"⟩, 7) := ⟨⟨by decide +kernel, by decide +kernel⟩, List.mem_of_getElem? (i := 15) (by decide +kernel), List.mem_of_getElem? (i := 228) (by decide +kernel), List.mem_of_getElem? (i := 229) (by decide +kernel)⟩
theorem lw_p1 : lw_okq (⟨"SheetMarker$Sheet", "put", "(IIILSheetMarker$Formula;J)V"⟩, 6) := ⟨⟨by decide +kernel, by decide +kernel⟩, List.mem_of_getElem? (i := 60) (by decide +kernel), List.mem_of_getElem? (i := 242) (by decide +kernel), List.mem_of_getElem? (i := 243) (by decide +kernel)⟩
theorem lw_p2 : lw_okq (⟨"SheetMarker$Parser", "pass", "(I)V"⟩, 3) := ⟨⟨by decide +kernel, by decide +kernel⟩, List.mem_of_getElem? (i := 288) (by decide +kernel), List.mem_of_getElem? (i := 308) (by decide +kernel), List.mem_of_getElem? (i := 309) (by decide +kernel)⟩
theorem lw_p3 : lw_okq (⟨"SheetMarker$Parser", "passWithin", "(II)I"⟩, 3) := ⟨⟨by decide +kernel, by decide +kernel⟩, List.mem_of_getElem? (i := 288) (by decide +kernel), List.mem_of_getElem? (i := 312) (by decide +kernel), List.mem_of_getElem? (i := 313) (by decide +kernel)⟩
theorem lw_p4 : lw_okq (⟨"SheetMarker$Parser", "next", "()I"⟩, 3) := ⟨⟨by decide +kernel, by decide +kernel⟩, List.mem_of_getElem? (i := 288) (by decide +kernel), List.mem_of_getElem? (i := 316) (by decide +kernel), List.mem_of_getElem? (i := 317) (by decide +kernel)⟩
theorem lw_p5 : lw_okq (⟨"SheetMarker$Parser", "fail", "(I)V"⟩, 3) := ⟨⟨by decide +kernel, by decide +kernel⟩, List.mem_of_getElem? (i := 288) (by decide +kernel), List.mem_of_getElem? (i := 324) (by decide +kernel), List.mem_of_getElem? (i := 325) (by decide +kernel)⟩
theorem lw_p6 : lw_okq (⟨"SheetMarker$Parser", "readSum", "(I)V"⟩, 3) := ⟨⟨by decide +kernel, by decide +kernel⟩, List.mem_of_getElem? (i := 288) (by decide +kernel), List.mem_of_getElem? (i := 328) (by decide +kernel), List.mem_of_getElem? (i := 329) (by decide +kernel)⟩
theorem lw_p7 : lw_okq (⟨"SheetMarker$Parser", "readProduct", "(I)V"⟩, 3) := ⟨⟨by decide +kernel, by decide +kernel⟩, List.mem_of_getElem? (i := 288) (by decide +kernel), List.mem_of_getElem? (i := 332) (by decide +kernel), List.mem_of_getElem? (i := 333) (by decide +kernel)⟩
theorem lw_p8 : lw_okq (⟨"SheetMarker$Parser", "readFactor", "(I)V"⟩, 3) := ⟨⟨by decide +kernel, by decide +kernel⟩, List.mem_of_getElem? (i := 288) (by decide +kernel), List.mem_of_getElem? (i := 336) (by decide +kernel), List.mem_of_getElem? (i := 337) (by decide +kernel)⟩
theorem lw_p9 : lw_okq (⟨"SheetMarker$Parser", "readNegative", "(I)V"⟩, 3) := ⟨⟨by decide +kernel, by decide +kernel⟩, List.mem_of_getElem? (i := 288) (by decide +kernel), List.mem_of_getElem? (i := 340) (by decide +kernel), List.mem_of_getElem? (i := 341) (by decide +kernel)⟩
theorem lw_p10 : lw_okq (⟨"SheetMarker$Parser", "readRectangle", "()V"⟩, 3) := ⟨⟨by decide +kernel, by decide +kernel⟩, List.mem_of_getElem? (i := 288) (by decide +kernel), List.mem_of_getElem? (i := 348) (by decide +kernel), List.mem_of_getElem? (i := 349) (by decide +kernel)⟩
theorem lw_p11 : lw_okq (⟨"SheetMarker$Parser", "readCell", "(I)V"⟩, 3) := ⟨⟨by decide +kernel, by decide +kernel⟩, List.mem_of_getElem? (i := 288) (by decide +kernel), List.mem_of_getElem? (i := 352) (by decide +kernel), List.mem_of_getElem? (i := 353) (by decide +kernel)⟩
theorem lw_p12 : lw_okq (⟨"SheetMarker$Parser", "readGreater", "(I)V"⟩, 3) := ⟨⟨by decide +kernel, by decide +kernel⟩, List.mem_of_getElem? (i := 288) (by decide +kernel), List.mem_of_getElem? (i := 356) (by decide +kernel), List.mem_of_getElem? (i := 357) (by decide +kernel)⟩
theorem lw_p13 : lw_okq (⟨"SheetMarker$Parser", "readNumber", "()V"⟩, 3) := ⟨⟨by decide +kernel, by decide +kernel⟩, List.mem_of_getElem? (i := 288) (by decide +kernel), List.mem_of_getElem? (i := 363) (by decide +kernel), List.mem_of_getElem? (i := 364) (by decide +kernel)⟩
theorem lw_p14 : lw_okq (⟨"SheetMarker", "reckonsOwn", "(III)Z"⟩, 7) := ⟨⟨by decide +kernel, by decide +kernel⟩, List.mem_of_getElem? (i := 15) (by decide +kernel), List.mem_of_getElem? (i := 484) (by decide +kernel), List.mem_of_getElem? (i := 485) (by decide +kernel)⟩
theorem lw_p15 : lw_okq (⟨"SheetMarker$Figures", "plan", "(LSheetMarker$Sheet;JI)V"⟩, 8) := ⟨⟨by decide +kernel, by decide +kernel⟩, List.mem_of_getElem? (i := 120) (by decide +kernel), List.mem_of_getElem? (i := 501) (by decide +kernel), List.mem_of_getElem? (i := 502) (by decide +kernel)⟩
def lw_privs_1 : List (MethodName × Nat) := [(⟨"SheetMarker", "sheetAt", "(I)LSheetMarker$Sheet;"⟩, 7), (⟨"SheetMarker$Sheet", "put", "(IIILSheetMarker$Formula;J)V"⟩, 6), (⟨"SheetMarker$Parser", "pass", "(I)V"⟩, 3), (⟨"SheetMarker$Parser", "passWithin", "(II)I"⟩, 3), (⟨"SheetMarker$Parser", "next", "()I"⟩, 3), (⟨"SheetMarker$Parser", "fail", "(I)V"⟩, 3), (⟨"SheetMarker$Parser", "readSum", "(I)V"⟩, 3), (⟨"SheetMarker$Parser", "readProduct", "(I)V"⟩, 3), (⟨"SheetMarker$Parser", "readFactor", "(I)V"⟩, 3), (⟨"SheetMarker$Parser", "readNegative", "(I)V"⟩, 3), (⟨"SheetMarker$Parser", "readRectangle", "()V"⟩, 3), (⟨"SheetMarker$Parser", "readCell", "(I)V"⟩, 3), (⟨"SheetMarker$Parser", "readGreater", "(I)V"⟩, 3), (⟨"SheetMarker$Parser", "readNumber", "()V"⟩, 3), (⟨"SheetMarker", "reckonsOwn", "(III)Z"⟩, 7), (⟨"SheetMarker$Figures", "plan", "(LSheetMarker$Sheet;JI)V"⟩, 8)]
theorem lw_r1 : ∀ q ∈ lw_privs_1, lw_okq q := List.forall_mem_cons.mpr ⟨lw_p0, List.forall_mem_cons.mpr ⟨lw_p1, List.forall_mem_cons.mpr ⟨lw_p2, List.forall_mem_cons.mpr ⟨lw_p3, List.forall_mem_cons.mpr ⟨lw_p4, List.forall_mem_cons.mpr ⟨lw_p5, List.forall_mem_cons.mpr ⟨lw_p6, List.forall_mem_cons.mpr ⟨lw_p7, List.forall_mem_cons.mpr ⟨lw_p8, List.forall_mem_cons.mpr ⟨lw_p9, List.forall_mem_cons.mpr ⟨lw_p10, List.forall_mem_cons.mpr ⟨lw_p11, List.forall_mem_cons.mpr ⟨lw_p12, List.forall_mem_cons.mpr ⟨lw_p13, List.forall_mem_cons.mpr ⟨lw_p14, List.forall_mem_cons.mpr ⟨lw_p15, fun _ h => absurd h List.not_mem_nil⟩⟩⟩⟩⟩⟩⟩⟩⟩⟩⟩⟩⟩⟩⟩⟩
theorem lw_p16 : lw_okq (⟨"SheetMarker$Figures", "append", "(I)V"⟩, 8) := ⟨⟨by decide +kernel, by decide +kernel⟩, List.mem_of_getElem? (i := 120) (by decide +kernel), List.mem_of_getElem? (i := 514) (by decide +kernel), List.mem_of_getElem? (i := 515) (by decide +kernel)⟩
theorem lw_p17 : lw_okq (⟨"SheetMarker$Figures", "layHeld", "(LSheetMarker$Sheet;I)V"⟩, 8) := ⟨⟨by decide +kernel, by decide +kernel⟩, List.mem_of_getElem? (i := 120) (by decide +kernel), List.mem_of_getElem? (i := 519) (by decide +kernel), List.mem_of_getElem? (i := 520) (by decide +kernel)⟩
theorem lw_p18 : lw_okq (⟨"SheetMarker$Figures", "put", "(IIJI)V"⟩, 8) := ⟨⟨by decide +kernel, by decide +kernel⟩, List.mem_of_getElem? (i := 120) (by decide +kernel), List.mem_of_getElem? (i := 528) (by decide +kernel), List.mem_of_getElem? (i := 529) (by decide +kernel)⟩
theorem lw_p19 : lw_okq (⟨"SheetMarker$Figures", "follow", "(LSheetMarker$Sheet;I)V"⟩, 8) := ⟨⟨by decide +kernel, by decide +kernel⟩, List.mem_of_getElem? (i := 120) (by decide +kernel), List.mem_of_getElem? (i := 537) (by decide +kernel), List.mem_of_getElem? (i := 538) (by decide +kernel)⟩
theorem lw_p20 : lw_okq (⟨"SheetMarker$Machine", "push", "(J)V"⟩, 4) := ⟨⟨by decide +kernel, by decide +kernel⟩, List.mem_of_getElem? (i := 101) (by decide +kernel), List.mem_of_getElem? (i := 563) (by decide +kernel), List.mem_of_getElem? (i := 564) (by decide +kernel)⟩
theorem lw_p21 : lw_okq (⟨"SheetMarker$Machine", "pushCell", "(LSheetMarker$Figures;II)V"⟩, 4) := ⟨⟨by decide +kernel, by decide +kernel⟩, List.mem_of_getElem? (i := 101) (by decide +kernel), List.mem_of_getElem? (i := 569) (by decide +kernel), List.mem_of_getElem? (i := 570) (by decide +kernel)⟩
theorem lw_p22 : lw_okq (⟨"SheetMarker$Machine", "pop", "()J"⟩, 4) := ⟨⟨by decide +kernel, by decide +kernel⟩, List.mem_of_getElem? (i := 101) (by decide +kernel), List.mem_of_getElem? (i := 581) (by decide +kernel), List.mem_of_getElem? (i := 582) (by decide +kernel)⟩
theorem lw_p23 : lw_okq (⟨"SheetMarker$Machine", "pushRectangle", "(LSheetMarker$Figures;I)V"⟩, 4) := ⟨⟨by decide +kernel, by decide +kernel⟩, List.mem_of_getElem? (i := 101) (by decide +kernel), List.mem_of_getElem? (i := 585) (by decide +kernel), List.mem_of_getElem? (i := 586) (by decide +kernel)⟩
theorem lw_p24 : lw_okq (⟨"SheetMarker$Machine", "join", "(I)V"⟩, 4) := ⟨⟨by decide +kernel, by decide +kernel⟩, List.mem_of_getElem? (i := 101) (by decide +kernel), List.mem_of_getElem? (i := 591) (by decide +kernel), List.mem_of_getElem? (i := 592) (by decide +kernel)⟩
theorem lw_p25 : lw_okq (⟨"SheetMarker$Machine", "multiply", "(JJ)V"⟩, 4) := ⟨⟨by decide +kernel, by decide +kernel⟩, List.mem_of_getElem? (i := 101) (by decide +kernel), List.mem_of_getElem? (i := 595) (by decide +kernel), List.mem_of_getElem? (i := 596) (by decide +kernel)⟩
theorem lw_p26 : lw_okq (⟨"SheetMarker$Machine", "divide", "(JJ)V"⟩, 4) := ⟨⟨by decide +kernel, by decide +kernel⟩, List.mem_of_getElem? (i := 101) (by decide +kernel), List.mem_of_getElem? (i := 602) (by decide +kernel), List.mem_of_getElem? (i := 603) (by decide +kernel)⟩
theorem lw_p27 : lw_okq (⟨"SheetMarker", "reckonsRight", "(III)Z"⟩, 7) := ⟨⟨by decide +kernel, by decide +kernel⟩, List.mem_of_getElem? (i := 15) (by decide +kernel), List.mem_of_getElem? (i := 631) (by decide +kernel), List.mem_of_getElem? (i := 632) (by decide +kernel)⟩
theorem lw_p28 : lw_okq (⟨"SheetMarker$Figures", "layLent", "(JLSheetMarker$Figures;I)V"⟩, 8) := ⟨⟨by decide +kernel, by decide +kernel⟩, List.mem_of_getElem? (i := 120) (by decide +kernel), List.mem_of_getElem? (i := 643) (by decide +kernel), List.mem_of_getElem? (i := 644) (by decide +kernel)⟩
theorem lw_p29 : lw_okq (⟨"SheetMarker", "pupilAt", "(I)LSheetMarker$Sheet;"⟩, 7) := ⟨⟨by decide +kernel, by decide +kernel⟩, List.mem_of_getElem? (i := 15) (by decide +kernel), List.mem_of_getElem? (i := 657) (by decide +kernel), List.mem_of_getElem? (i := 658) (by decide +kernel)⟩
theorem lw_p30 : lw_okq (⟨"SheetMarker$Judge", "judgeNumber", "(LSheetMarker$Sheet;I)I"⟩, 8) := ⟨⟨by decide +kernel, by decide +kernel⟩, List.mem_of_getElem? (i := 153) (by decide +kernel), List.mem_of_getElem? (i := 671) (by decide +kernel), List.mem_of_getElem? (i := 672) (by decide +kernel)⟩
theorem lw_p31 : lw_okq (⟨"SheetMarker$Judge", "isAlike", "(LSheetMarker$Figures;I)Z"⟩, 8) := ⟨⟨by decide +kernel, by decide +kernel⟩, List.mem_of_getElem? (i := 153) (by decide +kernel), List.mem_of_getElem? (i := 681) (by decide +kernel), List.mem_of_getElem? (i := 682) (by decide +kernel)⟩
def lw_privs_2 : List (MethodName × Nat) := [(⟨"SheetMarker$Figures", "append", "(I)V"⟩, 8), (⟨"SheetMarker$Figures", "layHeld", "(LSheetMarker$Sheet;I)V"⟩, 8), (⟨"SheetMarker$Figures", "put", "(IIJI)V"⟩, 8), (⟨"SheetMarker$Figures", "follow", "(LSheetMarker$Sheet;I)V"⟩, 8), (⟨"SheetMarker$Machine", "push", "(J)V"⟩, 4), (⟨"SheetMarker$Machine", "pushCell", "(LSheetMarker$Figures;II)V"⟩, 4), (⟨"SheetMarker$Machine", "pop", "()J"⟩, 4), (⟨"SheetMarker$Machine", "pushRectangle", "(LSheetMarker$Figures;I)V"⟩, 4), (⟨"SheetMarker$Machine", "join", "(I)V"⟩, 4), (⟨"SheetMarker$Machine", "multiply", "(JJ)V"⟩, 4), (⟨"SheetMarker$Machine", "divide", "(JJ)V"⟩, 4), (⟨"SheetMarker", "reckonsRight", "(III)Z"⟩, 7), (⟨"SheetMarker$Figures", "layLent", "(JLSheetMarker$Figures;I)V"⟩, 8), (⟨"SheetMarker", "pupilAt", "(I)LSheetMarker$Sheet;"⟩, 7), (⟨"SheetMarker$Judge", "judgeNumber", "(LSheetMarker$Sheet;I)I"⟩, 8), (⟨"SheetMarker$Judge", "isAlike", "(LSheetMarker$Figures;I)Z"⟩, 8)]
theorem lw_r2 : ∀ q ∈ lw_privs_2, lw_okq q := List.forall_mem_cons.mpr ⟨lw_p16, List.forall_mem_cons.mpr ⟨lw_p17, List.forall_mem_cons.mpr ⟨lw_p18, List.forall_mem_cons.mpr ⟨lw_p19, List.forall_mem_cons.mpr ⟨lw_p20, List.forall_mem_cons.mpr ⟨lw_p21, List.forall_mem_cons.mpr ⟨lw_p22, List.forall_mem_cons.mpr ⟨lw_p23, List.forall_mem_cons.mpr ⟨lw_p24, List.forall_mem_cons.mpr ⟨lw_p25, List.forall_mem_cons.mpr ⟨lw_p26, List.forall_mem_cons.mpr ⟨lw_p27, List.forall_mem_cons.mpr ⟨lw_p28, List.forall_mem_cons.mpr ⟨lw_p29, List.forall_mem_cons.mpr ⟨lw_p30, List.forall_mem_cons.mpr ⟨lw_p31, fun _ h => absurd h List.not_mem_nil⟩⟩⟩⟩⟩⟩⟩⟩⟩⟩⟩⟩⟩⟩⟩⟩
theorem lw_p32 : lw_okq (⟨"SheetMarker$Judge", "findsSlip", "(LSheetMarker$Formula;I)Z"⟩, 8) := ⟨⟨by decide +kernel, by decide +kernel⟩, List.mem_of_getElem? (i := 153) (by decide +kernel), List.mem_of_getElem? (i := 686) (by decide +kernel), List.mem_of_getElem? (i := 687) (by decide +kernel)⟩
theorem lw_p33 : lw_okq (⟨"SheetMarker$Judge", "isSoChanged", "(LSheetMarker$Formula;III)Z"⟩, 8) := ⟨⟨by decide +kernel, by decide +kernel⟩, List.mem_of_getElem? (i := 153) (by decide +kernel), List.mem_of_getElem? (i := 702) (by decide +kernel), List.mem_of_getElem? (i := 703) (by decide +kernel)⟩
theorem lw_p34 : lw_okq (⟨"SheetMarker", "isShared", "(LSheetMarker$Sheet;LSheetMarker$Sheet;I)Z"⟩, 7) := ⟨⟨by decide +kernel, by decide +kernel⟩, List.mem_of_getElem? (i := 15) (by decide +kernel), List.mem_of_getElem? (i := 751) (by decide +kernel), List.mem_of_getElem? (i := 752) (by decide +kernel)⟩
theorem lw_p35 : lw_okq (⟨"SheetMarker", "countComing", "(LSheetMarker$Sheet;I)I"⟩, 7) := ⟨⟨by decide +kernel, by decide +kernel⟩, List.mem_of_getElem? (i := 15) (by decide +kernel), List.mem_of_getElem? (i := 766) (by decide +kernel), List.mem_of_getElem? (i := 767) (by decide +kernel)⟩
theorem lw_p36 : lw_okq (⟨"SheetMarkerModel", "push", "(I)V"⟩, 52) := ⟨⟨by decide +kernel, by decide +kernel⟩, List.mem_of_getElem? (i := 785) (by decide +kernel), List.mem_of_getElem? (i := 954) (by decide +kernel), List.mem_of_getElem? (i := 955) (by decide +kernel)⟩
theorem lw_p37 : lw_okq (⟨"SheetMarkerModel", "reads", "(I)V"⟩, 52) := ⟨⟨by decide +kernel, by decide +kernel⟩, List.mem_of_getElem? (i := 785) (by decide +kernel), List.mem_of_getElem? (i := 979) (by decide +kernel), List.mem_of_getElem? (i := 980) (by decide +kernel)⟩
theorem lw_p38 : lw_okq (⟨"SheetMarkerModel", "must", "(I)V"⟩, 52) := ⟨⟨by decide +kernel, by decide +kernel⟩, List.mem_of_getElem? (i := 785) (by decide +kernel), List.mem_of_getElem? (i := 983) (by decide +kernel), List.mem_of_getElem? (i := 984) (by decide +kernel)⟩
theorem lw_p39 : lw_okq (⟨"SheetMarkerModel", "here", "()I"⟩, 52) := ⟨⟨by decide +kernel, by decide +kernel⟩, List.mem_of_getElem? (i := 785) (by decide +kernel), List.mem_of_getElem? (i := 987) (by decide +kernel), List.mem_of_getElem? (i := 988) (by decide +kernel)⟩
theorem lw_p40 : lw_okq (⟨"SheetMarkerModel", "fails", "(II)V"⟩, 52) := ⟨⟨by decide +kernel, by decide +kernel⟩, List.mem_of_getElem? (i := 785) (by decide +kernel), List.mem_of_getElem? (i := 991) (by decide +kernel), List.mem_of_getElem? (i := 992) (by decide +kernel)⟩
theorem lw_p41 : lw_okq (⟨"SheetMarkerModel", "factor", "()Z"⟩, 52) := ⟨⟨by decide +kernel, by decide +kernel⟩, List.mem_of_getElem? (i := 785) (by decide +kernel), List.mem_of_getElem? (i := 995) (by decide +kernel), List.mem_of_getElem? (i := 996) (by decide +kernel)⟩
theorem lw_p42 : lw_okq (⟨"SheetMarkerModel", "opens", "(I)V"⟩, 52) := ⟨⟨by decide +kernel, by decide +kernel⟩, List.mem_of_getElem? (i := 785) (by decide +kernel), List.mem_of_getElem? (i := 999) (by decide +kernel), List.mem_of_getElem? (i := 1000) (by decide +kernel)⟩
theorem lw_p43 : lw_okq (⟨"SheetMarkerModel", "waits", "(II)V"⟩, 52) := ⟨⟨by decide +kernel, by decide +kernel⟩, List.mem_of_getElem? (i := 785) (by decide +kernel), List.mem_of_getElem? (i := 1003) (by decide +kernel), List.mem_of_getElem? (i := 1004) (by decide +kernel)⟩
theorem lw_p44 : lw_okq (⟨"SheetMarkerModel", "readCell", "()I"⟩, 52) := ⟨⟨by decide +kernel, by decide +kernel⟩, List.mem_of_getElem? (i := 785) (by decide +kernel), List.mem_of_getElem? (i := 1007) (by decide +kernel), List.mem_of_getElem? (i := 1008) (by decide +kernel)⟩
theorem lw_p45 : lw_okq (⟨"SheetMarkerModel", "puts", "(IIIII)V"⟩, 52) := ⟨⟨by decide +kernel, by decide +kernel⟩, List.mem_of_getElem? (i := 785) (by decide +kernel), List.mem_of_getElem? (i := 1011) (by decide +kernel), List.mem_of_getElem? (i := 1012) (by decide +kernel)⟩
theorem lw_p46 : lw_okq (⟨"SheetMarkerModel", "seesDigit", "()Z"⟩, 52) := ⟨⟨by decide +kernel, by decide +kernel⟩, List.mem_of_getElem? (i := 785) (by decide +kernel), List.mem_of_getElem? (i := 1015) (by decide +kernel), List.mem_of_getElem? (i := 1016) (by decide +kernel)⟩
theorem lw_p47 : lw_okq (⟨"SheetMarkerModel", "readNumber", "()I"⟩, 52) := ⟨⟨by decide +kernel, by decide +kernel⟩, List.mem_of_getElem? (i := 785) (by decide +kernel), List.mem_of_getElem? (i := 1019) (by decide +kernel), List.mem_of_getElem? (i := 1020) (by decide +kernel)⟩
def lw_privs_3 : List (MethodName × Nat) := [(⟨"SheetMarker$Judge", "findsSlip", "(LSheetMarker$Formula;I)Z"⟩, 8), (⟨"SheetMarker$Judge", "isSoChanged", "(LSheetMarker$Formula;III)Z"⟩, 8), (⟨"SheetMarker", "isShared", "(LSheetMarker$Sheet;LSheetMarker$Sheet;I)Z"⟩, 7), (⟨"SheetMarker", "countComing", "(LSheetMarker$Sheet;I)I"⟩, 7), (⟨"SheetMarkerModel", "push", "(I)V"⟩, 52), (⟨"SheetMarkerModel", "reads", "(I)V"⟩, 52), (⟨"SheetMarkerModel", "must", "(I)V"⟩, 52), (⟨"SheetMarkerModel", "here", "()I"⟩, 52), (⟨"SheetMarkerModel", "fails", "(II)V"⟩, 52), (⟨"SheetMarkerModel", "factor", "()Z"⟩, 52), (⟨"SheetMarkerModel", "opens", "(I)V"⟩, 52), (⟨"SheetMarkerModel", "waits", "(II)V"⟩, 52), (⟨"SheetMarkerModel", "readCell", "()I"⟩, 52), (⟨"SheetMarkerModel", "puts", "(IIIII)V"⟩, 52), (⟨"SheetMarkerModel", "seesDigit", "()Z"⟩, 52), (⟨"SheetMarkerModel", "readNumber", "()I"⟩, 52)]
theorem lw_r3 : ∀ q ∈ lw_privs_3, lw_okq q := List.forall_mem_cons.mpr ⟨lw_p32, List.forall_mem_cons.mpr ⟨lw_p33, List.forall_mem_cons.mpr ⟨lw_p34, List.forall_mem_cons.mpr ⟨lw_p35, List.forall_mem_cons.mpr ⟨lw_p36, List.forall_mem_cons.mpr ⟨lw_p37, List.forall_mem_cons.mpr ⟨lw_p38, List.forall_mem_cons.mpr ⟨lw_p39, List.forall_mem_cons.mpr ⟨lw_p40, List.forall_mem_cons.mpr ⟨lw_p41, List.forall_mem_cons.mpr ⟨lw_p42, List.forall_mem_cons.mpr ⟨lw_p43, List.forall_mem_cons.mpr ⟨lw_p44, List.forall_mem_cons.mpr ⟨lw_p45, List.forall_mem_cons.mpr ⟨lw_p46, List.forall_mem_cons.mpr ⟨lw_p47, fun _ h => absurd h List.not_mem_nil⟩⟩⟩⟩⟩⟩⟩⟩⟩⟩⟩⟩⟩⟩⟩⟩
theorem lw_p48 : lw_okq (⟨"SheetMarkerModel", "factorEnds", "()V"⟩, 52) := ⟨⟨by decide +kernel, by decide +kernel⟩, List.mem_of_getElem? (i := 785) (by decide +kernel), List.mem_of_getElem? (i := 1023) (by decide +kernel), List.mem_of_getElem? (i := 1024) (by decide +kernel)⟩
theorem lw_p49 : lw_okq (⟨"SheetMarkerModel", "joins", "()V"⟩, 52) := ⟨⟨by decide +kernel, by decide +kernel⟩, List.mem_of_getElem? (i := 785) (by decide +kernel), List.mem_of_getElem? (i := 1027) (by decide +kernel), List.mem_of_getElem? (i := 1028) (by decide +kernel)⟩
theorem lw_p50 : lw_okq (⟨"SheetMarkerModel", "sumEnds", "()V"⟩, 52) := ⟨⟨by decide +kernel, by decide +kernel⟩, List.mem_of_getElem? (i := 785) (by decide +kernel), List.mem_of_getElem? (i := 1034) (by decide +kernel), List.mem_of_getElem? (i := 1035) (by decide +kernel)⟩
theorem lw_p51 : lw_okq (⟨"SheetMarkerModel", "names0", "(I)J"⟩, 52) := ⟨⟨by decide +kernel, by decide +kernel⟩, List.mem_of_getElem? (i := 785) (by decide +kernel), List.mem_of_getElem? (i := 1038) (by decide +kernel), List.mem_of_getElem? (i := 1039) (by decide +kernel)⟩
theorem lw_p52 : lw_okq (⟨"SheetMarkerModel", "opOf", "(II)I"⟩, 52) := ⟨⟨by decide +kernel, by decide +kernel⟩, List.mem_of_getElem? (i := 785) (by decide +kernel), List.mem_of_getElem? (i := 1042) (by decide +kernel), List.mem_of_getElem? (i := 1043) (by decide +kernel)⟩
theorem lw_p53 : lw_okq (⟨"SheetMarkerModel", "isChanged", "(II)Z"⟩, 52) := ⟨⟨by decide +kernel, by decide +kernel⟩, List.mem_of_getElem? (i := 785) (by decide +kernel), List.mem_of_getElem? (i := 1046) (by decide +kernel), List.mem_of_getElem? (i := 1047) (by decide +kernel)⟩
theorem lw_p54 : lw_okq (⟨"SheetMarkerModel", "argOf", "(II)I"⟩, 52) := ⟨⟨by decide +kernel, by decide +kernel⟩, List.mem_of_getElem? (i := 785) (by decide +kernel), List.mem_of_getElem? (i := 1050) (by decide +kernel), List.mem_of_getElem? (i := 1051) (by decide +kernel)⟩
theorem lw_p55 : lw_okq (⟨"SheetMarkerModel", "arg2Of", "(II)I"⟩, 52) := ⟨⟨by decide +kernel, by decide +kernel⟩, List.mem_of_getElem? (i := 785) (by decide +kernel), List.mem_of_getElem? (i := 1054) (by decide +kernel), List.mem_of_getElem? (i := 1055) (by decide +kernel)⟩
theorem lw_p56 : lw_okq (⟨"SheetMarkerModel", "isWanted", "(I)Z"⟩, 52) := ⟨⟨by decide +kernel, by decide +kernel⟩, List.mem_of_getElem? (i := 785) (by decide +kernel), List.mem_of_getElem? (i := 1068) (by decide +kernel), List.mem_of_getElem? (i := 1069) (by decide +kernel)⟩
theorem lw_p57 : lw_okq (⟨"SheetMarkerModel", "is", "(III)Z"⟩, 52) := ⟨⟨by decide +kernel, by decide +kernel⟩, List.mem_of_getElem? (i := 785) (by decide +kernel), List.mem_of_getElem? (i := 1088) (by decide +kernel), List.mem_of_getElem? (i := 1089) (by decide +kernel)⟩
theorem lw_p58 : lw_okq (⟨"SheetMarkerModel", "tells", "(IIIZ)V"⟩, 52) := ⟨⟨by decide +kernel, by decide +kernel⟩, List.mem_of_getElem? (i := 785) (by decide +kernel), List.mem_of_getElem? (i := 1093) (by decide +kernel), List.mem_of_getElem? (i := 1094) (by decide +kernel)⟩
theorem lw_p59 : lw_okq (⟨"SheetMarkerModel", "tasks", "()V"⟩, 52) := ⟨⟨by decide +kernel, by decide +kernel⟩, List.mem_of_getElem? (i := 785) (by decide +kernel), List.mem_of_getElem? (i := 1097) (by decide +kernel), List.mem_of_getElem? (i := 1098) (by decide +kernel)⟩
theorem lw_p60 : lw_okq (⟨"SheetMarkerModel", "orders", "(IIZ)Z"⟩, 52) := ⟨⟨by decide +kernel, by decide +kernel⟩, List.mem_of_getElem? (i := 785) (by decide +kernel), List.mem_of_getElem? (i := 1101) (by decide +kernel), List.mem_of_getElem? (i := 1102) (by decide +kernel)⟩
theorem lw_p61 : lw_okq (⟨"SheetMarkerModel", "isTold", "(IIZ)Z"⟩, 52) := ⟨⟨by decide +kernel, by decide +kernel⟩, List.mem_of_getElem? (i := 785) (by decide +kernel), List.mem_of_getElem? (i := 1108) (by decide +kernel), List.mem_of_getElem? (i := 1109) (by decide +kernel)⟩
theorem lw_p62 : lw_okq (⟨"SheetMarkerModel", "needs", "(II)J"⟩, 52) := ⟨⟨by decide +kernel, by decide +kernel⟩, List.mem_of_getElem? (i := 785) (by decide +kernel), List.mem_of_getElem? (i := 1112) (by decide +kernel), List.mem_of_getElem? (i := 1113) (by decide +kernel)⟩
theorem lw_p63 : lw_okq (⟨"SheetMarkerModel", "works", "(IIIZ)V"⟩, 52) := ⟨⟨by decide +kernel, by decide +kernel⟩, List.mem_of_getElem? (i := 785) (by decide +kernel), List.mem_of_getElem? (i := 1116) (by decide +kernel), List.mem_of_getElem? (i := 1117) (by decide +kernel)⟩
def lw_privs_4 : List (MethodName × Nat) := [(⟨"SheetMarkerModel", "factorEnds", "()V"⟩, 52), (⟨"SheetMarkerModel", "joins", "()V"⟩, 52), (⟨"SheetMarkerModel", "sumEnds", "()V"⟩, 52), (⟨"SheetMarkerModel", "names0", "(I)J"⟩, 52), (⟨"SheetMarkerModel", "opOf", "(II)I"⟩, 52), (⟨"SheetMarkerModel", "isChanged", "(II)Z"⟩, 52), (⟨"SheetMarkerModel", "argOf", "(II)I"⟩, 52), (⟨"SheetMarkerModel", "arg2Of", "(II)I"⟩, 52), (⟨"SheetMarkerModel", "isWanted", "(I)Z"⟩, 52), (⟨"SheetMarkerModel", "is", "(III)Z"⟩, 52), (⟨"SheetMarkerModel", "tells", "(IIIZ)V"⟩, 52), (⟨"SheetMarkerModel", "tasks", "()V"⟩, 52), (⟨"SheetMarkerModel", "orders", "(IIZ)Z"⟩, 52), (⟨"SheetMarkerModel", "isTold", "(IIZ)Z"⟩, 52), (⟨"SheetMarkerModel", "needs", "(II)J"⟩, 52), (⟨"SheetMarkerModel", "works", "(IIIZ)V"⟩, 52)]
theorem lw_r4 : ∀ q ∈ lw_privs_4, lw_okq q := List.forall_mem_cons.mpr ⟨lw_p48, List.forall_mem_cons.mpr ⟨lw_p49, List.forall_mem_cons.mpr ⟨lw_p50, List.forall_mem_cons.mpr ⟨lw_p51, List.forall_mem_cons.mpr ⟨lw_p52, List.forall_mem_cons.mpr ⟨lw_p53, List.forall_mem_cons.mpr ⟨lw_p54, List.forall_mem_cons.mpr ⟨lw_p55, List.forall_mem_cons.mpr ⟨lw_p56, List.forall_mem_cons.mpr ⟨lw_p57, List.forall_mem_cons.mpr ⟨lw_p58, List.forall_mem_cons.mpr ⟨lw_p59, List.forall_mem_cons.mpr ⟨lw_p60, List.forall_mem_cons.mpr ⟨lw_p61, List.forall_mem_cons.mpr ⟨lw_p62, List.forall_mem_cons.mpr ⟨lw_p63, fun _ h => absurd h List.not_mem_nil⟩⟩⟩⟩⟩⟩⟩⟩⟩⟩⟩⟩⟩⟩⟩⟩
theorem lw_p64 : lw_okq (⟨"SheetMarkerModel", "reckons", "(I)V"⟩, 52) := ⟨⟨by decide +kernel, by decide +kernel⟩, List.mem_of_getElem? (i := 785) (by decide +kernel), List.mem_of_getElem? (i := 1120) (by decide +kernel), List.mem_of_getElem? (i := 1121) (by decide +kernel)⟩
theorem lw_p65 : lw_okq (⟨"SheetMarkerModel", "comes", "(J)V"⟩, 52) := ⟨⟨by decide +kernel, by decide +kernel⟩, List.mem_of_getElem? (i := 785) (by decide +kernel), List.mem_of_getElem? (i := 1124) (by decide +kernel), List.mem_of_getElem? (i := 1125) (by decide +kernel)⟩
theorem lw_p66 : lw_okq (⟨"SheetMarkerModel", "names", "(I)V"⟩, 52) := ⟨⟨by decide +kernel, by decide +kernel⟩, List.mem_of_getElem? (i := 785) (by decide +kernel), List.mem_of_getElem? (i := 1130) (by decide +kernel), List.mem_of_getElem? (i := 1131) (by decide +kernel)⟩
theorem lw_p67 : lw_okq (⟨"SheetMarkerModel", "range", "(II)V"⟩, 52) := ⟨⟨by decide +kernel, by decide +kernel⟩, List.mem_of_getElem? (i := 785) (by decide +kernel), List.mem_of_getElem? (i := 1134) (by decide +kernel), List.mem_of_getElem? (i := 1135) (by decide +kernel)⟩
theorem lw_p68 : lw_okq (⟨"SheetMarkerModel", "two", "(I)V"⟩, 52) := ⟨⟨by decide +kernel, by decide +kernel⟩, List.mem_of_getElem? (i := 785) (by decide +kernel), List.mem_of_getElem? (i := 1138) (by decide +kernel), List.mem_of_getElem? (i := 1139) (by decide +kernel)⟩
theorem lw_p69 : lw_okq (⟨"SheetMarkerModel", "times", "(JJ)V"⟩, 52) := ⟨⟨by decide +kernel, by decide +kernel⟩, List.mem_of_getElem? (i := 785) (by decide +kernel), List.mem_of_getElem? (i := 1142) (by decide +kernel), List.mem_of_getElem? (i := 1143) (by decide +kernel)⟩
theorem lw_p70 : lw_okq (⟨"SheetMarkerModel", "parts", "(JJ)V"⟩, 52) := ⟨⟨by decide +kernel, by decide +kernel⟩, List.mem_of_getElem? (i := 785) (by decide +kernel), List.mem_of_getElem? (i := 1146) (by decide +kernel), List.mem_of_getElem? (i := 1147) (by decide +kernel)⟩
theorem lw_p71 : lw_okq (⟨"SheetMarkerModel", "kindOf", "(II)I"⟩, 52) := ⟨⟨by decide +kernel, by decide +kernel⟩, List.mem_of_getElem? (i := 785) (by decide +kernel), List.mem_of_getElem? (i := 1169) (by decide +kernel), List.mem_of_getElem? (i := 1170) (by decide +kernel)⟩
theorem lw_p72 : lw_okq (⟨"SheetMarkerModel", "isAlike", "(IIZ)Z"⟩, 52) := ⟨⟨by decide +kernel, by decide +kernel⟩, List.mem_of_getElem? (i := 785) (by decide +kernel), List.mem_of_getElem? (i := 1173) (by decide +kernel), List.mem_of_getElem? (i := 1174) (by decide +kernel)⟩
theorem lw_p73 : lw_okq (⟨"SheetMarkerModel", "isSlip", "(II)Z"⟩, 52) := ⟨⟨by decide +kernel, by decide +kernel⟩, List.mem_of_getElem? (i := 785) (by decide +kernel), List.mem_of_getElem? (i := 1177) (by decide +kernel), List.mem_of_getElem? (i := 1178) (by decide +kernel)⟩
theorem lw_p74 : lw_okq (⟨"SheetMarkerModel", "slips", "(IIIIZ)Z"⟩, 52) := ⟨⟨by decide +kernel, by decide +kernel⟩, List.mem_of_getElem? (i := 785) (by decide +kernel), List.mem_of_getElem? (i := 1181) (by decide +kernel), List.mem_of_getElem? (i := 1182) (by decide +kernel)⟩
theorem lw_p75 : lw_okq (⟨"SheetMarkerModel", "tries", "(IIIIII)Z"⟩, 52) := ⟨⟨by decide +kernel, by decide +kernel⟩, List.mem_of_getElem? (i := 785) (by decide +kernel), List.mem_of_getElem? (i := 1188) (by decide +kernel), List.mem_of_getElem? (i := 1189) (by decide +kernel)⟩
theorem lw_p76 : lw_okq (⟨"SheetMarkerModel", "pointsOf", "(II)I"⟩, 52) := ⟨⟨by decide +kernel, by decide +kernel⟩, List.mem_of_getElem? (i := 785) (by decide +kernel), List.mem_of_getElem? (i := 1199) (by decide +kernel), List.mem_of_getElem? (i := 1200) (by decide +kernel)⟩
theorem lw_p77 : lw_okq (⟨"SheetMarkerModel", "areOneText", "(II)Z"⟩, 52) := ⟨⟨by decide +kernel, by decide +kernel⟩, List.mem_of_getElem? (i := 785) (by decide +kernel), List.mem_of_getElem? (i := 1215) (by decide +kernel), List.mem_of_getElem? (i := 1216) (by decide +kernel)⟩
theorem lw_p78 : lw_okq (⟨"SheetMarkerModel", "comesTo", "(III)Z"⟩, 52) := ⟨⟨by decide +kernel, by decide +kernel⟩, List.mem_of_getElem? (i := 785) (by decide +kernel), List.mem_of_getElem? (i := 1223) (by decide +kernel), List.mem_of_getElem? (i := 1224) (by decide +kernel)⟩
def lw_privs_5 : List (MethodName × Nat) := [(⟨"SheetMarkerModel", "reckons", "(I)V"⟩, 52), (⟨"SheetMarkerModel", "comes", "(J)V"⟩, 52), (⟨"SheetMarkerModel", "names", "(I)V"⟩, 52), (⟨"SheetMarkerModel", "range", "(II)V"⟩, 52), (⟨"SheetMarkerModel", "two", "(I)V"⟩, 52), (⟨"SheetMarkerModel", "times", "(JJ)V"⟩, 52), (⟨"SheetMarkerModel", "parts", "(JJ)V"⟩, 52), (⟨"SheetMarkerModel", "kindOf", "(II)I"⟩, 52), (⟨"SheetMarkerModel", "isAlike", "(IIZ)Z"⟩, 52), (⟨"SheetMarkerModel", "isSlip", "(II)Z"⟩, 52), (⟨"SheetMarkerModel", "slips", "(IIIIZ)Z"⟩, 52), (⟨"SheetMarkerModel", "tries", "(IIIIII)Z"⟩, 52), (⟨"SheetMarkerModel", "pointsOf", "(II)I"⟩, 52), (⟨"SheetMarkerModel", "areOneText", "(II)Z"⟩, 52), (⟨"SheetMarkerModel", "comesTo", "(III)Z"⟩, 52)]
theorem lw_r5 : ∀ q ∈ lw_privs_5, lw_okq q := List.forall_mem_cons.mpr ⟨lw_p64, List.forall_mem_cons.mpr ⟨lw_p65, List.forall_mem_cons.mpr ⟨lw_p66, List.forall_mem_cons.mpr ⟨lw_p67, List.forall_mem_cons.mpr ⟨lw_p68, List.forall_mem_cons.mpr ⟨lw_p69, List.forall_mem_cons.mpr ⟨lw_p70, List.forall_mem_cons.mpr ⟨lw_p71, List.forall_mem_cons.mpr ⟨lw_p72, List.forall_mem_cons.mpr ⟨lw_p73, List.forall_mem_cons.mpr ⟨lw_p74, List.forall_mem_cons.mpr ⟨lw_p75, List.forall_mem_cons.mpr ⟨lw_p76, List.forall_mem_cons.mpr ⟨lw_p77, List.forall_mem_cons.mpr ⟨lw_p78, fun _ h => absurd h List.not_mem_nil⟩⟩⟩⟩⟩⟩⟩⟩⟩⟩⟩⟩⟩⟩⟩
def lw_privs : List (MethodName × Nat) := lw_privs_1 ++ (lw_privs_2 ++ (lw_privs_3 ++ (lw_privs_4 ++ (lw_privs_5))))
def lw_tbl : List Cond := k2_sels lw_privs ++ tables_1
theorem lw_privs_ok : ∀ q ∈ lw_privs, lw_okq q := by
  show ∀ q ∈ lw_privs_1 ++ (lw_privs_2 ++ (lw_privs_3 ++ (lw_privs_4 ++ (lw_privs_5)))), lw_okq q
  exact List.forall_mem_append.mpr ⟨lw_r1, List.forall_mem_append.mpr ⟨lw_r2, List.forall_mem_append.mpr ⟨lw_r3, List.forall_mem_append.mpr ⟨lw_r4, lw_r5⟩⟩⟩⟩
-- ===== end of PART A; then your names; then what follows =====
def RX0 : String := "SheetMarker$Change"
def TX0 : u_T := fun k => match k with
  | 0 => ("SheetMarker$Change", "place", "I", false)
  | _ => ("SheetMarker$Change", "made", "I", false)
def tyX0 : Nat → FieldType := fun k => match k with
  | 0 => .int
  | _ => .int
abbrev wsX00 : List Cond := u_ws RX0 TX0 2
theorem nmX0 : ∀ a, a < 2 → ∀ b, b < 2 → a ≠ b → (TX0 a).2.1 ≠ (TX0 b).2.1 := by decide +kernel
theorem tyX0_ok : ∀ k, k < 2 → parseFieldDescriptor (TX0 k).2.2.1 = some (tyX0 k) := by decide +kernel
abbrev cX0_init : ByteArray := prog_2_method_1_code
def yX0_init : MethodName := ⟨RX0, "<init>", "()V"⟩
abbrev cX0_set : ByteArray := prog_2_method_2_code
def yX0_set : MethodName := ⟨RX0, "set", "(II)V"⟩
abbrev cX0_stepOf : ByteArray := prog_2_method_3_code
def yX0_stepOf : MethodName := ⟨RX0, "stepOf", "(LSheetMarker$Formula;I)I"⟩
abbrev cX0_operandOf : ByteArray := prog_2_method_4_code
def yX0_operandOf : MethodName := ⟨RX0, "operandOf", "(LSheetMarker$Formula;I)I"⟩
def RX1 : String := "SheetMarker$Figures"
def TX1 : u_T := fun k => match k with
  | 0 => ("SheetMarker$Figures", "lesson", "LSheetMarker$Lesson;", true)
  | 1 => ("SheetMarker$Figures", "machine", "LSheetMarker$Machine;", true)
  | 2 => ("SheetMarker$Figures", "unchanged", "LSheetMarker$Change;", true)
  | 3 => ("SheetMarker$Figures", "figures", "[J", true)
  | 4 => ("SheetMarker$Figures", "errors", "[I", true)
  | 5 => ("SheetMarker$Figures", "order", "[I", true)
  | 6 => ("SheetMarker$Figures", "ordered", "I", false)
  | _ => ("SheetMarker$Figures", "settled", "J", false)
def tyX1 : Nat → FieldType := fun k => match k with
  | 0 => .object "SheetMarker$Lesson"
  | 1 => .object "SheetMarker$Machine"
  | 2 => .object "SheetMarker$Change"
  | 3 => .array .long
  | 4 => .array .int
  | 5 => .array .int
  | 6 => .int
  | _ => .long
abbrev wsX10 : List Cond := u_ws RX1 TX1 8
theorem nmX1 : ∀ a, a < 8 → ∀ b, b < 8 → a ≠ b → (TX1 a).2.1 ≠ (TX1 b).2.1 := by decide +kernel
theorem tyX1_ok : ∀ k, k < 8 → parseFieldDescriptor (TX1 k).2.2.1 = some (tyX1 k) := by decide +kernel
abbrev cX1_init : ByteArray := prog_3_method_1_code
def yX1_init : MethodName := ⟨RX1, "<init>", "(LSheetMarker$Lesson;LSheetMarker$Machine;)V"⟩
abbrev cX1_figureAt : ByteArray := prog_3_method_2_code
def yX1_figureAt : MethodName := ⟨RX1, "figureAt", "(II)J"⟩
abbrev cX1_errorAt : ByteArray := prog_3_method_3_code
def yX1_errorAt : MethodName := ⟨RX1, "errorAt", "(II)I"⟩
abbrev cX1_isAlike : ByteArray := prog_3_method_4_code
def yX1_isAlike : MethodName := ⟨RX1, "isAlike", "(LSheetMarker$Figures;II)Z"⟩
abbrev cX1_settles : ByteArray := prog_3_method_5_code
def yX1_settles : MethodName := ⟨RX1, "settles", "(J)Z"⟩
abbrev cX1_reckonOwn : ByteArray := prog_3_method_6_code
def yX1_reckonOwn : MethodName := ⟨RX1, "reckonOwn", "(LSheetMarker$Sheet;)V"⟩
abbrev cX1_reckonRight : ByteArray := prog_3_method_7_code
def yX1_reckonRight : MethodName := ⟨RX1, "reckonRight", "(LSheetMarker$Sheet;ILSheetMarker$Figures;)V"⟩
abbrev cX1_plan : ByteArray := prog_3_method_8_code
def yX1_plan : MethodName := ⟨RX1, "plan", "(LSheetMarker$Sheet;JI)V"⟩
abbrev cX1_append : ByteArray := prog_3_method_9_code
def yX1_append : MethodName := ⟨RX1, "append", "(I)V"⟩
abbrev cX1_layHeld : ByteArray := prog_3_method_10_code
def yX1_layHeld : MethodName := ⟨RX1, "layHeld", "(LSheetMarker$Sheet;I)V"⟩
abbrev cX1_layLent : ByteArray := prog_3_method_11_code
def yX1_layLent : MethodName := ⟨RX1, "layLent", "(JLSheetMarker$Figures;I)V"⟩
abbrev cX1_follow : ByteArray := prog_3_method_12_code
def yX1_follow : MethodName := ⟨RX1, "follow", "(LSheetMarker$Sheet;I)V"⟩
abbrev cX1_put : ByteArray := prog_3_method_13_code
def yX1_put : MethodName := ⟨RX1, "put", "(IIJI)V"⟩
def RX2 : String := "SheetMarker$Formula"
def TX2 : u_T := fun k => match k with
  | 0 => ("SheetMarker$Formula", "text", "[I", true)
  | 1 => ("SheetMarker$Formula", "steps", "[I", true)
  | 2 => ("SheetMarker$Formula", "operands", "[I", true)
  | 3 => ("SheetMarker$Formula", "order", "[I", true)
  | _ => ("SheetMarker$Formula", "size", "I", false)
def tyX2 : Nat → FieldType := fun k => match k with
  | 0 => .array .int
  | 1 => .array .int
  | 2 => .array .int
  | 3 => .array .int
  | _ => .int
abbrev wsX20 : List Cond := u_ws RX2 TX2 5
theorem nmX2 : ∀ a, a < 5 → ∀ b, b < 5 → a ≠ b → (TX2 a).2.1 ≠ (TX2 b).2.1 := by decide +kernel
theorem tyX2_ok : ∀ k, k < 5 → parseFieldDescriptor (TX2 k).2.2.1 = some (tyX2 k) := by decide +kernel
abbrev cX2_init : ByteArray := prog_4_method_1_code
def yX2_init : MethodName := ⟨RX2, "<init>", "(I)V"⟩
abbrev cX2_length : ByteArray := prog_4_method_2_code
def yX2_length : MethodName := ⟨RX2, "length", "()I"⟩
abbrev cX2_byteAt : ByteArray := prog_4_method_3_code
def yX2_byteAt : MethodName := ⟨RX2, "byteAt", "(I)I"⟩
abbrev cX2_putByte : ByteArray := prog_4_method_4_code
def yX2_putByte : MethodName := ⟨RX2, "putByte", "(II)V"⟩
abbrev cX2_hasTextOf : ByteArray := prog_4_method_5_code
def yX2_hasTextOf : MethodName := ⟨RX2, "hasTextOf", "(LSheetMarker$Formula;)Z"⟩
abbrev cX2_addStep : ByteArray := prog_4_method_6_code
def yX2_addStep : MethodName := ⟨RX2, "addStep", "(III)V"⟩
abbrev cX2_countSteps : ByteArray := prog_4_method_7_code
def yX2_countSteps : MethodName := ⟨RX2, "countSteps", "()I"⟩
abbrev cX2_placeOf : ByteArray := prog_4_method_8_code
def yX2_placeOf : MethodName := ⟨RX2, "placeOf", "(I)I"⟩
abbrev cX2_stepAt : ByteArray := prog_4_method_9_code
def yX2_stepAt : MethodName := ⟨RX2, "stepAt", "(I)I"⟩
abbrev cX2_operandAt : ByteArray := prog_4_method_10_code
def yX2_operandAt : MethodName := ⟨RX2, "operandAt", "(I)I"⟩
abbrev cX2_needs : ByteArray := prog_4_method_11_code
def yX2_needs : MethodName := ⟨RX2, "needs", "(LSheetMarker$Change;)J"⟩
def RX3 : String := "SheetMarker$Judge"
def TX3 : u_T := fun k => match k with
  | 0 => ("SheetMarker$Judge", "lesson", "LSheetMarker$Lesson;", true)
  | 1 => ("SheetMarker$Judge", "machine", "LSheetMarker$Machine;", true)
  | 2 => ("SheetMarker$Judge", "change", "LSheetMarker$Change;", true)
  | 3 => ("SheetMarker$Judge", "task", "LSheetMarker$Figures;", true)
  | 4 => ("SheetMarker$Judge", "own", "LSheetMarker$Figures;", true)
  | 5 => ("SheetMarker$Judge", "right", "LSheetMarker$Figures;", true)
  | 6 => ("SheetMarker$Judge", "slipPlace", "I", false)
  | _ => ("SheetMarker$Judge", "slipMade", "I", false)
def tyX3 : Nat → FieldType := fun k => match k with
  | 0 => .object "SheetMarker$Lesson"
  | 1 => .object "SheetMarker$Machine"
  | 2 => .object "SheetMarker$Change"
  | 3 => .object "SheetMarker$Figures"
  | 4 => .object "SheetMarker$Figures"
  | 5 => .object "SheetMarker$Figures"
  | 6 => .int
  | _ => .int
abbrev wsX30 : List Cond := u_ws RX3 TX3 8
theorem nmX3 : ∀ a, a < 8 → ∀ b, b < 8 → a ≠ b → (TX3 a).2.1 ≠ (TX3 b).2.1 := by decide +kernel
theorem tyX3_ok : ∀ k, k < 8 → parseFieldDescriptor (TX3 k).2.2.1 = some (tyX3 k) := by decide +kernel
abbrev cX3_init : ByteArray := prog_5_method_1_code
def yX3_init : MethodName := ⟨RX3, "<init>", "(LSheetMarker$Lesson;LSheetMarker$Machine;LSheetMarker$Figures;LSheetMarker$Figures;LSheetMarker$Figures;)V"⟩
abbrev cX3_slipPlace : ByteArray := prog_5_method_2_code
def yX3_slipPlace : MethodName := ⟨RX3, "slipPlace", "()I"⟩
abbrev cX3_slipMade : ByteArray := prog_5_method_3_code
def yX3_slipMade : MethodName := ⟨RX3, "slipMade", "()I"⟩
abbrev cX3_open : ByteArray := prog_5_method_4_code
def yX3_open : MethodName := ⟨RX3, "open", "(LSheetMarker$Sheet;LSheetMarker$Sheet;)V"⟩
abbrev cX3_judge : ByteArray := prog_5_method_5_code
def yX3_judge : MethodName := ⟨RX3, "judge", "(LSheetMarker$Sheet;I)I"⟩
abbrev cX3_judgeNumber : ByteArray := prog_5_method_6_code
def yX3_judgeNumber : MethodName := ⟨RX3, "judgeNumber", "(LSheetMarker$Sheet;I)I"⟩
abbrev cX3_isAlike : ByteArray := prog_5_method_7_code
def yX3_isAlike : MethodName := ⟨RX3, "isAlike", "(LSheetMarker$Figures;I)Z"⟩
abbrev cX3_findsSlip : ByteArray := prog_5_method_8_code
def yX3_findsSlip : MethodName := ⟨RX3, "findsSlip", "(LSheetMarker$Formula;I)Z"⟩
abbrev cX3_isSoChanged : ByteArray := prog_5_method_9_code
def yX3_isSoChanged : MethodName := ⟨RX3, "isSoChanged", "(LSheetMarker$Formula;III)Z"⟩
abbrev cX3_option : ByteArray := prog_5_method_10_code
def yX3_option : MethodName := ⟨RX3, "option", "(LSheetMarker$Formula;II)I"⟩
abbrev cX3_neighbour : ByteArray := prog_5_method_11_code
def yX3_neighbour : MethodName := ⟨RX3, "neighbour", "(II)I"⟩
def RX4 : String := "SheetMarker$Lesson"
def TX4 : u_T := fun k => match k with
  | 0 => ("SheetMarker$Lesson", "gifts", "[I", true)
  | 1 => ("SheetMarker$Lesson", "worths", "[I", true)
  | 2 => ("SheetMarker$Lesson", "inputs", "J", false)
  | 3 => ("SheetMarker$Lesson", "wanted", "J", false)
  | _ => ("SheetMarker$Lesson", "worlds", "I", false)
def tyX4 : Nat → FieldType := fun k => match k with
  | 0 => .array .int
  | 1 => .array .int
  | 2 => .long
  | 3 => .long
  | _ => .int
abbrev wsX40 : List Cond := u_ws RX4 TX4 5
theorem nmX4 : ∀ a, a < 5 → ∀ b, b < 5 → a ≠ b → (TX4 a).2.1 ≠ (TX4 b).2.1 := by decide +kernel
theorem tyX4_ok : ∀ k, k < 5 → parseFieldDescriptor (TX4 k).2.2.1 = some (tyX4 k) := by decide +kernel
abbrev cX4_init : ByteArray := prog_6_method_1_code
def yX4_init : MethodName := ⟨RX4, "<init>", "()V"⟩
abbrev cX4_inputs : ByteArray := prog_6_method_2_code
def yX4_inputs : MethodName := ⟨RX4, "inputs", "()J"⟩
abbrev cX4_wanted : ByteArray := prog_6_method_3_code
def yX4_wanted : MethodName := ⟨RX4, "wanted", "()J"⟩
abbrev cX4_isInput : ByteArray := prog_6_method_4_code
def yX4_isInput : MethodName := ⟨RX4, "isInput", "(I)Z"⟩
abbrev cX4_isWanted : ByteArray := prog_6_method_5_code
def yX4_isWanted : MethodName := ⟨RX4, "isWanted", "(I)Z"⟩
abbrev cX4_isWorld : ByteArray := prog_6_method_6_code
def yX4_isWorld : MethodName := ⟨RX4, "isWorld", "(I)Z"⟩
abbrev cX4_countInputs : ByteArray := prog_6_method_7_code
def yX4_countInputs : MethodName := ⟨RX4, "countInputs", "()I"⟩
abbrev cX4_countWanted : ByteArray := prog_6_method_8_code
def yX4_countWanted : MethodName := ⟨RX4, "countWanted", "()I"⟩
abbrev cX4_countWorlds : ByteArray := prog_6_method_9_code
def yX4_countWorlds : MethodName := ⟨RX4, "countWorlds", "()I"⟩
abbrev cX4_worth : ByteArray := prog_6_method_10_code
def yX4_worth : MethodName := ⟨RX4, "worth", "(I)I"⟩
abbrev cX4_worthOfAll : ByteArray := prog_6_method_11_code
def yX4_worthOfAll : MethodName := ⟨RX4, "worthOfAll", "()I"⟩
abbrev cX4_given : ByteArray := prog_6_method_12_code
def yX4_given : MethodName := ⟨RX4, "given", "(II)I"⟩
abbrev cX4_addInput : ByteArray := prog_6_method_13_code
def yX4_addInput : MethodName := ⟨RX4, "addInput", "(I)V"⟩
abbrev cX4_want : ByteArray := prog_6_method_14_code
def yX4_want : MethodName := ⟨RX4, "want", "(II)V"⟩
abbrev cX4_addWorld : ByteArray := prog_6_method_15_code
def yX4_addWorld : MethodName := ⟨RX4, "addWorld", "()I"⟩
abbrev cX4_put : ByteArray := prog_6_method_16_code
def yX4_put : MethodName := ⟨RX4, "put", "(III)V"⟩
def RX5 : String := "SheetMarker$Machine"
def TX5 : u_T := fun k => match k with
  | 0 => ("SheetMarker$Machine", "stack", "[J", true)
  | 1 => ("SheetMarker$Machine", "height", "I", false)
  | 2 => ("SheetMarker$Machine", "error", "I", false)
  | _ => ("SheetMarker$Machine", "result", "J", false)
def tyX5 : Nat → FieldType := fun k => match k with
  | 0 => .array .long
  | 1 => .int
  | 2 => .int
  | _ => .long
abbrev wsX50 : List Cond := u_ws RX5 TX5 4
theorem nmX5 : ∀ a, a < 4 → ∀ b, b < 4 → a ≠ b → (TX5 a).2.1 ≠ (TX5 b).2.1 := by decide +kernel
theorem tyX5_ok : ∀ k, k < 4 → parseFieldDescriptor (TX5 k).2.2.1 = some (tyX5 k) := by decide +kernel
abbrev cX5_init : ByteArray := prog_7_method_1_code
def yX5_init : MethodName := ⟨RX5, "<init>", "()V"⟩
abbrev cX5_errorMet : ByteArray := prog_7_method_2_code
def yX5_errorMet : MethodName := ⟨RX5, "errorMet", "()I"⟩
abbrev cX5_result : ByteArray := prog_7_method_3_code
def yX5_result : MethodName := ⟨RX5, "result", "()J"⟩
abbrev cX5_reckon : ByteArray := prog_7_method_4_code
def yX5_reckon : MethodName := ⟨RX5, "reckon", "(LSheetMarker$Formula;LSheetMarker$Change;LSheetMarker$Figures;I)V"⟩
abbrev cX5_push : ByteArray := prog_7_method_5_code
def yX5_push : MethodName := ⟨RX5, "push", "(J)V"⟩
abbrev cX5_pop : ByteArray := prog_7_method_6_code
def yX5_pop : MethodName := ⟨RX5, "pop", "()J"⟩
abbrev cX5_pushCell : ByteArray := prog_7_method_7_code
def yX5_pushCell : MethodName := ⟨RX5, "pushCell", "(LSheetMarker$Figures;II)V"⟩
abbrev cX5_pushRectangle : ByteArray := prog_7_method_8_code
def yX5_pushRectangle : MethodName := ⟨RX5, "pushRectangle", "(LSheetMarker$Figures;I)V"⟩
abbrev cX5_join : ByteArray := prog_7_method_9_code
def yX5_join : MethodName := ⟨RX5, "join", "(I)V"⟩
abbrev cX5_multiply : ByteArray := prog_7_method_10_code
def yX5_multiply : MethodName := ⟨RX5, "multiply", "(JJ)V"⟩
abbrev cX5_divide : ByteArray := prog_7_method_11_code
def yX5_divide : MethodName := ⟨RX5, "divide", "(JJ)V"⟩
def RX6 : String := "SheetMarker$Parser"
def TX6 : u_T := fun k => match k with
  | 0 => ("SheetMarker$Parser", "formula", "LSheetMarker$Formula;", true)
  | 1 => ("SheetMarker$Parser", "at", "I", false)
  | _ => ("SheetMarker$Parser", "fault", "I", false)
def tyX6 : Nat → FieldType := fun k => match k with
  | 0 => .object "SheetMarker$Formula"
  | 1 => .int
  | _ => .int
abbrev wsX60 : List Cond := u_ws RX6 TX6 3
theorem nmX6 : ∀ a, a < 3 → ∀ b, b < 3 → a ≠ b → (TX6 a).2.1 ≠ (TX6 b).2.1 := by decide +kernel
theorem tyX6_ok : ∀ k, k < 3 → parseFieldDescriptor (TX6 k).2.2.1 = some (tyX6 k) := by decide +kernel
abbrev cX6_init : ByteArray := prog_8_method_1_code
def yX6_init : MethodName := ⟨RX6, "<init>", "(LSheetMarker$Formula;)V"⟩
abbrev cX6_parse : ByteArray := prog_8_method_2_code
def yX6_parse : MethodName := ⟨RX6, "parse", "()I"⟩
abbrev cX6_next : ByteArray := prog_8_method_3_code
def yX6_next : MethodName := ⟨RX6, "next", "()I"⟩
abbrev cX6_fail : ByteArray := prog_8_method_4_code
def yX6_fail : MethodName := ⟨RX6, "fail", "(I)V"⟩
abbrev cX6_pass : ByteArray := prog_8_method_5_code
def yX6_pass : MethodName := ⟨RX6, "pass", "(I)V"⟩
abbrev cX6_passWithin : ByteArray := prog_8_method_6_code
def yX6_passWithin : MethodName := ⟨RX6, "passWithin", "(II)I"⟩
abbrev cX6_readSum : ByteArray := prog_8_method_7_code
def yX6_readSum : MethodName := ⟨RX6, "readSum", "(I)V"⟩
abbrev cX6_readProduct : ByteArray := prog_8_method_8_code
def yX6_readProduct : MethodName := ⟨RX6, "readProduct", "(I)V"⟩
abbrev cX6_readFactor : ByteArray := prog_8_method_9_code
def yX6_readFactor : MethodName := ⟨RX6, "readFactor", "(I)V"⟩
abbrev cX6_readNegative : ByteArray := prog_8_method_10_code
def yX6_readNegative : MethodName := ⟨RX6, "readNegative", "(I)V"⟩
abbrev cX6_readGreater : ByteArray := prog_8_method_11_code
def yX6_readGreater : MethodName := ⟨RX6, "readGreater", "(I)V"⟩
abbrev cX6_readRectangle : ByteArray := prog_8_method_12_code
def yX6_readRectangle : MethodName := ⟨RX6, "readRectangle", "()V"⟩
abbrev cX6_readNumber : ByteArray := prog_8_method_13_code
def yX6_readNumber : MethodName := ⟨RX6, "readNumber", "()V"⟩
abbrev cX6_readCell : ByteArray := prog_8_method_14_code
def yX6_readCell : MethodName := ⟨RX6, "readCell", "(I)V"⟩
abbrev cX6_isDigit : ByteArray := prog_8_method_15_code
def yX6_isDigit : MethodName := ⟨RX6, "isDigit", "(I)Z"⟩
def RX7 : String := "SheetMarker$Sheet"
def TX7 : u_T := fun k => match k with
  | 0 => ("SheetMarker$Sheet", "unchanged", "LSheetMarker$Change;", true)
  | 1 => ("SheetMarker$Sheet", "held", "[I", true)
  | 2 => ("SheetMarker$Sheet", "numbers", "[I", true)
  | 3 => ("SheetMarker$Sheet", "formulas", "[LSheetMarker$Formula;", true)
  | 4 => ("SheetMarker$Sheet", "needs", "[J", true)
  | _ => ("SheetMarker$Sheet", "reckoned", "J", false)
def tyX7 : Nat → FieldType := fun k => match k with
  | 0 => .object "SheetMarker$Change"
  | 1 => .array .int
  | 2 => .array .int
  | 3 => .array (.object "SheetMarker$Formula")
  | 4 => .array .long
  | _ => .long
abbrev wsX70 : List Cond := u_ws RX7 TX7 6
theorem nmX7 : ∀ a, a < 6 → ∀ b, b < 6 → a ≠ b → (TX7 a).2.1 ≠ (TX7 b).2.1 := by decide +kernel
theorem tyX7_ok : ∀ k, k < 6 → parseFieldDescriptor (TX7 k).2.2.1 = some (tyX7 k) := by decide +kernel
abbrev cX7_init : ByteArray := prog_9_method_1_code
def yX7_init : MethodName := ⟨RX7, "<init>", "()V"⟩
abbrev cX7_empty : ByteArray := prog_9_method_2_code
def yX7_empty : MethodName := ⟨RX7, "empty", "(I)V"⟩
abbrev cX7_putNumber : ByteArray := prog_9_method_3_code
def yX7_putNumber : MethodName := ⟨RX7, "putNumber", "(II)V"⟩
abbrev cX7_putFormula : ByteArray := prog_9_method_4_code
def yX7_putFormula : MethodName := ⟨RX7, "putFormula", "(ILSheetMarker$Formula;)V"⟩
abbrev cX7_put : ByteArray := prog_9_method_5_code
def yX7_put : MethodName := ⟨RX7, "put", "(IIILSheetMarker$Formula;J)V"⟩
abbrev cX7_reckoned : ByteArray := prog_9_method_6_code
def yX7_reckoned : MethodName := ⟨RX7, "reckoned", "()J"⟩
abbrev cX7_heldAt : ByteArray := prog_9_method_7_code
def yX7_heldAt : MethodName := ⟨RX7, "heldAt", "(I)I"⟩
abbrev cX7_numberAt : ByteArray := prog_9_method_8_code
def yX7_numberAt : MethodName := ⟨RX7, "numberAt", "(I)I"⟩
abbrev cX7_formulaAt : ByteArray := prog_9_method_9_code
def yX7_formulaAt : MethodName := ⟨RX7, "formulaAt", "(I)LSheetMarker$Formula;"⟩
abbrev cX7_needsAt : ByteArray := prog_9_method_10_code
def yX7_needsAt : MethodName := ⟨RX7, "needsAt", "(I)J"⟩
def RX8 : String := "SheetMarker$Tape"
def TX8 : u_T := fun k => match k with
  | 0 => ("SheetMarker$Tape", "bytes", "[I", true)
  | _ => ("SheetMarker$Tape", "length", "I", false)
def tyX8 : Nat → FieldType := fun k => match k with
  | 0 => .array .int
  | _ => .int
abbrev wsX80 : List Cond := u_ws RX8 TX8 2
theorem nmX8 : ∀ a, a < 2 → ∀ b, b < 2 → a ≠ b → (TX8 a).2.1 ≠ (TX8 b).2.1 := by decide +kernel
theorem tyX8_ok : ∀ k, k < 2 → parseFieldDescriptor (TX8 k).2.2.1 = some (tyX8 k) := by decide +kernel
abbrev cX8_init : ByteArray := prog_10_method_1_code
def yX8_init : MethodName := ⟨RX8, "<init>", "()V"⟩
abbrev cX8_length : ByteArray := prog_10_method_2_code
def yX8_length : MethodName := ⟨RX8, "length", "()I"⟩
abbrev cX8_hasRoom : ByteArray := prog_10_method_3_code
def yX8_hasRoom : MethodName := ⟨RX8, "hasRoom", "()Z"⟩
abbrev cX8_append : ByteArray := prog_10_method_4_code
def yX8_append : MethodName := ⟨RX8, "append", "(I)V"⟩
abbrev cX8_moveTo : ByteArray := prog_10_method_5_code
def yX8_moveTo : MethodName := ⟨RX8, "moveTo", "(LSheetMarker$Formula;)V"⟩
def RX9 : String := "SheetMarker"
def TX9 : u_T := fun k => match k with
  | 0 => ("SheetMarker", "tape", "LSheetMarker$Tape;", true)
  | 1 => ("SheetMarker", "lesson", "LSheetMarker$Lesson;", true)
  | 2 => ("SheetMarker", "sheets", "[LSheetMarker$Sheet;", true)
  | 3 => ("SheetMarker", "task", "LSheetMarker$Figures;", true)
  | 4 => ("SheetMarker", "own", "LSheetMarker$Figures;", true)
  | 5 => ("SheetMarker", "right", "LSheetMarker$Figures;", true)
  | _ => ("SheetMarker", "judge", "LSheetMarker$Judge;", true)
def tyX9 : Nat → FieldType := fun k => match k with
  | 0 => .object "SheetMarker$Tape"
  | 1 => .object "SheetMarker$Lesson"
  | 2 => .array (.object "SheetMarker$Sheet")
  | 3 => .object "SheetMarker$Figures"
  | 4 => .object "SheetMarker$Figures"
  | 5 => .object "SheetMarker$Figures"
  | _ => .object "SheetMarker$Judge"
abbrev wsX90 : List Cond := u_ws RX9 TX9 7
theorem nmX9 : ∀ a, a < 7 → ∀ b, b < 7 → a ≠ b → (TX9 a).2.1 ≠ (TX9 b).2.1 := by decide +kernel
theorem tyX9_ok : ∀ k, k < 7 → parseFieldDescriptor (TX9 k).2.2.1 = some (tyX9 k) := by decide +kernel
abbrev cX9_init : ByteArray := prog_1_method_1_code
def yX9_init : MethodName := ⟨RX9, "<init>", "()V"⟩
abbrev cX9_feed : ByteArray := prog_1_method_2_code
def yX9_feed : MethodName := ⟨RX9, "feed", "(IIIII)I"⟩
abbrev cX9_number : ByteArray := prog_1_method_3_code
def yX9_number : MethodName := ⟨RX9, "number", "(III)Z"⟩
abbrev cX9_formula : ByteArray := prog_1_method_4_code
def yX9_formula : MethodName := ⟨RX9, "formula", "(III)I"⟩
abbrev cX9_clear : ByteArray := prog_1_method_5_code
def yX9_clear : MethodName := ⟨RX9, "clear", "(II)Z"⟩
abbrev cX9_input : ByteArray := prog_1_method_6_code
def yX9_input : MethodName := ⟨RX9, "input", "(I)Z"⟩
abbrev cX9_wants : ByteArray := prog_1_method_7_code
def yX9_wants : MethodName := ⟨RX9, "wants", "(II)Z"⟩
abbrev cX9_world : ByteArray := prog_1_method_8_code
def yX9_world : MethodName := ⟨RX9, "world", "()I"⟩
abbrev cX9_give : ByteArray := prog_1_method_9_code
def yX9_give : MethodName := ⟨RX9, "give", "(III)Z"⟩
abbrev cX9_value : ByteArray := prog_1_method_10_code
def yX9_value : MethodName := ⟨RX9, "value", "(III)J"⟩
abbrev cX9_error : ByteArray := prog_1_method_11_code
def yX9_error : MethodName := ⟨RX9, "error", "(III)I"⟩
abbrev cX9_right : ByteArray := prog_1_method_12_code
def yX9_right : MethodName := ⟨RX9, "right", "(III)J"⟩
abbrev cX9_rightError : ByteArray := prog_1_method_13_code
def yX9_rightError : MethodName := ⟨RX9, "rightError", "(III)I"⟩
abbrev cX9_kind : ByteArray := prog_1_method_14_code
def yX9_kind : MethodName := ⟨RX9, "kind", "(II)I"⟩
abbrev cX9_points : ByteArray := prog_1_method_15_code
def yX9_points : MethodName := ⟨RX9, "points", "(II)I"⟩
abbrev cX9_slip : ByteArray := prog_1_method_16_code
def yX9_slip : MethodName := ⟨RX9, "slip", "(III)I"⟩
abbrev cX9_fault : ByteArray := prog_1_method_17_code
def yX9_fault : MethodName := ⟨RX9, "fault", "(II)I"⟩
abbrev cX9_copied : ByteArray := prog_1_method_18_code
def yX9_copied : MethodName := ⟨RX9, "copied", "(III)I"⟩
abbrev cX9_look : ByteArray := prog_1_method_19_code
def yX9_look : MethodName := ⟨RX9, "look", "(III)I"⟩
abbrev cX9_count : ByteArray := prog_1_method_20_code
def yX9_count : MethodName := ⟨RX9, "count", "(I)I"⟩
abbrev cX9_sheetAt : ByteArray := prog_1_method_21_code
def yX9_sheetAt : MethodName := ⟨RX9, "sheetAt", "(I)LSheetMarker$Sheet;"⟩
abbrev cX9_pupilAt : ByteArray := prog_1_method_22_code
def yX9_pupilAt : MethodName := ⟨RX9, "pupilAt", "(I)LSheetMarker$Sheet;"⟩
abbrev cX9_reckonsOwn : ByteArray := prog_1_method_23_code
def yX9_reckonsOwn : MethodName := ⟨RX9, "reckonsOwn", "(III)Z"⟩
abbrev cX9_reckonsRight : ByteArray := prog_1_method_24_code
def yX9_reckonsRight : MethodName := ⟨RX9, "reckonsRight", "(III)Z"⟩
abbrev cX9_isShared : ByteArray := prog_1_method_25_code
def yX9_isShared : MethodName := ⟨RX9, "isShared", "(LSheetMarker$Sheet;LSheetMarker$Sheet;I)Z"⟩
abbrev cX9_countComing : ByteArray := prog_1_method_26_code
def yX9_countComing : MethodName := ⟨RX9, "countComing", "(LSheetMarker$Sheet;I)I"⟩
abbrev cX9_share : ByteArray := prog_1_method_27_code
def yX9_share : MethodName := ⟨RX9, "share", "(II)I"⟩
abbrev cX9_isFaulty : ByteArray := prog_1_method_28_code
def yX9_isFaulty : MethodName := ⟨RX9, "isFaulty", "(I)Z"⟩
abbrev cX9_isCell : ByteArray := prog_1_method_29_code
def yX9_isCell : MethodName := ⟨RX9, "isCell", "(I)Z"⟩
abbrev cX9_isNumber : ByteArray := prog_1_method_30_code
def yX9_isNumber : MethodName := ⟨RX9, "isNumber", "(I)Z"⟩
abbrev cX9_isSign : ByteArray := prog_1_method_31_code
def yX9_isSign : MethodName := ⟨RX9, "isSign", "(I)Z"⟩
abbrev cX9_bit : ByteArray := prog_1_method_32_code
def yX9_bit : MethodName := ⟨RX9, "bit", "(I)J"⟩
abbrev cX9_rectangle : ByteArray := prog_1_method_33_code
def yX9_rectangle : MethodName := ⟨RX9, "rectangle", "(II)J"⟩
def RX10 : String := "SheetMarkerModel"
def TX10 : u_T := fun k => match k with
  | 0 => ("SheetMarkerModel", "tape", "[B", true)
  | 1 => ("SheetMarkerModel", "taped", "I", false)
  | 2 => ("SheetMarkerModel", "sort", "[I", true)
  | 3 => ("SheetMarkerModel", "number", "[I", true)
  | 4 => ("SheetMarkerModel", "size", "[I", true)
  | 5 => ("SheetMarkerModel", "text", "[B", true)
  | 6 => ("SheetMarkerModel", "many", "[I", true)
  | 7 => ("SheetMarkerModel", "op", "[I", true)
  | 8 => ("SheetMarkerModel", "arg", "[I", true)
  | 9 => ("SheetMarkerModel", "arg2", "[I", true)
  | 10 => ("SheetMarkerModel", "place", "[I", true)
  | 11 => ("SheetMarkerModel", "place2", "[I", true)
  | 12 => ("SheetMarkerModel", "named", "[J", true)
  | 13 => ("SheetMarkerModel", "isInput", "[Z", true)
  | 14 => ("SheetMarkerModel", "points", "[I", true)
  | 15 => ("SheetMarkerModel", "inputs", "I", false)
  | 16 => ("SheetMarkerModel", "wanted", "I", false)
  | 17 => ("SheetMarkerModel", "worlds", "I", false)
  | 18 => ("SheetMarkerModel", "given", "[I", true)
  | 19 => ("SheetMarkerModel", "taskValue", "[J", true)
  | 20 => ("SheetMarkerModel", "taskError", "[I", true)
  | 21 => ("SheetMarkerModel", "isFresh", "Z", false)
  | 22 => ("SheetMarkerModel", "at", "I", false)
  | 23 => ("SheetMarkerModel", "end", "I", false)
  | 24 => ("SheetMarkerModel", "bad", "I", false)
  | 25 => ("SheetMarkerModel", "badAt", "I", false)
  | 26 => ("SheetMarkerModel", "made", "I", false)
  | 27 => ("SheetMarkerModel", "top", "I", false)
  | 28 => ("SheetMarkerModel", "open", "I", false)
  | 29 => ("SheetMarkerModel", "rowOp", "[I", true)
  | 30 => ("SheetMarkerModel", "rowArg", "[I", true)
  | 31 => ("SheetMarkerModel", "rowArg2", "[I", true)
  | 32 => ("SheetMarkerModel", "rowPlace", "[I", true)
  | 33 => ("SheetMarkerModel", "rowPlace2", "[I", true)
  | 34 => ("SheetMarkerModel", "pile", "[I", true)
  | 35 => ("SheetMarkerModel", "pilePlace", "[I", true)
  | 36 => ("SheetMarkerModel", "changedAt", "I", false)
  | 37 => ("SheetMarkerModel", "changedOp", "I", false)
  | 38 => ("SheetMarkerModel", "changedArg", "I", false)
  | 39 => ("SheetMarkerModel", "changedArg2", "I", false)
  | 40 => ("SheetMarkerModel", "ordered", "I", false)
  | 41 => ("SheetMarkerModel", "order", "[I", true)
  | 42 => ("SheetMarkerModel", "need", "[J", true)
  | 43 => ("SheetMarkerModel", "value", "[J", true)
  | 44 => ("SheetMarkerModel", "error", "[I", true)
  | 45 => ("SheetMarkerModel", "hand", "[J", true)
  | 46 => ("SheetMarkerModel", "hands", "I", false)
  | 47 => ("SheetMarkerModel", "wrong", "I", false)
  | 48 => ("SheetMarkerModel", "cameValue", "J", false)
  | 49 => ("SheetMarkerModel", "cameError", "I", false)
  | 50 => ("SheetMarkerModel", "slipAt", "I", false)
  | _ => ("SheetMarkerModel", "slipTo", "I", false)
def tyX10 : Nat → FieldType := fun k => match k with
  | 0 => .array .byte
  | 1 => .int
  | 2 => .array .int
  | 3 => .array .int
  | 4 => .array .int
  | 5 => .array .byte
  | 6 => .array .int
  | 7 => .array .int
  | 8 => .array .int
  | 9 => .array .int
  | 10 => .array .int
  | 11 => .array .int
  | 12 => .array .long
  | 13 => .array .boolean
  | 14 => .array .int
  | 15 => .int
  | 16 => .int
  | 17 => .int
  | 18 => .array .int
  | 19 => .array .long
  | 20 => .array .int
  | 21 => .boolean
  | 22 => .int
  | 23 => .int
  | 24 => .int
  | 25 => .int
  | 26 => .int
  | 27 => .int
  | 28 => .int
  | 29 => .array .int
  | 30 => .array .int
  | 31 => .array .int
  | 32 => .array .int
  | 33 => .array .int
  | 34 => .array .int
  | 35 => .array .int
  | 36 => .int
  | 37 => .int
  | 38 => .int
  | 39 => .int
  | 40 => .int
  | 41 => .array .int
  | 42 => .array .long
  | 43 => .array .long
  | 44 => .array .int
  | 45 => .array .long
  | 46 => .int
  | 47 => .int
  | 48 => .long
  | 49 => .int
  | 50 => .int
  | _ => .int
abbrev wsX100 : List Cond := u_ws RX10 TX10 52
theorem nmX10 : ∀ a, a < 52 → ∀ b, b < 52 → a ≠ b → (TX10 a).2.1 ≠ (TX10 b).2.1 := by decide +kernel
theorem tyX10_ok : ∀ k, k < 52 → parseFieldDescriptor (TX10 k).2.2.1 = some (tyX10 k) := by decide +kernel
abbrev cX10_init : ByteArray := prog_12_method_1_code
def yX10_init : MethodName := ⟨RX10, "<init>", "()V"⟩
abbrev cX10_lies : ByteArray := prog_12_method_2_code
def yX10_lies : MethodName := ⟨RX10, "lies", "(III)Z"⟩
abbrev cX10_isCell : ByteArray := prog_12_method_3_code
def yX10_isCell : MethodName := ⟨RX10, "isCell", "(I)Z"⟩
abbrev cX10_isSheet : ByteArray := prog_12_method_4_code
def yX10_isSheet : MethodName := ⟨RX10, "isSheet", "(I)Z"⟩
abbrev cX10_isWanted : ByteArray := prog_12_method_5_code
def yX10_isWanted : MethodName := ⟨RX10, "isWanted", "(I)Z"⟩
abbrev cX10_push : ByteArray := prog_12_method_6_code
def yX10_push : MethodName := ⟨RX10, "push", "(I)V"⟩
abbrev cX10_feed : ByteArray := prog_12_method_7_code
def yX10_feed : MethodName := ⟨RX10, "feed", "(IIIII)I"⟩
abbrev cX10_number : ByteArray := prog_12_method_8_code
def yX10_number : MethodName := ⟨RX10, "number", "(III)Z"⟩
abbrev cX10_clear : ByteArray := prog_12_method_9_code
def yX10_clear : MethodName := ⟨RX10, "clear", "(II)Z"⟩
abbrev cX10_here : ByteArray := prog_12_method_10_code
def yX10_here : MethodName := ⟨RX10, "here", "()I"⟩
abbrev cX10_fails : ByteArray := prog_12_method_11_code
def yX10_fails : MethodName := ⟨RX10, "fails", "(II)V"⟩
abbrev cX10_puts : ByteArray := prog_12_method_12_code
def yX10_puts : MethodName := ⟨RX10, "puts", "(IIIII)V"⟩
abbrev cX10_waits : ByteArray := prog_12_method_13_code
def yX10_waits : MethodName := ⟨RX10, "waits", "(II)V"⟩
abbrev cX10_joins : ByteArray := prog_12_method_14_code
def yX10_joins : MethodName := ⟨RX10, "joins", "()V"⟩
abbrev cX10_opens : ByteArray := prog_12_method_15_code
def yX10_opens : MethodName := ⟨RX10, "opens", "(I)V"⟩
abbrev cX10_must : ByteArray := prog_12_method_16_code
def yX10_must : MethodName := ⟨RX10, "must", "(I)V"⟩
abbrev cX10_seesDigit : ByteArray := prog_12_method_17_code
def yX10_seesDigit : MethodName := ⟨RX10, "seesDigit", "()Z"⟩
abbrev cX10_readNumber : ByteArray := prog_12_method_18_code
def yX10_readNumber : MethodName := ⟨RX10, "readNumber", "()I"⟩
abbrev cX10_readCell : ByteArray := prog_12_method_19_code
def yX10_readCell : MethodName := ⟨RX10, "readCell", "()I"⟩
abbrev cX10_factorEnds : ByteArray := prog_12_method_20_code
def yX10_factorEnds : MethodName := ⟨RX10, "factorEnds", "()V"⟩
abbrev cX10_sumEnds : ByteArray := prog_12_method_21_code
def yX10_sumEnds : MethodName := ⟨RX10, "sumEnds", "()V"⟩
abbrev cX10_factor : ByteArray := prog_12_method_22_code
def yX10_factor : MethodName := ⟨RX10, "factor", "()Z"⟩
abbrev cX10_joinOf : ByteArray := prog_12_method_23_code
def yX10_joinOf : MethodName := ⟨RX10, "joinOf", "(I)I"⟩
abbrev cX10_reads : ByteArray := prog_12_method_24_code
def yX10_reads : MethodName := ⟨RX10, "reads", "(I)V"⟩
abbrev cX10_formula : ByteArray := prog_12_method_25_code
def yX10_formula : MethodName := ⟨RX10, "formula", "(III)I"⟩
abbrev cX10_input : ByteArray := prog_12_method_26_code
def yX10_input : MethodName := ⟨RX10, "input", "(I)Z"⟩
abbrev cX10_wants : ByteArray := prog_12_method_27_code
def yX10_wants : MethodName := ⟨RX10, "wants", "(II)Z"⟩
abbrev cX10_world : ByteArray := prog_12_method_28_code
def yX10_world : MethodName := ⟨RX10, "world", "()I"⟩
abbrev cX10_give : ByteArray := prog_12_method_29_code
def yX10_give : MethodName := ⟨RX10, "give", "(III)Z"⟩
abbrev cX10_isChanged : ByteArray := prog_12_method_30_code
def yX10_isChanged : MethodName := ⟨RX10, "isChanged", "(II)Z"⟩
abbrev cX10_opOf : ByteArray := prog_12_method_31_code
def yX10_opOf : MethodName := ⟨RX10, "opOf", "(II)I"⟩
abbrev cX10_argOf : ByteArray := prog_12_method_32_code
def yX10_argOf : MethodName := ⟨RX10, "argOf", "(II)I"⟩
abbrev cX10_arg2Of : ByteArray := prog_12_method_33_code
def yX10_arg2Of : MethodName := ⟨RX10, "arg2Of", "(II)I"⟩
abbrev cX10_isBetween : ByteArray := prog_12_method_34_code
def yX10_isBetween : MethodName := ⟨RX10, "isBetween", "(III)Z"⟩
abbrev cX10_isWithin : ByteArray := prog_12_method_35_code
def yX10_isWithin : MethodName := ⟨RX10, "isWithin", "(III)Z"⟩
abbrev cX10_needs : ByteArray := prog_12_method_36_code
def yX10_needs : MethodName := ⟨RX10, "needs", "(II)J"⟩
abbrev cX10_names0 : ByteArray := prog_12_method_37_code
def yX10_names0 : MethodName := ⟨RX10, "names0", "(I)J"⟩
abbrev cX10_has : ByteArray := prog_12_method_38_code
def yX10_has : MethodName := ⟨RX10, "has", "(JI)Z"⟩
abbrev cX10_isTold : ByteArray := prog_12_method_39_code
def yX10_isTold : MethodName := ⟨RX10, "isTold", "(IIZ)Z"⟩
abbrev cX10_orders : ByteArray := prog_12_method_40_code
def yX10_orders : MethodName := ⟨RX10, "orders", "(IIZ)Z"⟩
abbrev cX10_comes : ByteArray := prog_12_method_41_code
def yX10_comes : MethodName := ⟨RX10, "comes", "(J)V"⟩
abbrev cX10_times : ByteArray := prog_12_method_42_code
def yX10_times : MethodName := ⟨RX10, "times", "(JJ)V"⟩
abbrev cX10_parts : ByteArray := prog_12_method_43_code
def yX10_parts : MethodName := ⟨RX10, "parts", "(JJ)V"⟩
abbrev cX10_two : ByteArray := prog_12_method_44_code
def yX10_two : MethodName := ⟨RX10, "two", "(I)V"⟩
abbrev cX10_names : ByteArray := prog_12_method_45_code
def yX10_names : MethodName := ⟨RX10, "names", "(I)V"⟩
abbrev cX10_range : ByteArray := prog_12_method_46_code
def yX10_range : MethodName := ⟨RX10, "range", "(II)V"⟩
abbrev cX10_reckons : ByteArray := prog_12_method_47_code
def yX10_reckons : MethodName := ⟨RX10, "reckons", "(I)V"⟩
abbrev cX10_works : ByteArray := prog_12_method_48_code
def yX10_works : MethodName := ⟨RX10, "works", "(IIIZ)V"⟩
abbrev cX10_tells : ByteArray := prog_12_method_49_code
def yX10_tells : MethodName := ⟨RX10, "tells", "(IIIZ)V"⟩
abbrev cX10_tasks : ByteArray := prog_12_method_50_code
def yX10_tasks : MethodName := ⟨RX10, "tasks", "()V"⟩
abbrev cX10_is : ByteArray := prog_12_method_51_code
def yX10_is : MethodName := ⟨RX10, "is", "(III)Z"⟩
abbrev cX10_value : ByteArray := prog_12_method_52_code
def yX10_value : MethodName := ⟨RX10, "value", "(III)J"⟩
abbrev cX10_error : ByteArray := prog_12_method_53_code
def yX10_error : MethodName := ⟨RX10, "error", "(III)I"⟩
abbrev cX10_right : ByteArray := prog_12_method_54_code
def yX10_right : MethodName := ⟨RX10, "right", "(III)J"⟩
abbrev cX10_rightError : ByteArray := prog_12_method_55_code
def yX10_rightError : MethodName := ⟨RX10, "rightError", "(III)I"⟩
abbrev cX10_isAlike : ByteArray := prog_12_method_56_code
def yX10_isAlike : MethodName := ⟨RX10, "isAlike", "(IIZ)Z"⟩
abbrev cX10_tries : ByteArray := prog_12_method_57_code
def yX10_tries : MethodName := ⟨RX10, "tries", "(IIIIII)Z"⟩
abbrev cX10_signOf : ByteArray := prog_12_method_58_code
def yX10_signOf : MethodName := ⟨RX10, "signOf", "(I)I"⟩
abbrev cX10_beside : ByteArray := prog_12_method_59_code
def yX10_beside : MethodName := ⟨RX10, "beside", "(II)I"⟩
abbrev cX10_slips : ByteArray := prog_12_method_60_code
def yX10_slips : MethodName := ⟨RX10, "slips", "(IIIIZ)Z"⟩
abbrev cX10_isSlip : ByteArray := prog_12_method_61_code
def yX10_isSlip : MethodName := ⟨RX10, "isSlip", "(II)Z"⟩
abbrev cX10_kindOf : ByteArray := prog_12_method_62_code
def yX10_kindOf : MethodName := ⟨RX10, "kindOf", "(II)I"⟩
abbrev cX10_isPupil : ByteArray := prog_12_method_63_code
def yX10_isPupil : MethodName := ⟨RX10, "isPupil", "(I)Z"⟩
abbrev cX10_kind : ByteArray := prog_12_method_64_code
def yX10_kind : MethodName := ⟨RX10, "kind", "(II)I"⟩
abbrev cX10_pointsOf : ByteArray := prog_12_method_65_code
def yX10_pointsOf : MethodName := ⟨RX10, "pointsOf", "(II)I"⟩
abbrev cX10_points : ByteArray := prog_12_method_66_code
def yX10_points : MethodName := ⟨RX10, "points", "(II)I"⟩
abbrev cX10_slip : ByteArray := prog_12_method_67_code
def yX10_slip : MethodName := ⟨RX10, "slip", "(III)I"⟩
abbrev cX10_fault : ByteArray := prog_12_method_68_code
def yX10_fault : MethodName := ⟨RX10, "fault", "(II)I"⟩
abbrev cX10_areOneText : ByteArray := prog_12_method_69_code
def yX10_areOneText : MethodName := ⟨RX10, "areOneText", "(II)Z"⟩
abbrev cX10_copied : ByteArray := prog_12_method_70_code
def yX10_copied : MethodName := ⟨RX10, "copied", "(III)I"⟩
abbrev cX10_comesTo : ByteArray := prog_12_method_71_code
def yX10_comesTo : MethodName := ⟨RX10, "comesTo", "(III)Z"⟩
abbrev cX10_look : ByteArray := prog_12_method_72_code
def yX10_look : MethodName := ⟨RX10, "look", "(III)I"⟩
abbrev cX10_count : ByteArray := prog_12_method_73_code
def yX10_count : MethodName := ⟨RX10, "count", "(I)I"⟩
def RJ13 : String := "java/lang/Long"
def TJ13 : u_T := fun k => match k with
  | _ => ("", "", "", false)
def tyJ13 : Nat → FieldType := fun k => match k with
  | _ => .int
abbrev wsJ130 : List Cond := u_ws RJ13 TJ13 0
theorem nmJ13 : ∀ a, a < 0 → ∀ b, b < 0 → a ≠ b → (TJ13 a).2.1 ≠ (TJ13 b).2.1 := by decide +kernel
theorem tyJ13_ok : ∀ k, k < 0 → parseFieldDescriptor (TJ13 k).2.2.1 = some (tyJ13 k) := by decide +kernel
abbrev cJ13_bitCount_95d88 : ByteArray := prog_13_method_50_code
def yJ13_bitCount_95d88 : MethodName := ⟨RJ13, "bitCount", "(J)I"⟩
def RJ9 : String := "java/lang/Math"
def TJ9 : u_T := fun k => match k with
  | _ => ("", "", "", false)
def tyJ9 : Nat → FieldType := fun k => match k with
  | _ => .int
abbrev wsJ90 : List Cond := u_ws RJ9 TJ9 0
theorem nmJ9 : ∀ a, a < 0 → ∀ b, b < 0 → a ≠ b → (TJ9 a).2.1 ≠ (TJ9 b).2.1 := by decide +kernel
theorem tyJ9_ok : ∀ k, k < 0 → parseFieldDescriptor (TJ9 k).2.2.1 = some (tyJ9 k) := by decide +kernel
abbrev cJ9_floorDiv_f86c9 : ByteArray := prog_14_method_49_code
def yJ9_floorDiv_f86c9 : MethodName := ⟨RJ9, "floorDiv", "(JJ)J"⟩
abbrev cJ9_abs_067f4 : ByteArray := prog_14_method_61_code
def yJ9_abs_067f4 : MethodName := ⟨RJ9, "abs", "(J)J"⟩
abbrev cJ9_max_7cf53 : ByteArray := prog_14_method_65_code
def yJ9_max_7cf53 : MethodName := ⟨RJ9, "max", "(II)I"⟩
abbrev cJ9_max_f86c9 : ByteArray := prog_14_method_66_code
def yJ9_max_f86c9 : MethodName := ⟨RJ9, "max", "(JJ)J"⟩
abbrev cJ9_min_7cf53 : ByteArray := prog_14_method_69_code
def yJ9_min_7cf53 : MethodName := ⟨RJ9, "min", "(II)I"⟩
def RL : String := "SheetMarkerLaw"
abbrev cL_law : ByteArray := code
def yL_law : MethodName := ⟨RL, "law", "([I)Z"⟩
abbrev vwCl : List vw_C := [(RX0, TX0, 2), (RX1, TX1, 8), (RX2, TX2, 5), (RX3, TX3, 8), (RX4, TX4, 5), (RX5, TX5, 4), (RX6, TX6, 3), (RX7, TX7, 6), (RX8, TX8, 2), (RX9, TX9, 7), (RX10, TX10, 52)]
end
section
theorem dX0_init_0 : decode cX0_init 0 = .ok (.aload_n 0, 1) := by decide +kernel
theorem dX0_init_1 : decode cX0_init 1 = .ok (.invokespecial 3, 3) := by decide +kernel
theorem dX0_init_4 : decode cX0_init 4 = .ok (.aload_n 0, 1) := by decide +kernel
theorem dX0_init_5 : decode cX0_init 5 = .ok (.iconst (-1), 1) := by decide +kernel
theorem dX0_init_6 : decode cX0_init 6 = .ok (.putfield 9, 3) := by decide +kernel
theorem dX0_init_9 : decode cX0_init 9 = .ok (.return_, 1) := by decide +kernel
theorem dX0_set_0 : decode cX0_set 0 = .ok (.aload_n 0, 1) := by decide +kernel
theorem dX0_set_1 : decode cX0_set 1 = .ok (.iload_n 1, 1) := by decide +kernel
theorem dX0_set_2 : decode cX0_set 2 = .ok (.putfield 9, 3) := by decide +kernel
theorem dX0_set_5 : decode cX0_set 5 = .ok (.aload_n 0, 1) := by decide +kernel
theorem dX0_set_6 : decode cX0_set 6 = .ok (.iload_n 2, 1) := by decide +kernel
theorem dX0_set_7 : decode cX0_set 7 = .ok (.putfield 15, 3) := by decide +kernel
theorem dX0_set_10 : decode cX0_set 10 = .ok (.return_, 1) := by decide +kernel
theorem dX0_stepOf_0 : decode cX0_stepOf 0 = .ok (.aload_n 1, 1) := by decide +kernel
theorem dX0_stepOf_1 : decode cX0_stepOf 1 = .ok (.iload_n 2, 1) := by decide +kernel
theorem dX0_stepOf_2 : decode cX0_stepOf 2 = .ok (.invokevirtual 18, 3) := by decide +kernel
theorem dX0_stepOf_5 : decode cX0_stepOf 5 = .ok (.istore_n 3, 1) := by decide +kernel
theorem dX0_stepOf_6 : decode cX0_stepOf 6 = .ok (.iload_n 2, 1) := by decide +kernel
theorem dX0_stepOf_7 : decode cX0_stepOf 7 = .ok (.aload_n 0, 1) := by decide +kernel
theorem dX0_stepOf_8 : decode cX0_stepOf 8 = .ok (.getfield 9, 3) := by decide +kernel
theorem dX0_stepOf_11 : decode cX0_stepOf 11 = .ok (.if_icmp .ne 17, 3) := by decide +kernel
theorem dX0_stepOf_14 : decode cX0_stepOf 14 = .ok (.iload_n 3, 1) := by decide +kernel
theorem dX0_stepOf_15 : decode cX0_stepOf 15 = .ok (.invokestatic 24, 3) := by decide +kernel
theorem dX0_stepOf_18 : decode cX0_stepOf 18 = .ok (.ifCond .eq 10, 3) := by decide +kernel
theorem dX0_stepOf_21 : decode cX0_stepOf 21 = .ok (.aload_n 0, 1) := by decide +kernel
theorem dX0_stepOf_22 : decode cX0_stepOf 22 = .ok (.getfield 15, 3) := by decide +kernel
theorem dX0_stepOf_25 : decode cX0_stepOf 25 = .ok (.goto 4, 3) := by decide +kernel
theorem dX0_stepOf_28 : decode cX0_stepOf 28 = .ok (.iload_n 3, 1) := by decide +kernel
theorem dX0_stepOf_29 : decode cX0_stepOf 29 = .ok (.ireturn, 1) := by decide +kernel
theorem dX0_operandOf_0 : decode cX0_operandOf 0 = .ok (.iload_n 2, 1) := by decide +kernel
theorem dX0_operandOf_1 : decode cX0_operandOf 1 = .ok (.aload_n 0, 1) := by decide +kernel
theorem dX0_operandOf_2 : decode cX0_operandOf 2 = .ok (.getfield 9, 3) := by decide +kernel
theorem dX0_operandOf_5 : decode cX0_operandOf 5 = .ok (.if_icmp .ne 10, 3) := by decide +kernel
theorem dX0_operandOf_8 : decode cX0_operandOf 8 = .ok (.aload_n 0, 1) := by decide +kernel
theorem dX0_operandOf_9 : decode cX0_operandOf 9 = .ok (.getfield 15, 3) := by decide +kernel
theorem dX0_operandOf_12 : decode cX0_operandOf 12 = .ok (.goto 8, 3) := by decide +kernel
theorem dX0_operandOf_15 : decode cX0_operandOf 15 = .ok (.aload_n 1, 1) := by decide +kernel
theorem dX0_operandOf_16 : decode cX0_operandOf 16 = .ok (.iload_n 2, 1) := by decide +kernel
theorem dX0_operandOf_17 : decode cX0_operandOf 17 = .ok (.invokevirtual 28, 3) := by decide +kernel
theorem dX0_operandOf_20 : decode cX0_operandOf 20 = .ok (.ireturn, 1) := by decide +kernel
theorem dX1_init_0 : decode cX1_init 0 = .ok (.aload_n 0, 1) := by decide +kernel
theorem dX1_init_1 : decode cX1_init 1 = .ok (.invokespecial 3, 3) := by decide +kernel
theorem dX1_init_4 : decode cX1_init 4 = .ok (.aload_n 0, 1) := by decide +kernel
theorem dX1_init_5 : decode cX1_init 5 = .ok (.aload_n 1, 1) := by decide +kernel
theorem dX1_init_6 : decode cX1_init 6 = .ok (.putfield 9, 3) := by decide +kernel
theorem dX1_init_9 : decode cX1_init 9 = .ok (.aload_n 0, 1) := by decide +kernel
theorem dX1_init_10 : decode cX1_init 10 = .ok (.aload_n 2, 1) := by decide +kernel
theorem dX1_init_11 : decode cX1_init 11 = .ok (.putfield 15, 3) := by decide +kernel
theorem dX1_init_14 : decode cX1_init 14 = .ok (.aload_n 0, 1) := by decide +kernel
theorem dX1_init_15 : decode cX1_init 15 = .ok (.new 19, 3) := by decide +kernel
theorem dX1_init_18 : decode cX1_init 18 = .ok (.dup, 1) := by decide +kernel
theorem dX1_init_19 : decode cX1_init 19 = .ok (.invokespecial 21, 3) := by decide +kernel
theorem dX1_init_22 : decode cX1_init 22 = .ok (.putfield 22, 3) := by decide +kernel
theorem dX1_init_25 : decode cX1_init 25 = .ok (.aload_n 0, 1) := by decide +kernel
theorem dX1_init_26 : decode cX1_init 26 = .ok (.sipush 384, 3) := by decide +kernel
theorem dX1_init_29 : decode cX1_init 29 = .ok (.newarray .long, 2) := by decide +kernel
theorem dX1_init_31 : decode cX1_init 31 = .ok (.putfield 26, 3) := by decide +kernel
theorem dX1_init_34 : decode cX1_init 34 = .ok (.aload_n 0, 1) := by decide +kernel
theorem dX1_init_35 : decode cX1_init 35 = .ok (.sipush 384, 3) := by decide +kernel
theorem dX1_init_38 : decode cX1_init 38 = .ok (.newarray .int, 2) := by decide +kernel
theorem dX1_init_40 : decode cX1_init 40 = .ok (.putfield 30, 3) := by decide +kernel
theorem dX1_init_43 : decode cX1_init 43 = .ok (.aload_n 0, 1) := by decide +kernel
theorem dX1_init_44 : decode cX1_init 44 = .ok (.bipush 64, 2) := by decide +kernel
theorem dX1_init_46 : decode cX1_init 46 = .ok (.newarray .int, 2) := by decide +kernel
theorem dX1_init_48 : decode cX1_init 48 = .ok (.putfield 34, 3) := by decide +kernel
theorem dX1_init_51 : decode cX1_init 51 = .ok (.return_, 1) := by decide +kernel
theorem dX1_figureAt_0 : decode cX1_figureAt 0 = .ok (.iload_n 1, 1) := by decide +kernel
theorem dX1_figureAt_1 : decode cX1_figureAt 1 = .ok (.bipush 64, 2) := by decide +kernel
theorem dX1_figureAt_3 : decode cX1_figureAt 3 = .ok (.imul, 1) := by decide +kernel
theorem dX1_figureAt_4 : decode cX1_figureAt 4 = .ok (.iload_n 2, 1) := by decide +kernel
theorem dX1_figureAt_5 : decode cX1_figureAt 5 = .ok (.iadd, 1) := by decide +kernel
theorem dX1_figureAt_6 : decode cX1_figureAt 6 = .ok (.istore_n 3, 1) := by decide +kernel
theorem dX1_figureAt_7 : decode cX1_figureAt 7 = .ok (.iload_n 3, 1) := by decide +kernel
theorem dX1_figureAt_8 : decode cX1_figureAt 8 = .ok (.ifCond .lt 21, 3) := by decide +kernel
theorem dX1_figureAt_11 : decode cX1_figureAt 11 = .ok (.iload_n 3, 1) := by decide +kernel
theorem dX1_figureAt_12 : decode cX1_figureAt 12 = .ok (.aload_n 0, 1) := by decide +kernel
theorem dX1_figureAt_13 : decode cX1_figureAt 13 = .ok (.getfield 26, 3) := by decide +kernel
theorem dX1_figureAt_16 : decode cX1_figureAt 16 = .ok (.arraylength, 1) := by decide +kernel
theorem dX1_figureAt_17 : decode cX1_figureAt 17 = .ok (.if_icmp .ge 12, 3) := by decide +kernel
theorem dX1_figureAt_20 : decode cX1_figureAt 20 = .ok (.aload_n 0, 1) := by decide +kernel
theorem dX1_figureAt_21 : decode cX1_figureAt 21 = .ok (.getfield 26, 3) := by decide +kernel
theorem dX1_figureAt_24 : decode cX1_figureAt 24 = .ok (.iload_n 3, 1) := by decide +kernel
theorem dX1_figureAt_25 : decode cX1_figureAt 25 = .ok (.laload, 1) := by decide +kernel
theorem dX1_figureAt_26 : decode cX1_figureAt 26 = .ok (.goto 4, 3) := by decide +kernel
theorem dX1_figureAt_29 : decode cX1_figureAt 29 = .ok (.lconst 0, 1) := by decide +kernel
theorem dX1_figureAt_30 : decode cX1_figureAt 30 = .ok (.lreturn, 1) := by decide +kernel
theorem dX1_errorAt_0 : decode cX1_errorAt 0 = .ok (.iload_n 1, 1) := by decide +kernel
theorem dX1_errorAt_1 : decode cX1_errorAt 1 = .ok (.bipush 64, 2) := by decide +kernel
theorem dX1_errorAt_3 : decode cX1_errorAt 3 = .ok (.imul, 1) := by decide +kernel
theorem dX1_errorAt_4 : decode cX1_errorAt 4 = .ok (.iload_n 2, 1) := by decide +kernel
theorem dX1_errorAt_5 : decode cX1_errorAt 5 = .ok (.iadd, 1) := by decide +kernel
theorem dX1_errorAt_6 : decode cX1_errorAt 6 = .ok (.istore_n 3, 1) := by decide +kernel
theorem dX1_errorAt_7 : decode cX1_errorAt 7 = .ok (.iload_n 3, 1) := by decide +kernel
theorem dX1_errorAt_8 : decode cX1_errorAt 8 = .ok (.ifCond .lt 21, 3) := by decide +kernel
theorem dX1_errorAt_11 : decode cX1_errorAt 11 = .ok (.iload_n 3, 1) := by decide +kernel
theorem dX1_errorAt_12 : decode cX1_errorAt 12 = .ok (.aload_n 0, 1) := by decide +kernel
theorem dX1_errorAt_13 : decode cX1_errorAt 13 = .ok (.getfield 30, 3) := by decide +kernel
theorem dX1_errorAt_16 : decode cX1_errorAt 16 = .ok (.arraylength, 1) := by decide +kernel
theorem dX1_errorAt_17 : decode cX1_errorAt 17 = .ok (.if_icmp .ge 12, 3) := by decide +kernel
theorem dX1_errorAt_20 : decode cX1_errorAt 20 = .ok (.aload_n 0, 1) := by decide +kernel
theorem dX1_errorAt_21 : decode cX1_errorAt 21 = .ok (.getfield 30, 3) := by decide +kernel
theorem dX1_errorAt_24 : decode cX1_errorAt 24 = .ok (.iload_n 3, 1) := by decide +kernel
theorem dX1_errorAt_25 : decode cX1_errorAt 25 = .ok (.iaload, 1) := by decide +kernel
theorem dX1_errorAt_26 : decode cX1_errorAt 26 = .ok (.goto 4, 3) := by decide +kernel
theorem dX1_errorAt_29 : decode cX1_errorAt 29 = .ok (.iconst 0, 1) := by decide +kernel
theorem dX1_errorAt_30 : decode cX1_errorAt 30 = .ok (.ireturn, 1) := by decide +kernel
theorem dX1_isAlike_0 : decode cX1_isAlike 0 = .ok (.aload_n 0, 1) := by decide +kernel
theorem dX1_isAlike_1 : decode cX1_isAlike 1 = .ok (.iload_n 2, 1) := by decide +kernel
theorem dX1_isAlike_2 : decode cX1_isAlike 2 = .ok (.iload_n 3, 1) := by decide +kernel
theorem dX1_isAlike_3 : decode cX1_isAlike 3 = .ok (.invokevirtual 37, 3) := by decide +kernel
theorem dX1_isAlike_6 : decode cX1_isAlike 6 = .ok (.aload_n 1, 1) := by decide +kernel
theorem dX1_isAlike_7 : decode cX1_isAlike 7 = .ok (.iload_n 2, 1) := by decide +kernel
theorem dX1_isAlike_8 : decode cX1_isAlike 8 = .ok (.iload_n 3, 1) := by decide +kernel
theorem dX1_isAlike_9 : decode cX1_isAlike 9 = .ok (.invokevirtual 37, 3) := by decide +kernel
theorem dX1_isAlike_12 : decode cX1_isAlike 12 = .ok (.if_icmp .ne 23, 3) := by decide +kernel
theorem dX1_isAlike_15 : decode cX1_isAlike 15 = .ok (.aload_n 0, 1) := by decide +kernel
theorem dX1_isAlike_16 : decode cX1_isAlike 16 = .ok (.iload_n 2, 1) := by decide +kernel
theorem dX1_isAlike_17 : decode cX1_isAlike 17 = .ok (.iload_n 3, 1) := by decide +kernel
theorem dX1_isAlike_18 : decode cX1_isAlike 18 = .ok (.invokevirtual 41, 3) := by decide +kernel
theorem dX1_isAlike_21 : decode cX1_isAlike 21 = .ok (.aload_n 1, 1) := by decide +kernel
theorem dX1_isAlike_22 : decode cX1_isAlike 22 = .ok (.iload_n 2, 1) := by decide +kernel
theorem dX1_isAlike_23 : decode cX1_isAlike 23 = .ok (.iload_n 3, 1) := by decide +kernel
theorem dX1_isAlike_24 : decode cX1_isAlike 24 = .ok (.invokevirtual 41, 3) := by decide +kernel
theorem dX1_isAlike_27 : decode cX1_isAlike 27 = .ok (.lcmp, 1) := by decide +kernel
theorem dX1_isAlike_28 : decode cX1_isAlike 28 = .ok (.ifCond .ne 7, 3) := by decide +kernel
theorem dX1_isAlike_31 : decode cX1_isAlike 31 = .ok (.iconst 1, 1) := by decide +kernel
theorem dX1_isAlike_32 : decode cX1_isAlike 32 = .ok (.goto 4, 3) := by decide +kernel
theorem dX1_isAlike_35 : decode cX1_isAlike 35 = .ok (.iconst 0, 1) := by decide +kernel
theorem dX1_isAlike_36 : decode cX1_isAlike 36 = .ok (.ireturn, 1) := by decide +kernel
theorem dX1_settles_0 : decode cX1_settles 0 = .ok (.lload_n 1, 1) := by decide +kernel
theorem dX1_settles_1 : decode cX1_settles 1 = .ok (.aload_n 0, 1) := by decide +kernel
theorem dX1_settles_2 : decode cX1_settles 2 = .ok (.getfield 45, 3) := by decide +kernel
theorem dX1_settles_5 : decode cX1_settles 5 = .ok (.ldc2_w 49, 3) := by decide +kernel
theorem dX1_settles_8 : decode cX1_settles 8 = .ok (.lxor, 1) := by decide +kernel
theorem dX1_settles_9 : decode cX1_settles 9 = .ok (.land, 1) := by decide +kernel
theorem dX1_settles_10 : decode cX1_settles 10 = .ok (.lconst 0, 1) := by decide +kernel
theorem dX1_settles_11 : decode cX1_settles 11 = .ok (.lcmp, 1) := by decide +kernel
theorem dX1_settles_12 : decode cX1_settles 12 = .ok (.ifCond .ne 7, 3) := by decide +kernel
theorem dX1_settles_15 : decode cX1_settles 15 = .ok (.iconst 1, 1) := by decide +kernel
theorem dX1_settles_16 : decode cX1_settles 16 = .ok (.goto 4, 3) := by decide +kernel
theorem dX1_settles_19 : decode cX1_settles 19 = .ok (.iconst 0, 1) := by decide +kernel
theorem dX1_settles_20 : decode cX1_settles 20 = .ok (.ireturn, 1) := by decide +kernel
theorem dX1_reckonOwn_0 : decode cX1_reckonOwn 0 = .ok (.aload_n 0, 1) := by decide +kernel
theorem dX1_reckonOwn_1 : decode cX1_reckonOwn 1 = .ok (.aload_n 1, 1) := by decide +kernel
theorem dX1_reckonOwn_2 : decode cX1_reckonOwn 2 = .ok (.aload_n 0, 1) := by decide +kernel
theorem dX1_reckonOwn_3 : decode cX1_reckonOwn 3 = .ok (.getfield 9, 3) := by decide +kernel
theorem dX1_reckonOwn_6 : decode cX1_reckonOwn 6 = .ok (.invokevirtual 51, 3) := by decide +kernel
theorem dX1_reckonOwn_9 : decode cX1_reckonOwn 9 = .ok (.aload_n 1, 1) := by decide +kernel
theorem dX1_reckonOwn_10 : decode cX1_reckonOwn 10 = .ok (.invokevirtual 57, 3) := by decide +kernel
theorem dX1_reckonOwn_13 : decode cX1_reckonOwn 13 = .ok (.ldc2_w 49, 3) := by decide +kernel
theorem dX1_reckonOwn_16 : decode cX1_reckonOwn 16 = .ok (.lxor, 1) := by decide +kernel
theorem dX1_reckonOwn_17 : decode cX1_reckonOwn 17 = .ok (.lor, 1) := by decide +kernel
theorem dX1_reckonOwn_18 : decode cX1_reckonOwn 18 = .ok (.iconst (-1), 1) := by decide +kernel
theorem dX1_reckonOwn_19 : decode cX1_reckonOwn 19 = .ok (.invokevirtual 62, 3) := by decide +kernel
theorem dX1_reckonOwn_22 : decode cX1_reckonOwn 22 = .ok (.iconst 0, 1) := by decide +kernel
theorem dX1_reckonOwn_23 : decode cX1_reckonOwn 23 = .ok (.istore_n 2, 1) := by decide +kernel
theorem dX1_reckonOwn_24 : decode cX1_reckonOwn 24 = .ok (.iload_n 2, 1) := by decide +kernel
theorem dX1_reckonOwn_25 : decode cX1_reckonOwn 25 = .ok (.bipush 6, 2) := by decide +kernel
theorem dX1_reckonOwn_27 : decode cX1_reckonOwn 27 = .ok (.if_icmp .ge 32, 3) := by decide +kernel
theorem dX1_reckonOwn_30 : decode cX1_reckonOwn 30 = .ok (.aload_n 0, 1) := by decide +kernel
theorem dX1_reckonOwn_31 : decode cX1_reckonOwn 31 = .ok (.getfield 9, 3) := by decide +kernel
theorem dX1_reckonOwn_34 : decode cX1_reckonOwn 34 = .ok (.iload_n 2, 1) := by decide +kernel
theorem dX1_reckonOwn_35 : decode cX1_reckonOwn 35 = .ok (.invokevirtual 66, 3) := by decide +kernel
theorem dX1_reckonOwn_38 : decode cX1_reckonOwn 38 = .ok (.ifCond .eq 21, 3) := by decide +kernel
theorem dX1_reckonOwn_41 : decode cX1_reckonOwn 41 = .ok (.aload_n 0, 1) := by decide +kernel
theorem dX1_reckonOwn_42 : decode cX1_reckonOwn 42 = .ok (.aload_n 1, 1) := by decide +kernel
theorem dX1_reckonOwn_43 : decode cX1_reckonOwn 43 = .ok (.iload_n 2, 1) := by decide +kernel
theorem dX1_reckonOwn_44 : decode cX1_reckonOwn 44 = .ok (.invokevirtual 70, 3) := by decide +kernel
theorem dX1_reckonOwn_47 : decode cX1_reckonOwn 47 = .ok (.aload_n 0, 1) := by decide +kernel
theorem dX1_reckonOwn_48 : decode cX1_reckonOwn 48 = .ok (.aload_n 1, 1) := by decide +kernel
theorem dX1_reckonOwn_49 : decode cX1_reckonOwn 49 = .ok (.iload_n 2, 1) := by decide +kernel
theorem dX1_reckonOwn_50 : decode cX1_reckonOwn 50 = .ok (.invokevirtual 74, 3) := by decide +kernel
theorem dX1_reckonOwn_53 : decode cX1_reckonOwn 53 = .ok (.iinc 2 1, 3) := by decide +kernel
theorem dX1_reckonOwn_56 : decode cX1_reckonOwn 56 = .ok (.goto (-32), 3) := by decide +kernel
theorem dX1_reckonOwn_59 : decode cX1_reckonOwn 59 = .ok (.return_, 1) := by decide +kernel
theorem dX1_reckonRight_0 : decode cX1_reckonRight 0 = .ok (.aload_n 0, 1) := by decide +kernel
theorem dX1_reckonRight_1 : decode cX1_reckonRight 1 = .ok (.getfield 9, 3) := by decide +kernel
theorem dX1_reckonRight_4 : decode cX1_reckonRight 4 = .ok (.invokevirtual 77, 3) := by decide +kernel
theorem dX1_reckonRight_7 : decode cX1_reckonRight 7 = .ok (.iload_n 2, 1) := by decide +kernel
theorem dX1_reckonRight_8 : decode cX1_reckonRight 8 = .ok (.invokestatic 80, 3) := by decide +kernel
theorem dX1_reckonRight_11 : decode cX1_reckonRight 11 = .ok (.ldc2_w 49, 3) := by decide +kernel
theorem dX1_reckonRight_14 : decode cX1_reckonRight 14 = .ok (.lxor, 1) := by decide +kernel
theorem dX1_reckonRight_15 : decode cX1_reckonRight 15 = .ok (.land, 1) := by decide +kernel
theorem dX1_reckonRight_16 : decode cX1_reckonRight 16 = .ok (.lstore 4, 2) := by decide +kernel
theorem dX1_reckonRight_18 : decode cX1_reckonRight 18 = .ok (.aload_n 0, 1) := by decide +kernel
theorem dX1_reckonRight_19 : decode cX1_reckonRight 19 = .ok (.aload_n 1, 1) := by decide +kernel
theorem dX1_reckonRight_20 : decode cX1_reckonRight 20 = .ok (.aload_n 0, 1) := by decide +kernel
theorem dX1_reckonRight_21 : decode cX1_reckonRight 21 = .ok (.getfield 9, 3) := by decide +kernel
theorem dX1_reckonRight_24 : decode cX1_reckonRight 24 = .ok (.invokevirtual 51, 3) := by decide +kernel
theorem dX1_reckonRight_27 : decode cX1_reckonRight 27 = .ok (.aload_n 1, 1) := by decide +kernel
theorem dX1_reckonRight_28 : decode cX1_reckonRight 28 = .ok (.invokevirtual 57, 3) := by decide +kernel
theorem dX1_reckonRight_31 : decode cX1_reckonRight 31 = .ok (.ldc2_w 49, 3) := by decide +kernel
theorem dX1_reckonRight_34 : decode cX1_reckonRight 34 = .ok (.lxor, 1) := by decide +kernel
theorem dX1_reckonRight_35 : decode cX1_reckonRight 35 = .ok (.lor, 1) := by decide +kernel
theorem dX1_reckonRight_36 : decode cX1_reckonRight 36 = .ok (.lload 4, 2) := by decide +kernel
theorem dX1_reckonRight_38 : decode cX1_reckonRight 38 = .ok (.lor, 1) := by decide +kernel
theorem dX1_reckonRight_39 : decode cX1_reckonRight 39 = .ok (.iload_n 2, 1) := by decide +kernel
theorem dX1_reckonRight_40 : decode cX1_reckonRight 40 = .ok (.invokevirtual 62, 3) := by decide +kernel
theorem dX1_reckonRight_43 : decode cX1_reckonRight 43 = .ok (.iconst 0, 1) := by decide +kernel
theorem dX1_reckonRight_44 : decode cX1_reckonRight 44 = .ok (.istore 6, 2) := by decide +kernel
theorem dX1_reckonRight_46 : decode cX1_reckonRight 46 = .ok (.iload 6, 2) := by decide +kernel
theorem dX1_reckonRight_48 : decode cX1_reckonRight 48 = .ok (.bipush 6, 2) := by decide +kernel
theorem dX1_reckonRight_50 : decode cX1_reckonRight 50 = .ok (.if_icmp .ge 44, 3) := by decide +kernel
theorem dX1_reckonRight_53 : decode cX1_reckonRight 53 = .ok (.aload_n 0, 1) := by decide +kernel
theorem dX1_reckonRight_54 : decode cX1_reckonRight 54 = .ok (.getfield 9, 3) := by decide +kernel
theorem dX1_reckonRight_57 : decode cX1_reckonRight 57 = .ok (.iload 6, 2) := by decide +kernel
theorem dX1_reckonRight_59 : decode cX1_reckonRight 59 = .ok (.invokevirtual 66, 3) := by decide +kernel
theorem dX1_reckonRight_62 : decode cX1_reckonRight 62 = .ok (.ifCond .eq 32, 3) := by decide +kernel
theorem dX1_reckonRight_65 : decode cX1_reckonRight 65 = .ok (.aload_n 0, 1) := by decide +kernel
theorem dX1_reckonRight_66 : decode cX1_reckonRight 66 = .ok (.aload_n 1, 1) := by decide +kernel
theorem dX1_reckonRight_67 : decode cX1_reckonRight 67 = .ok (.iload 6, 2) := by decide +kernel
theorem dX1_reckonRight_69 : decode cX1_reckonRight 69 = .ok (.invokevirtual 70, 3) := by decide +kernel
theorem dX1_reckonRight_72 : decode cX1_reckonRight 72 = .ok (.aload_n 0, 1) := by decide +kernel
theorem dX1_reckonRight_73 : decode cX1_reckonRight 73 = .ok (.lload 4, 2) := by decide +kernel
theorem dX1_reckonRight_75 : decode cX1_reckonRight 75 = .ok (.aload_n 3, 1) := by decide +kernel
theorem dX1_reckonRight_76 : decode cX1_reckonRight 76 = .ok (.iload 6, 2) := by decide +kernel
theorem dX1_reckonRight_78 : decode cX1_reckonRight 78 = .ok (.invokevirtual 84, 3) := by decide +kernel
theorem dX1_reckonRight_81 : decode cX1_reckonRight 81 = .ok (.aload_n 0, 1) := by decide +kernel
theorem dX1_reckonRight_82 : decode cX1_reckonRight 82 = .ok (.aload_n 1, 1) := by decide +kernel
theorem dX1_reckonRight_83 : decode cX1_reckonRight 83 = .ok (.iload 6, 2) := by decide +kernel
theorem dX1_reckonRight_85 : decode cX1_reckonRight 85 = .ok (.invokevirtual 74, 3) := by decide +kernel
theorem dX1_reckonRight_88 : decode cX1_reckonRight 88 = .ok (.iinc 6 1, 3) := by decide +kernel
theorem dX1_reckonRight_91 : decode cX1_reckonRight 91 = .ok (.goto (-45), 3) := by decide +kernel
theorem dX1_reckonRight_94 : decode cX1_reckonRight 94 = .ok (.return_, 1) := by decide +kernel
theorem dX1_plan_0 : decode cX1_plan 0 = .ok (.aload_n 0, 1) := by decide +kernel
theorem dX1_plan_1 : decode cX1_plan 1 = .ok (.lload_n 2, 1) := by decide +kernel
theorem dX1_plan_2 : decode cX1_plan 2 = .ok (.putfield 45, 3) := by decide +kernel
theorem dX1_plan_5 : decode cX1_plan 5 = .ok (.aload_n 0, 1) := by decide +kernel
theorem dX1_plan_6 : decode cX1_plan 6 = .ok (.iconst 0, 1) := by decide +kernel
theorem dX1_plan_7 : decode cX1_plan 7 = .ok (.putfield 88, 3) := by decide +kernel
theorem dX1_plan_10 : decode cX1_plan 10 = .ok (.iconst 0, 1) := by decide +kernel
theorem dX1_plan_11 : decode cX1_plan 11 = .ok (.istore 5, 2) := by decide +kernel
theorem dX1_plan_13 : decode cX1_plan 13 = .ok (.iload 5, 2) := by decide +kernel
theorem dX1_plan_15 : decode cX1_plan 15 = .ok (.bipush 64, 2) := by decide +kernel
theorem dX1_plan_17 : decode cX1_plan 17 = .ok (.if_icmp .ge 99, 3) := by decide +kernel
theorem dX1_plan_20 : decode cX1_plan 20 = .ok (.aload_n 0, 1) := by decide +kernel
theorem dX1_plan_21 : decode cX1_plan 21 = .ok (.getfield 45, 3) := by decide +kernel
theorem dX1_plan_24 : decode cX1_plan 24 = .ok (.lstore 6, 2) := by decide +kernel
theorem dX1_plan_26 : decode cX1_plan 26 = .ok (.iconst 0, 1) := by decide +kernel
theorem dX1_plan_27 : decode cX1_plan 27 = .ok (.istore 8, 2) := by decide +kernel
theorem dX1_plan_29 : decode cX1_plan 29 = .ok (.iload 8, 2) := by decide +kernel
theorem dX1_plan_31 : decode cX1_plan 31 = .ok (.bipush 64, 2) := by decide +kernel
theorem dX1_plan_33 : decode cX1_plan 33 = .ok (.if_icmp .ge 64, 3) := by decide +kernel
theorem dX1_plan_36 : decode cX1_plan 36 = .ok (.aload_n 0, 1) := by decide +kernel
theorem dX1_plan_37 : decode cX1_plan 37 = .ok (.getfield 45, 3) := by decide +kernel
theorem dX1_plan_40 : decode cX1_plan 40 = .ok (.iload 8, 2) := by decide +kernel
theorem dX1_plan_42 : decode cX1_plan 42 = .ok (.invokestatic 80, 3) := by decide +kernel
theorem dX1_plan_45 : decode cX1_plan 45 = .ok (.land, 1) := by decide +kernel
theorem dX1_plan_46 : decode cX1_plan 46 = .ok (.lconst 0, 1) := by decide +kernel
theorem dX1_plan_47 : decode cX1_plan 47 = .ok (.lcmp, 1) := by decide +kernel
theorem dX1_plan_48 : decode cX1_plan 48 = .ok (.ifCond .ne 43, 3) := by decide +kernel
theorem dX1_plan_51 : decode cX1_plan 51 = .ok (.iload 8, 2) := by decide +kernel
theorem dX1_plan_53 : decode cX1_plan 53 = .ok (.iload 4, 2) := by decide +kernel
theorem dX1_plan_55 : decode cX1_plan 55 = .ok (.if_icmp .eq 36, 3) := by decide +kernel
theorem dX1_plan_58 : decode cX1_plan 58 = .ok (.aload_n 0, 1) := by decide +kernel
theorem dX1_plan_59 : decode cX1_plan 59 = .ok (.aload_n 1, 1) := by decide +kernel
theorem dX1_plan_60 : decode cX1_plan 60 = .ok (.iload 8, 2) := by decide +kernel
theorem dX1_plan_62 : decode cX1_plan 62 = .ok (.invokevirtual 92, 3) := by decide +kernel
theorem dX1_plan_65 : decode cX1_plan 65 = .ok (.invokevirtual 95, 3) := by decide +kernel
theorem dX1_plan_68 : decode cX1_plan 68 = .ok (.ifCond .eq 23, 3) := by decide +kernel
theorem dX1_plan_71 : decode cX1_plan 71 = .ok (.aload_n 0, 1) := by decide +kernel
theorem dX1_plan_72 : decode cX1_plan 72 = .ok (.dup, 1) := by decide +kernel
theorem dX1_plan_73 : decode cX1_plan 73 = .ok (.getfield 45, 3) := by decide +kernel
theorem dX1_plan_76 : decode cX1_plan 76 = .ok (.iload 8, 2) := by decide +kernel
theorem dX1_plan_78 : decode cX1_plan 78 = .ok (.invokestatic 80, 3) := by decide +kernel
theorem dX1_plan_81 : decode cX1_plan 81 = .ok (.lor, 1) := by decide +kernel
theorem dX1_plan_82 : decode cX1_plan 82 = .ok (.putfield 45, 3) := by decide +kernel
theorem dX1_plan_85 : decode cX1_plan 85 = .ok (.aload_n 0, 1) := by decide +kernel
theorem dX1_plan_86 : decode cX1_plan 86 = .ok (.iload 8, 2) := by decide +kernel
theorem dX1_plan_88 : decode cX1_plan 88 = .ok (.invokevirtual 99, 3) := by decide +kernel
theorem dX1_plan_91 : decode cX1_plan 91 = .ok (.iinc 8 1, 3) := by decide +kernel
theorem dX1_plan_94 : decode cX1_plan 94 = .ok (.goto (-65), 3) := by decide +kernel
theorem dX1_plan_97 : decode cX1_plan 97 = .ok (.aload_n 0, 1) := by decide +kernel
theorem dX1_plan_98 : decode cX1_plan 98 = .ok (.getfield 45, 3) := by decide +kernel
theorem dX1_plan_101 : decode cX1_plan 101 = .ok (.lload 6, 2) := by decide +kernel
theorem dX1_plan_103 : decode cX1_plan 103 = .ok (.lcmp, 1) := by decide +kernel
theorem dX1_plan_104 : decode cX1_plan 104 = .ok (.ifCond .ne 6, 3) := by decide +kernel
theorem dX1_plan_107 : decode cX1_plan 107 = .ok (.goto 9, 3) := by decide +kernel
theorem dX1_plan_110 : decode cX1_plan 110 = .ok (.iinc 5 1, 3) := by decide +kernel
theorem dX1_plan_113 : decode cX1_plan 113 = .ok (.goto (-100), 3) := by decide +kernel
theorem dX1_plan_116 : decode cX1_plan 116 = .ok (.iload 4, 2) := by decide +kernel
theorem dX1_plan_118 : decode cX1_plan 118 = .ok (.iconst (-1), 1) := by decide +kernel
theorem dX1_plan_119 : decode cX1_plan 119 = .ok (.if_icmp .eq 37, 3) := by decide +kernel
theorem dX1_plan_122 : decode cX1_plan 122 = .ok (.aload_n 0, 1) := by decide +kernel
theorem dX1_plan_123 : decode cX1_plan 123 = .ok (.getfield 45, 3) := by decide +kernel
theorem dX1_plan_126 : decode cX1_plan 126 = .ok (.iload 4, 2) := by decide +kernel
theorem dX1_plan_128 : decode cX1_plan 128 = .ok (.invokestatic 80, 3) := by decide +kernel
theorem dX1_plan_131 : decode cX1_plan 131 = .ok (.land, 1) := by decide +kernel
theorem dX1_plan_132 : decode cX1_plan 132 = .ok (.lconst 0, 1) := by decide +kernel
theorem dX1_plan_133 : decode cX1_plan 133 = .ok (.lcmp, 1) := by decide +kernel
theorem dX1_plan_134 : decode cX1_plan 134 = .ok (.ifCond .ne 22, 3) := by decide +kernel
theorem dX1_plan_137 : decode cX1_plan 137 = .ok (.aload_n 0, 1) := by decide +kernel
theorem dX1_plan_138 : decode cX1_plan 138 = .ok (.aload_n 1, 1) := by decide +kernel
theorem dX1_plan_139 : decode cX1_plan 139 = .ok (.iload 4, 2) := by decide +kernel
theorem dX1_plan_141 : decode cX1_plan 141 = .ok (.invokevirtual 92, 3) := by decide +kernel
theorem dX1_plan_144 : decode cX1_plan 144 = .ok (.invokevirtual 95, 3) := by decide +kernel
theorem dX1_plan_147 : decode cX1_plan 147 = .ok (.ifCond .eq 9, 3) := by decide +kernel
theorem dX1_plan_150 : decode cX1_plan 150 = .ok (.aload_n 0, 1) := by decide +kernel
theorem dX1_plan_151 : decode cX1_plan 151 = .ok (.iload 4, 2) := by decide +kernel
theorem dX1_plan_153 : decode cX1_plan 153 = .ok (.invokevirtual 99, 3) := by decide +kernel
theorem dX1_plan_156 : decode cX1_plan 156 = .ok (.return_, 1) := by decide +kernel
theorem dX1_append_0 : decode cX1_append 0 = .ok (.aload_n 0, 1) := by decide +kernel
theorem dX1_append_1 : decode cX1_append 1 = .ok (.getfield 88, 3) := by decide +kernel
theorem dX1_append_4 : decode cX1_append 4 = .ok (.ifCond .lt 35, 3) := by decide +kernel
theorem dX1_append_7 : decode cX1_append 7 = .ok (.aload_n 0, 1) := by decide +kernel
theorem dX1_append_8 : decode cX1_append 8 = .ok (.getfield 88, 3) := by decide +kernel
theorem dX1_append_11 : decode cX1_append 11 = .ok (.aload_n 0, 1) := by decide +kernel
theorem dX1_append_12 : decode cX1_append 12 = .ok (.getfield 34, 3) := by decide +kernel
theorem dX1_append_15 : decode cX1_append 15 = .ok (.arraylength, 1) := by decide +kernel
theorem dX1_append_16 : decode cX1_append 16 = .ok (.if_icmp .ge 23, 3) := by decide +kernel
theorem dX1_append_19 : decode cX1_append 19 = .ok (.aload_n 0, 1) := by decide +kernel
theorem dX1_append_20 : decode cX1_append 20 = .ok (.getfield 34, 3) := by decide +kernel
theorem dX1_append_23 : decode cX1_append 23 = .ok (.aload_n 0, 1) := by decide +kernel
theorem dX1_append_24 : decode cX1_append 24 = .ok (.getfield 88, 3) := by decide +kernel
theorem dX1_append_27 : decode cX1_append 27 = .ok (.iload_n 1, 1) := by decide +kernel
theorem dX1_append_28 : decode cX1_append 28 = .ok (.iastore, 1) := by decide +kernel
theorem dX1_append_29 : decode cX1_append 29 = .ok (.aload_n 0, 1) := by decide +kernel
theorem dX1_append_30 : decode cX1_append 30 = .ok (.dup, 1) := by decide +kernel
theorem dX1_append_31 : decode cX1_append 31 = .ok (.getfield 88, 3) := by decide +kernel
theorem dX1_append_34 : decode cX1_append 34 = .ok (.iconst 1, 1) := by decide +kernel
theorem dX1_append_35 : decode cX1_append 35 = .ok (.iadd, 1) := by decide +kernel
theorem dX1_append_36 : decode cX1_append 36 = .ok (.putfield 88, 3) := by decide +kernel
theorem dX1_append_39 : decode cX1_append 39 = .ok (.return_, 1) := by decide +kernel
theorem dX1_layHeld_0 : decode cX1_layHeld 0 = .ok (.iconst 0, 1) := by decide +kernel
theorem dX1_layHeld_1 : decode cX1_layHeld 1 = .ok (.istore_n 3, 1) := by decide +kernel
theorem dX1_layHeld_2 : decode cX1_layHeld 2 = .ok (.iload_n 3, 1) := by decide +kernel
theorem dX1_layHeld_3 : decode cX1_layHeld 3 = .ok (.bipush 64, 2) := by decide +kernel
theorem dX1_layHeld_5 : decode cX1_layHeld 5 = .ok (.if_icmp .ge 73, 3) := by decide +kernel
theorem dX1_layHeld_8 : decode cX1_layHeld 8 = .ok (.aload_n 0, 1) := by decide +kernel
theorem dX1_layHeld_9 : decode cX1_layHeld 9 = .ok (.getfield 9, 3) := by decide +kernel
theorem dX1_layHeld_12 : decode cX1_layHeld 12 = .ok (.iload_n 3, 1) := by decide +kernel
theorem dX1_layHeld_13 : decode cX1_layHeld 13 = .ok (.invokevirtual 103, 3) := by decide +kernel
theorem dX1_layHeld_16 : decode cX1_layHeld 16 = .ok (.ifCond .eq 23, 3) := by decide +kernel
theorem dX1_layHeld_19 : decode cX1_layHeld 19 = .ok (.aload_n 0, 1) := by decide +kernel
theorem dX1_layHeld_20 : decode cX1_layHeld 20 = .ok (.iload_n 2, 1) := by decide +kernel
theorem dX1_layHeld_21 : decode cX1_layHeld 21 = .ok (.iload_n 3, 1) := by decide +kernel
theorem dX1_layHeld_22 : decode cX1_layHeld 22 = .ok (.aload_n 0, 1) := by decide +kernel
theorem dX1_layHeld_23 : decode cX1_layHeld 23 = .ok (.getfield 9, 3) := by decide +kernel
theorem dX1_layHeld_26 : decode cX1_layHeld 26 = .ok (.iload_n 2, 1) := by decide +kernel
theorem dX1_layHeld_27 : decode cX1_layHeld 27 = .ok (.iload_n 3, 1) := by decide +kernel
theorem dX1_layHeld_28 : decode cX1_layHeld 28 = .ok (.invokevirtual 106, 3) := by decide +kernel
theorem dX1_layHeld_31 : decode cX1_layHeld 31 = .ok (.i2l, 1) := by decide +kernel
theorem dX1_layHeld_32 : decode cX1_layHeld 32 = .ok (.iconst 0, 1) := by decide +kernel
theorem dX1_layHeld_33 : decode cX1_layHeld 33 = .ok (.invokevirtual 109, 3) := by decide +kernel
theorem dX1_layHeld_36 : decode cX1_layHeld 36 = .ok (.goto 36, 3) := by decide +kernel
theorem dX1_layHeld_39 : decode cX1_layHeld 39 = .ok (.aload_n 1, 1) := by decide +kernel
theorem dX1_layHeld_40 : decode cX1_layHeld 40 = .ok (.iload_n 3, 1) := by decide +kernel
theorem dX1_layHeld_41 : decode cX1_layHeld 41 = .ok (.invokevirtual 113, 3) := by decide +kernel
theorem dX1_layHeld_44 : decode cX1_layHeld 44 = .ok (.iconst 2, 1) := by decide +kernel
theorem dX1_layHeld_45 : decode cX1_layHeld 45 = .ok (.if_icmp .ne 14, 3) := by decide +kernel
theorem dX1_layHeld_48 : decode cX1_layHeld 48 = .ok (.aload_n 0, 1) := by decide +kernel
theorem dX1_layHeld_49 : decode cX1_layHeld 49 = .ok (.iload_n 2, 1) := by decide +kernel
theorem dX1_layHeld_50 : decode cX1_layHeld 50 = .ok (.iload_n 3, 1) := by decide +kernel
theorem dX1_layHeld_51 : decode cX1_layHeld 51 = .ok (.lconst 0, 1) := by decide +kernel
theorem dX1_layHeld_52 : decode cX1_layHeld 52 = .ok (.iconst 1, 1) := by decide +kernel
theorem dX1_layHeld_53 : decode cX1_layHeld 53 = .ok (.invokevirtual 109, 3) := by decide +kernel
theorem dX1_layHeld_56 : decode cX1_layHeld 56 = .ok (.goto 16, 3) := by decide +kernel
theorem dX1_layHeld_59 : decode cX1_layHeld 59 = .ok (.aload_n 0, 1) := by decide +kernel
theorem dX1_layHeld_60 : decode cX1_layHeld 60 = .ok (.iload_n 2, 1) := by decide +kernel
theorem dX1_layHeld_61 : decode cX1_layHeld 61 = .ok (.iload_n 3, 1) := by decide +kernel
theorem dX1_layHeld_62 : decode cX1_layHeld 62 = .ok (.aload_n 1, 1) := by decide +kernel
theorem dX1_layHeld_63 : decode cX1_layHeld 63 = .ok (.iload_n 3, 1) := by decide +kernel
theorem dX1_layHeld_64 : decode cX1_layHeld 64 = .ok (.invokevirtual 117, 3) := by decide +kernel
theorem dX1_layHeld_67 : decode cX1_layHeld 67 = .ok (.i2l, 1) := by decide +kernel
theorem dX1_layHeld_68 : decode cX1_layHeld 68 = .ok (.iconst 0, 1) := by decide +kernel
theorem dX1_layHeld_69 : decode cX1_layHeld 69 = .ok (.invokevirtual 109, 3) := by decide +kernel
theorem dX1_layHeld_72 : decode cX1_layHeld 72 = .ok (.iinc 3 1, 3) := by decide +kernel
theorem dX1_layHeld_75 : decode cX1_layHeld 75 = .ok (.goto (-73), 3) := by decide +kernel
theorem dX1_layHeld_78 : decode cX1_layHeld 78 = .ok (.return_, 1) := by decide +kernel
theorem dX1_layLent_0 : decode cX1_layLent 0 = .ok (.iconst 0, 1) := by decide +kernel
theorem dX1_layLent_1 : decode cX1_layLent 1 = .ok (.istore 5, 2) := by decide +kernel
theorem dX1_layLent_3 : decode cX1_layLent 3 = .ok (.iload 5, 2) := by decide +kernel
theorem dX1_layLent_5 : decode cX1_layLent 5 = .ok (.bipush 64, 2) := by decide +kernel
theorem dX1_layLent_7 : decode cX1_layLent 7 = .ok (.if_icmp .ge 45, 3) := by decide +kernel
theorem dX1_layLent_10 : decode cX1_layLent 10 = .ok (.lload_n 1, 1) := by decide +kernel
theorem dX1_layLent_11 : decode cX1_layLent 11 = .ok (.iload 5, 2) := by decide +kernel
theorem dX1_layLent_13 : decode cX1_layLent 13 = .ok (.invokestatic 80, 3) := by decide +kernel
theorem dX1_layLent_16 : decode cX1_layLent 16 = .ok (.land, 1) := by decide +kernel
theorem dX1_layLent_17 : decode cX1_layLent 17 = .ok (.lconst 0, 1) := by decide +kernel
theorem dX1_layLent_18 : decode cX1_layLent 18 = .ok (.lcmp, 1) := by decide +kernel
theorem dX1_layLent_19 : decode cX1_layLent 19 = .ok (.ifCond .eq 27, 3) := by decide +kernel
theorem dX1_layLent_22 : decode cX1_layLent 22 = .ok (.aload_n 0, 1) := by decide +kernel
theorem dX1_layLent_23 : decode cX1_layLent 23 = .ok (.iload 4, 2) := by decide +kernel
theorem dX1_layLent_25 : decode cX1_layLent 25 = .ok (.iload 5, 2) := by decide +kernel
theorem dX1_layLent_27 : decode cX1_layLent 27 = .ok (.aload_n 3, 1) := by decide +kernel
theorem dX1_layLent_28 : decode cX1_layLent 28 = .ok (.iload 4, 2) := by decide +kernel
theorem dX1_layLent_30 : decode cX1_layLent 30 = .ok (.iload 5, 2) := by decide +kernel
theorem dX1_layLent_32 : decode cX1_layLent 32 = .ok (.invokevirtual 41, 3) := by decide +kernel
theorem dX1_layLent_35 : decode cX1_layLent 35 = .ok (.aload_n 3, 1) := by decide +kernel
theorem dX1_layLent_36 : decode cX1_layLent 36 = .ok (.iload 4, 2) := by decide +kernel
theorem dX1_layLent_38 : decode cX1_layLent 38 = .ok (.iload 5, 2) := by decide +kernel
theorem dX1_layLent_40 : decode cX1_layLent 40 = .ok (.invokevirtual 37, 3) := by decide +kernel
theorem dX1_layLent_43 : decode cX1_layLent 43 = .ok (.invokevirtual 109, 3) := by decide +kernel
theorem dX1_layLent_46 : decode cX1_layLent 46 = .ok (.iinc 5 1, 3) := by decide +kernel
theorem dX1_layLent_49 : decode cX1_layLent 49 = .ok (.goto (-46), 3) := by decide +kernel
theorem dX1_layLent_52 : decode cX1_layLent 52 = .ok (.return_, 1) := by decide +kernel
theorem dX1_follow_0 : decode cX1_follow 0 = .ok (.iconst 0, 1) := by decide +kernel
theorem dX1_follow_1 : decode cX1_follow 1 = .ok (.istore_n 3, 1) := by decide +kernel
theorem dX1_follow_2 : decode cX1_follow 2 = .ok (.iload_n 3, 1) := by decide +kernel
theorem dX1_follow_3 : decode cX1_follow 3 = .ok (.aload_n 0, 1) := by decide +kernel
theorem dX1_follow_4 : decode cX1_follow 4 = .ok (.getfield 88, 3) := by decide +kernel
theorem dX1_follow_7 : decode cX1_follow 7 = .ok (.if_icmp .ge 75, 3) := by decide +kernel
theorem dX1_follow_10 : decode cX1_follow 10 = .ok (.iload_n 3, 1) := by decide +kernel
theorem dX1_follow_11 : decode cX1_follow 11 = .ok (.aload_n 0, 1) := by decide +kernel
theorem dX1_follow_12 : decode cX1_follow 12 = .ok (.getfield 34, 3) := by decide +kernel
theorem dX1_follow_15 : decode cX1_follow 15 = .ok (.arraylength, 1) := by decide +kernel
theorem dX1_follow_16 : decode cX1_follow 16 = .ok (.if_icmp .ge 66, 3) := by decide +kernel
theorem dX1_follow_19 : decode cX1_follow 19 = .ok (.aload_n 1, 1) := by decide +kernel
theorem dX1_follow_20 : decode cX1_follow 20 = .ok (.aload_n 0, 1) := by decide +kernel
theorem dX1_follow_21 : decode cX1_follow 21 = .ok (.getfield 34, 3) := by decide +kernel
theorem dX1_follow_24 : decode cX1_follow 24 = .ok (.iload_n 3, 1) := by decide +kernel
theorem dX1_follow_25 : decode cX1_follow 25 = .ok (.iaload, 1) := by decide +kernel
theorem dX1_follow_26 : decode cX1_follow 26 = .ok (.invokevirtual 120, 3) := by decide +kernel
theorem dX1_follow_29 : decode cX1_follow 29 = .ok (.astore 4, 2) := by decide +kernel
theorem dX1_follow_31 : decode cX1_follow 31 = .ok (.aload 4, 2) := by decide +kernel
theorem dX1_follow_33 : decode cX1_follow 33 = .ok (.ifnull 43, 3) := by decide +kernel
theorem dX1_follow_36 : decode cX1_follow 36 = .ok (.aload_n 0, 1) := by decide +kernel
theorem dX1_follow_37 : decode cX1_follow 37 = .ok (.getfield 15, 3) := by decide +kernel
theorem dX1_follow_40 : decode cX1_follow 40 = .ok (.aload 4, 2) := by decide +kernel
theorem dX1_follow_42 : decode cX1_follow 42 = .ok (.aload_n 0, 1) := by decide +kernel
theorem dX1_follow_43 : decode cX1_follow 43 = .ok (.getfield 22, 3) := by decide +kernel
theorem dX1_follow_46 : decode cX1_follow 46 = .ok (.aload_n 0, 1) := by decide +kernel
theorem dX1_follow_47 : decode cX1_follow 47 = .ok (.iload_n 2, 1) := by decide +kernel
theorem dX1_follow_48 : decode cX1_follow 48 = .ok (.invokevirtual 124, 3) := by decide +kernel
theorem dX1_follow_51 : decode cX1_follow 51 = .ok (.aload_n 0, 1) := by decide +kernel
theorem dX1_follow_52 : decode cX1_follow 52 = .ok (.iload_n 2, 1) := by decide +kernel
theorem dX1_follow_53 : decode cX1_follow 53 = .ok (.aload_n 0, 1) := by decide +kernel
theorem dX1_follow_54 : decode cX1_follow 54 = .ok (.getfield 34, 3) := by decide +kernel
theorem dX1_follow_57 : decode cX1_follow 57 = .ok (.iload_n 3, 1) := by decide +kernel
theorem dX1_follow_58 : decode cX1_follow 58 = .ok (.iaload, 1) := by decide +kernel
theorem dX1_follow_59 : decode cX1_follow 59 = .ok (.aload_n 0, 1) := by decide +kernel
theorem dX1_follow_60 : decode cX1_follow 60 = .ok (.getfield 15, 3) := by decide +kernel
theorem dX1_follow_63 : decode cX1_follow 63 = .ok (.invokevirtual 130, 3) := by decide +kernel
theorem dX1_follow_66 : decode cX1_follow 66 = .ok (.aload_n 0, 1) := by decide +kernel
theorem dX1_follow_67 : decode cX1_follow 67 = .ok (.getfield 15, 3) := by decide +kernel
theorem dX1_follow_70 : decode cX1_follow 70 = .ok (.invokevirtual 133, 3) := by decide +kernel
theorem dX1_follow_73 : decode cX1_follow 73 = .ok (.invokevirtual 109, 3) := by decide +kernel
theorem dX1_follow_76 : decode cX1_follow 76 = .ok (.iinc 3 1, 3) := by decide +kernel
theorem dX1_follow_79 : decode cX1_follow 79 = .ok (.goto (-77), 3) := by decide +kernel
theorem dX1_follow_82 : decode cX1_follow 82 = .ok (.return_, 1) := by decide +kernel
theorem dX1_put_0 : decode cX1_put 0 = .ok (.iload_n 1, 1) := by decide +kernel
theorem dX1_put_1 : decode cX1_put 1 = .ok (.bipush 64, 2) := by decide +kernel
theorem dX1_put_3 : decode cX1_put 3 = .ok (.imul, 1) := by decide +kernel
theorem dX1_put_4 : decode cX1_put 4 = .ok (.iload_n 2, 1) := by decide +kernel
theorem dX1_put_5 : decode cX1_put 5 = .ok (.iadd, 1) := by decide +kernel
theorem dX1_put_6 : decode cX1_put 6 = .ok (.istore 6, 2) := by decide +kernel
theorem dX1_put_8 : decode cX1_put 8 = .ok (.iload 6, 2) := by decide +kernel
theorem dX1_put_10 : decode cX1_put 10 = .ok (.ifCond .lt 40, 3) := by decide +kernel
theorem dX1_put_13 : decode cX1_put 13 = .ok (.iload 6, 2) := by decide +kernel
theorem dX1_put_15 : decode cX1_put 15 = .ok (.aload_n 0, 1) := by decide +kernel
theorem dX1_put_16 : decode cX1_put 16 = .ok (.getfield 26, 3) := by decide +kernel
theorem dX1_put_19 : decode cX1_put 19 = .ok (.arraylength, 1) := by decide +kernel
theorem dX1_put_20 : decode cX1_put 20 = .ok (.if_icmp .ge 30, 3) := by decide +kernel
theorem dX1_put_23 : decode cX1_put 23 = .ok (.iload 6, 2) := by decide +kernel
theorem dX1_put_25 : decode cX1_put 25 = .ok (.aload_n 0, 1) := by decide +kernel
theorem dX1_put_26 : decode cX1_put 26 = .ok (.getfield 30, 3) := by decide +kernel
theorem dX1_put_29 : decode cX1_put 29 = .ok (.arraylength, 1) := by decide +kernel
theorem dX1_put_30 : decode cX1_put 30 = .ok (.if_icmp .ge 20, 3) := by decide +kernel
theorem dX1_put_33 : decode cX1_put 33 = .ok (.aload_n 0, 1) := by decide +kernel
theorem dX1_put_34 : decode cX1_put 34 = .ok (.getfield 26, 3) := by decide +kernel
theorem dX1_put_37 : decode cX1_put 37 = .ok (.iload 6, 2) := by decide +kernel
theorem dX1_put_39 : decode cX1_put 39 = .ok (.lload_n 3, 1) := by decide +kernel
theorem dX1_put_40 : decode cX1_put 40 = .ok (.lastore, 1) := by decide +kernel
theorem dX1_put_41 : decode cX1_put 41 = .ok (.aload_n 0, 1) := by decide +kernel
theorem dX1_put_42 : decode cX1_put 42 = .ok (.getfield 30, 3) := by decide +kernel
theorem dX1_put_45 : decode cX1_put 45 = .ok (.iload 6, 2) := by decide +kernel
theorem dX1_put_47 : decode cX1_put 47 = .ok (.iload 5, 2) := by decide +kernel
theorem dX1_put_49 : decode cX1_put 49 = .ok (.iastore, 1) := by decide +kernel
theorem dX1_put_50 : decode cX1_put 50 = .ok (.return_, 1) := by decide +kernel
theorem dX2_init_0 : decode cX2_init 0 = .ok (.aload_n 0, 1) := by decide +kernel
theorem dX2_init_1 : decode cX2_init 1 = .ok (.invokespecial 3, 3) := by decide +kernel
theorem dX2_init_4 : decode cX2_init 4 = .ok (.iload_n 1, 1) := by decide +kernel
theorem dX2_init_5 : decode cX2_init 5 = .ok (.iconst 0, 1) := by decide +kernel
theorem dX2_init_6 : decode cX2_init 6 = .ok (.invokestatic 9, 3) := by decide +kernel
theorem dX2_init_9 : decode cX2_init 9 = .ok (.istore_n 2, 1) := by decide +kernel
theorem dX2_init_10 : decode cX2_init 10 = .ok (.aload_n 0, 1) := by decide +kernel
theorem dX2_init_11 : decode cX2_init 11 = .ok (.iload_n 2, 1) := by decide +kernel
theorem dX2_init_12 : decode cX2_init 12 = .ok (.newarray .int, 2) := by decide +kernel
theorem dX2_init_14 : decode cX2_init 14 = .ok (.putfield 15, 3) := by decide +kernel
theorem dX2_init_17 : decode cX2_init 17 = .ok (.aload_n 0, 1) := by decide +kernel
theorem dX2_init_18 : decode cX2_init 18 = .ok (.iload_n 2, 1) := by decide +kernel
theorem dX2_init_19 : decode cX2_init 19 = .ok (.newarray .int, 2) := by decide +kernel
theorem dX2_init_21 : decode cX2_init 21 = .ok (.putfield 21, 3) := by decide +kernel
theorem dX2_init_24 : decode cX2_init 24 = .ok (.aload_n 0, 1) := by decide +kernel
theorem dX2_init_25 : decode cX2_init 25 = .ok (.iload_n 2, 1) := by decide +kernel
theorem dX2_init_26 : decode cX2_init 26 = .ok (.newarray .int, 2) := by decide +kernel
theorem dX2_init_28 : decode cX2_init 28 = .ok (.putfield 24, 3) := by decide +kernel
theorem dX2_init_31 : decode cX2_init 31 = .ok (.aload_n 0, 1) := by decide +kernel
theorem dX2_init_32 : decode cX2_init 32 = .ok (.iload_n 2, 1) := by decide +kernel
theorem dX2_init_33 : decode cX2_init 33 = .ok (.newarray .int, 2) := by decide +kernel
theorem dX2_init_35 : decode cX2_init 35 = .ok (.putfield 27, 3) := by decide +kernel
theorem dX2_init_38 : decode cX2_init 38 = .ok (.return_, 1) := by decide +kernel
theorem dX2_length_0 : decode cX2_length 0 = .ok (.aload_n 0, 1) := by decide +kernel
theorem dX2_length_1 : decode cX2_length 1 = .ok (.getfield 15, 3) := by decide +kernel
theorem dX2_length_4 : decode cX2_length 4 = .ok (.arraylength, 1) := by decide +kernel
theorem dX2_length_5 : decode cX2_length 5 = .ok (.ireturn, 1) := by decide +kernel
theorem dX2_byteAt_0 : decode cX2_byteAt 0 = .ok (.iload_n 1, 1) := by decide +kernel
theorem dX2_byteAt_1 : decode cX2_byteAt 1 = .ok (.ifCond .lt 21, 3) := by decide +kernel
theorem dX2_byteAt_4 : decode cX2_byteAt 4 = .ok (.iload_n 1, 1) := by decide +kernel
theorem dX2_byteAt_5 : decode cX2_byteAt 5 = .ok (.aload_n 0, 1) := by decide +kernel
theorem dX2_byteAt_6 : decode cX2_byteAt 6 = .ok (.getfield 15, 3) := by decide +kernel
theorem dX2_byteAt_9 : decode cX2_byteAt 9 = .ok (.arraylength, 1) := by decide +kernel
theorem dX2_byteAt_10 : decode cX2_byteAt 10 = .ok (.if_icmp .ge 12, 3) := by decide +kernel
theorem dX2_byteAt_13 : decode cX2_byteAt 13 = .ok (.aload_n 0, 1) := by decide +kernel
theorem dX2_byteAt_14 : decode cX2_byteAt 14 = .ok (.getfield 15, 3) := by decide +kernel
theorem dX2_byteAt_17 : decode cX2_byteAt 17 = .ok (.iload_n 1, 1) := by decide +kernel
theorem dX2_byteAt_18 : decode cX2_byteAt 18 = .ok (.iaload, 1) := by decide +kernel
theorem dX2_byteAt_19 : decode cX2_byteAt 19 = .ok (.goto 4, 3) := by decide +kernel
theorem dX2_byteAt_22 : decode cX2_byteAt 22 = .ok (.iconst (-1), 1) := by decide +kernel
theorem dX2_byteAt_23 : decode cX2_byteAt 23 = .ok (.ireturn, 1) := by decide +kernel
theorem dX2_putByte_0 : decode cX2_putByte 0 = .ok (.iload_n 1, 1) := by decide +kernel
theorem dX2_putByte_1 : decode cX2_putByte 1 = .ok (.ifCond .lt 19, 3) := by decide +kernel
theorem dX2_putByte_4 : decode cX2_putByte 4 = .ok (.iload_n 1, 1) := by decide +kernel
theorem dX2_putByte_5 : decode cX2_putByte 5 = .ok (.aload_n 0, 1) := by decide +kernel
theorem dX2_putByte_6 : decode cX2_putByte 6 = .ok (.getfield 15, 3) := by decide +kernel
theorem dX2_putByte_9 : decode cX2_putByte 9 = .ok (.arraylength, 1) := by decide +kernel
theorem dX2_putByte_10 : decode cX2_putByte 10 = .ok (.if_icmp .ge 10, 3) := by decide +kernel
theorem dX2_putByte_13 : decode cX2_putByte 13 = .ok (.aload_n 0, 1) := by decide +kernel
theorem dX2_putByte_14 : decode cX2_putByte 14 = .ok (.getfield 15, 3) := by decide +kernel
theorem dX2_putByte_17 : decode cX2_putByte 17 = .ok (.iload_n 1, 1) := by decide +kernel
theorem dX2_putByte_18 : decode cX2_putByte 18 = .ok (.iload_n 2, 1) := by decide +kernel
theorem dX2_putByte_19 : decode cX2_putByte 19 = .ok (.iastore, 1) := by decide +kernel
theorem dX2_putByte_20 : decode cX2_putByte 20 = .ok (.return_, 1) := by decide +kernel
theorem dX2_hasTextOf_0 : decode cX2_hasTextOf 0 = .ok (.aload_n 1, 1) := by decide +kernel
theorem dX2_hasTextOf_1 : decode cX2_hasTextOf 1 = .ok (.ifnull 15, 3) := by decide +kernel
theorem dX2_hasTextOf_4 : decode cX2_hasTextOf 4 = .ok (.aload_n 1, 1) := by decide +kernel
theorem dX2_hasTextOf_5 : decode cX2_hasTextOf 5 = .ok (.invokevirtual 30, 3) := by decide +kernel
theorem dX2_hasTextOf_8 : decode cX2_hasTextOf 8 = .ok (.aload_n 0, 1) := by decide +kernel
theorem dX2_hasTextOf_9 : decode cX2_hasTextOf 9 = .ok (.getfield 15, 3) := by decide +kernel
theorem dX2_hasTextOf_12 : decode cX2_hasTextOf 12 = .ok (.arraylength, 1) := by decide +kernel
theorem dX2_hasTextOf_13 : decode cX2_hasTextOf 13 = .ok (.if_icmp .eq 5, 3) := by decide +kernel
theorem dX2_hasTextOf_16 : decode cX2_hasTextOf 16 = .ok (.iconst 0, 1) := by decide +kernel
theorem dX2_hasTextOf_17 : decode cX2_hasTextOf 17 = .ok (.ireturn, 1) := by decide +kernel
theorem dX2_hasTextOf_18 : decode cX2_hasTextOf 18 = .ok (.iconst 0, 1) := by decide +kernel
theorem dX2_hasTextOf_19 : decode cX2_hasTextOf 19 = .ok (.istore_n 2, 1) := by decide +kernel
theorem dX2_hasTextOf_20 : decode cX2_hasTextOf 20 = .ok (.iload_n 2, 1) := by decide +kernel
theorem dX2_hasTextOf_21 : decode cX2_hasTextOf 21 = .ok (.aload_n 0, 1) := by decide +kernel
theorem dX2_hasTextOf_22 : decode cX2_hasTextOf 22 = .ok (.getfield 15, 3) := by decide +kernel
theorem dX2_hasTextOf_25 : decode cX2_hasTextOf 25 = .ok (.arraylength, 1) := by decide +kernel
theorem dX2_hasTextOf_26 : decode cX2_hasTextOf 26 = .ok (.if_icmp .ge 25, 3) := by decide +kernel
theorem dX2_hasTextOf_29 : decode cX2_hasTextOf 29 = .ok (.aload_n 0, 1) := by decide +kernel
theorem dX2_hasTextOf_30 : decode cX2_hasTextOf 30 = .ok (.getfield 15, 3) := by decide +kernel
theorem dX2_hasTextOf_33 : decode cX2_hasTextOf 33 = .ok (.iload_n 2, 1) := by decide +kernel
theorem dX2_hasTextOf_34 : decode cX2_hasTextOf 34 = .ok (.iaload, 1) := by decide +kernel
theorem dX2_hasTextOf_35 : decode cX2_hasTextOf 35 = .ok (.aload_n 1, 1) := by decide +kernel
theorem dX2_hasTextOf_36 : decode cX2_hasTextOf 36 = .ok (.iload_n 2, 1) := by decide +kernel
theorem dX2_hasTextOf_37 : decode cX2_hasTextOf 37 = .ok (.invokevirtual 34, 3) := by decide +kernel
theorem dX2_hasTextOf_40 : decode cX2_hasTextOf 40 = .ok (.if_icmp .eq 5, 3) := by decide +kernel
theorem dX2_hasTextOf_43 : decode cX2_hasTextOf 43 = .ok (.iconst 0, 1) := by decide +kernel
theorem dX2_hasTextOf_44 : decode cX2_hasTextOf 44 = .ok (.ireturn, 1) := by decide +kernel
theorem dX2_hasTextOf_45 : decode cX2_hasTextOf 45 = .ok (.iinc 2 1, 3) := by decide +kernel
theorem dX2_hasTextOf_48 : decode cX2_hasTextOf 48 = .ok (.goto (-28), 3) := by decide +kernel
theorem dX2_hasTextOf_51 : decode cX2_hasTextOf 51 = .ok (.iconst 1, 1) := by decide +kernel
theorem dX2_hasTextOf_52 : decode cX2_hasTextOf 52 = .ok (.ireturn, 1) := by decide +kernel
theorem dX2_addStep_0 : decode cX2_addStep 0 = .ok (.iload_n 1, 1) := by decide +kernel
theorem dX2_addStep_1 : decode cX2_addStep 1 = .ok (.ifCond .lt 74, 3) := by decide +kernel
theorem dX2_addStep_4 : decode cX2_addStep 4 = .ok (.iload_n 1, 1) := by decide +kernel
theorem dX2_addStep_5 : decode cX2_addStep 5 = .ok (.aload_n 0, 1) := by decide +kernel
theorem dX2_addStep_6 : decode cX2_addStep 6 = .ok (.getfield 21, 3) := by decide +kernel
theorem dX2_addStep_9 : decode cX2_addStep 9 = .ok (.arraylength, 1) := by decide +kernel
theorem dX2_addStep_10 : decode cX2_addStep 10 = .ok (.if_icmp .ge 65, 3) := by decide +kernel
theorem dX2_addStep_13 : decode cX2_addStep 13 = .ok (.iload_n 1, 1) := by decide +kernel
theorem dX2_addStep_14 : decode cX2_addStep 14 = .ok (.aload_n 0, 1) := by decide +kernel
theorem dX2_addStep_15 : decode cX2_addStep 15 = .ok (.getfield 24, 3) := by decide +kernel
theorem dX2_addStep_18 : decode cX2_addStep 18 = .ok (.arraylength, 1) := by decide +kernel
theorem dX2_addStep_19 : decode cX2_addStep 19 = .ok (.if_icmp .ge 56, 3) := by decide +kernel
theorem dX2_addStep_22 : decode cX2_addStep 22 = .ok (.aload_n 0, 1) := by decide +kernel
theorem dX2_addStep_23 : decode cX2_addStep 23 = .ok (.getfield 38, 3) := by decide +kernel
theorem dX2_addStep_26 : decode cX2_addStep 26 = .ok (.ifCond .lt 49, 3) := by decide +kernel
theorem dX2_addStep_29 : decode cX2_addStep 29 = .ok (.aload_n 0, 1) := by decide +kernel
theorem dX2_addStep_30 : decode cX2_addStep 30 = .ok (.getfield 38, 3) := by decide +kernel
theorem dX2_addStep_33 : decode cX2_addStep 33 = .ok (.aload_n 0, 1) := by decide +kernel
theorem dX2_addStep_34 : decode cX2_addStep 34 = .ok (.getfield 27, 3) := by decide +kernel
theorem dX2_addStep_37 : decode cX2_addStep 37 = .ok (.arraylength, 1) := by decide +kernel
theorem dX2_addStep_38 : decode cX2_addStep 38 = .ok (.if_icmp .ge 37, 3) := by decide +kernel
theorem dX2_addStep_41 : decode cX2_addStep 41 = .ok (.aload_n 0, 1) := by decide +kernel
theorem dX2_addStep_42 : decode cX2_addStep 42 = .ok (.getfield 21, 3) := by decide +kernel
theorem dX2_addStep_45 : decode cX2_addStep 45 = .ok (.iload_n 1, 1) := by decide +kernel
theorem dX2_addStep_46 : decode cX2_addStep 46 = .ok (.iload_n 2, 1) := by decide +kernel
theorem dX2_addStep_47 : decode cX2_addStep 47 = .ok (.iastore, 1) := by decide +kernel
theorem dX2_addStep_48 : decode cX2_addStep 48 = .ok (.aload_n 0, 1) := by decide +kernel
theorem dX2_addStep_49 : decode cX2_addStep 49 = .ok (.getfield 24, 3) := by decide +kernel
theorem dX2_addStep_52 : decode cX2_addStep 52 = .ok (.iload_n 1, 1) := by decide +kernel
theorem dX2_addStep_53 : decode cX2_addStep 53 = .ok (.iload_n 3, 1) := by decide +kernel
theorem dX2_addStep_54 : decode cX2_addStep 54 = .ok (.iastore, 1) := by decide +kernel
theorem dX2_addStep_55 : decode cX2_addStep 55 = .ok (.aload_n 0, 1) := by decide +kernel
theorem dX2_addStep_56 : decode cX2_addStep 56 = .ok (.getfield 27, 3) := by decide +kernel
theorem dX2_addStep_59 : decode cX2_addStep 59 = .ok (.aload_n 0, 1) := by decide +kernel
theorem dX2_addStep_60 : decode cX2_addStep 60 = .ok (.getfield 38, 3) := by decide +kernel
theorem dX2_addStep_63 : decode cX2_addStep 63 = .ok (.iload_n 1, 1) := by decide +kernel
theorem dX2_addStep_64 : decode cX2_addStep 64 = .ok (.iastore, 1) := by decide +kernel
theorem dX2_addStep_65 : decode cX2_addStep 65 = .ok (.aload_n 0, 1) := by decide +kernel
theorem dX2_addStep_66 : decode cX2_addStep 66 = .ok (.dup, 1) := by decide +kernel
theorem dX2_addStep_67 : decode cX2_addStep 67 = .ok (.getfield 38, 3) := by decide +kernel
theorem dX2_addStep_70 : decode cX2_addStep 70 = .ok (.iconst 1, 1) := by decide +kernel
theorem dX2_addStep_71 : decode cX2_addStep 71 = .ok (.iadd, 1) := by decide +kernel
theorem dX2_addStep_72 : decode cX2_addStep 72 = .ok (.putfield 38, 3) := by decide +kernel
theorem dX2_addStep_75 : decode cX2_addStep 75 = .ok (.return_, 1) := by decide +kernel
theorem dX2_countSteps_0 : decode cX2_countSteps 0 = .ok (.aload_n 0, 1) := by decide +kernel
theorem dX2_countSteps_1 : decode cX2_countSteps 1 = .ok (.getfield 38, 3) := by decide +kernel
theorem dX2_countSteps_4 : decode cX2_countSteps 4 = .ok (.ireturn, 1) := by decide +kernel
theorem dX2_placeOf_0 : decode cX2_placeOf 0 = .ok (.iload_n 1, 1) := by decide +kernel
theorem dX2_placeOf_1 : decode cX2_placeOf 1 = .ok (.ifCond .lt 29, 3) := by decide +kernel
theorem dX2_placeOf_4 : decode cX2_placeOf 4 = .ok (.iload_n 1, 1) := by decide +kernel
theorem dX2_placeOf_5 : decode cX2_placeOf 5 = .ok (.aload_n 0, 1) := by decide +kernel
theorem dX2_placeOf_6 : decode cX2_placeOf 6 = .ok (.getfield 38, 3) := by decide +kernel
theorem dX2_placeOf_9 : decode cX2_placeOf 9 = .ok (.if_icmp .ge 21, 3) := by decide +kernel
theorem dX2_placeOf_12 : decode cX2_placeOf 12 = .ok (.iload_n 1, 1) := by decide +kernel
theorem dX2_placeOf_13 : decode cX2_placeOf 13 = .ok (.aload_n 0, 1) := by decide +kernel
theorem dX2_placeOf_14 : decode cX2_placeOf 14 = .ok (.getfield 27, 3) := by decide +kernel
theorem dX2_placeOf_17 : decode cX2_placeOf 17 = .ok (.arraylength, 1) := by decide +kernel
theorem dX2_placeOf_18 : decode cX2_placeOf 18 = .ok (.if_icmp .ge 12, 3) := by decide +kernel
theorem dX2_placeOf_21 : decode cX2_placeOf 21 = .ok (.aload_n 0, 1) := by decide +kernel
theorem dX2_placeOf_22 : decode cX2_placeOf 22 = .ok (.getfield 27, 3) := by decide +kernel
theorem dX2_placeOf_25 : decode cX2_placeOf 25 = .ok (.iload_n 1, 1) := by decide +kernel
theorem dX2_placeOf_26 : decode cX2_placeOf 26 = .ok (.iaload, 1) := by decide +kernel
theorem dX2_placeOf_27 : decode cX2_placeOf 27 = .ok (.goto 4, 3) := by decide +kernel
theorem dX2_placeOf_30 : decode cX2_placeOf 30 = .ok (.iconst (-1), 1) := by decide +kernel
theorem dX2_placeOf_31 : decode cX2_placeOf 31 = .ok (.ireturn, 1) := by decide +kernel
theorem dX2_stepAt_0 : decode cX2_stepAt 0 = .ok (.iload_n 1, 1) := by decide +kernel
theorem dX2_stepAt_1 : decode cX2_stepAt 1 = .ok (.ifCond .lt 21, 3) := by decide +kernel
theorem dX2_stepAt_4 : decode cX2_stepAt 4 = .ok (.iload_n 1, 1) := by decide +kernel
theorem dX2_stepAt_5 : decode cX2_stepAt 5 = .ok (.aload_n 0, 1) := by decide +kernel
theorem dX2_stepAt_6 : decode cX2_stepAt 6 = .ok (.getfield 21, 3) := by decide +kernel
theorem dX2_stepAt_9 : decode cX2_stepAt 9 = .ok (.arraylength, 1) := by decide +kernel
theorem dX2_stepAt_10 : decode cX2_stepAt 10 = .ok (.if_icmp .ge 12, 3) := by decide +kernel
theorem dX2_stepAt_13 : decode cX2_stepAt 13 = .ok (.aload_n 0, 1) := by decide +kernel
theorem dX2_stepAt_14 : decode cX2_stepAt 14 = .ok (.getfield 21, 3) := by decide +kernel
theorem dX2_stepAt_17 : decode cX2_stepAt 17 = .ok (.iload_n 1, 1) := by decide +kernel
theorem dX2_stepAt_18 : decode cX2_stepAt 18 = .ok (.iaload, 1) := by decide +kernel
theorem dX2_stepAt_19 : decode cX2_stepAt 19 = .ok (.goto 4, 3) := by decide +kernel
theorem dX2_stepAt_22 : decode cX2_stepAt 22 = .ok (.iconst 0, 1) := by decide +kernel
theorem dX2_stepAt_23 : decode cX2_stepAt 23 = .ok (.ireturn, 1) := by decide +kernel
theorem dX2_operandAt_0 : decode cX2_operandAt 0 = .ok (.iload_n 1, 1) := by decide +kernel
theorem dX2_operandAt_1 : decode cX2_operandAt 1 = .ok (.ifCond .lt 21, 3) := by decide +kernel
theorem dX2_operandAt_4 : decode cX2_operandAt 4 = .ok (.iload_n 1, 1) := by decide +kernel
theorem dX2_operandAt_5 : decode cX2_operandAt 5 = .ok (.aload_n 0, 1) := by decide +kernel
theorem dX2_operandAt_6 : decode cX2_operandAt 6 = .ok (.getfield 24, 3) := by decide +kernel
theorem dX2_operandAt_9 : decode cX2_operandAt 9 = .ok (.arraylength, 1) := by decide +kernel
theorem dX2_operandAt_10 : decode cX2_operandAt 10 = .ok (.if_icmp .ge 12, 3) := by decide +kernel
theorem dX2_operandAt_13 : decode cX2_operandAt 13 = .ok (.aload_n 0, 1) := by decide +kernel
theorem dX2_operandAt_14 : decode cX2_operandAt 14 = .ok (.getfield 24, 3) := by decide +kernel
theorem dX2_operandAt_17 : decode cX2_operandAt 17 = .ok (.iload_n 1, 1) := by decide +kernel
theorem dX2_operandAt_18 : decode cX2_operandAt 18 = .ok (.iaload, 1) := by decide +kernel
theorem dX2_operandAt_19 : decode cX2_operandAt 19 = .ok (.goto 4, 3) := by decide +kernel
theorem dX2_operandAt_22 : decode cX2_operandAt 22 = .ok (.iconst 0, 1) := by decide +kernel
theorem dX2_operandAt_23 : decode cX2_operandAt 23 = .ok (.ireturn, 1) := by decide +kernel
theorem dX2_needs_0 : decode cX2_needs 0 = .ok (.lconst 0, 1) := by decide +kernel
theorem dX2_needs_1 : decode cX2_needs 1 = .ok (.lstore_n 2, 1) := by decide +kernel
theorem dX2_needs_2 : decode cX2_needs 2 = .ok (.iconst 0, 1) := by decide +kernel
theorem dX2_needs_3 : decode cX2_needs 3 = .ok (.istore 4, 2) := by decide +kernel
theorem dX2_needs_5 : decode cX2_needs 5 = .ok (.iconst 0, 1) := by decide +kernel
theorem dX2_needs_6 : decode cX2_needs 6 = .ok (.istore 5, 2) := by decide +kernel
theorem dX2_needs_8 : decode cX2_needs 8 = .ok (.iconst 0, 1) := by decide +kernel
theorem dX2_needs_9 : decode cX2_needs 9 = .ok (.istore 6, 2) := by decide +kernel
theorem dX2_needs_11 : decode cX2_needs 11 = .ok (.iload 6, 2) := by decide +kernel
theorem dX2_needs_13 : decode cX2_needs 13 = .ok (.aload_n 0, 1) := by decide +kernel
theorem dX2_needs_14 : decode cX2_needs 14 = .ok (.getfield 38, 3) := by decide +kernel
theorem dX2_needs_17 : decode cX2_needs 17 = .ok (.if_icmp .ge 98, 3) := by decide +kernel
theorem dX2_needs_20 : decode cX2_needs 20 = .ok (.aload_n 0, 1) := by decide +kernel
theorem dX2_needs_21 : decode cX2_needs 21 = .ok (.iload 6, 2) := by decide +kernel
theorem dX2_needs_23 : decode cX2_needs 23 = .ok (.invokevirtual 42, 3) := by decide +kernel
theorem dX2_needs_26 : decode cX2_needs 26 = .ok (.istore 7, 2) := by decide +kernel
theorem dX2_needs_28 : decode cX2_needs 28 = .ok (.aload_n 0, 1) := by decide +kernel
theorem dX2_needs_29 : decode cX2_needs 29 = .ok (.iload 7, 2) := by decide +kernel
theorem dX2_needs_31 : decode cX2_needs 31 = .ok (.invokevirtual 45, 3) := by decide +kernel
theorem dX2_needs_34 : decode cX2_needs 34 = .ok (.tableswitch 75 2 5 #[30, 46, 75, 62], 30) := by decide +kernel
theorem dX2_needs_64 : decode cX2_needs 64 = .ok (.lload_n 2, 1) := by decide +kernel
theorem dX2_needs_65 : decode cX2_needs 65 = .ok (.aload_n 1, 1) := by decide +kernel
theorem dX2_needs_66 : decode cX2_needs 66 = .ok (.aload_n 0, 1) := by decide +kernel
theorem dX2_needs_67 : decode cX2_needs 67 = .ok (.iload 7, 2) := by decide +kernel
theorem dX2_needs_69 : decode cX2_needs 69 = .ok (.invokevirtual 48, 3) := by decide +kernel
theorem dX2_needs_72 : decode cX2_needs 72 = .ok (.invokestatic 54, 3) := by decide +kernel
theorem dX2_needs_75 : decode cX2_needs 75 = .ok (.lor, 1) := by decide +kernel
theorem dX2_needs_76 : decode cX2_needs 76 = .ok (.lstore_n 2, 1) := by decide +kernel
theorem dX2_needs_77 : decode cX2_needs 77 = .ok (.goto 32, 3) := by decide +kernel
theorem dX2_needs_80 : decode cX2_needs 80 = .ok (.iload 5, 2) := by decide +kernel
theorem dX2_needs_82 : decode cX2_needs 82 = .ok (.istore 4, 2) := by decide +kernel
theorem dX2_needs_84 : decode cX2_needs 84 = .ok (.aload_n 1, 1) := by decide +kernel
theorem dX2_needs_85 : decode cX2_needs 85 = .ok (.aload_n 0, 1) := by decide +kernel
theorem dX2_needs_86 : decode cX2_needs 86 = .ok (.iload 7, 2) := by decide +kernel
theorem dX2_needs_88 : decode cX2_needs 88 = .ok (.invokevirtual 48, 3) := by decide +kernel
theorem dX2_needs_91 : decode cX2_needs 91 = .ok (.istore 5, 2) := by decide +kernel
theorem dX2_needs_93 : decode cX2_needs 93 = .ok (.goto 16, 3) := by decide +kernel
theorem dX2_needs_96 : decode cX2_needs 96 = .ok (.lload_n 2, 1) := by decide +kernel
theorem dX2_needs_97 : decode cX2_needs 97 = .ok (.iload 4, 2) := by decide +kernel
theorem dX2_needs_99 : decode cX2_needs 99 = .ok (.iload 5, 2) := by decide +kernel
theorem dX2_needs_101 : decode cX2_needs 101 = .ok (.invokestatic 58, 3) := by decide +kernel
theorem dX2_needs_104 : decode cX2_needs 104 = .ok (.lor, 1) := by decide +kernel
theorem dX2_needs_105 : decode cX2_needs 105 = .ok (.lstore_n 2, 1) := by decide +kernel
theorem dX2_needs_106 : decode cX2_needs 106 = .ok (.goto 3, 3) := by decide +kernel
theorem dX2_needs_109 : decode cX2_needs 109 = .ok (.iinc 6 1, 3) := by decide +kernel
theorem dX2_needs_112 : decode cX2_needs 112 = .ok (.goto (-101), 3) := by decide +kernel
theorem dX2_needs_115 : decode cX2_needs 115 = .ok (.lload_n 2, 1) := by decide +kernel
theorem dX2_needs_116 : decode cX2_needs 116 = .ok (.lreturn, 1) := by decide +kernel
theorem dX3_init_0 : decode cX3_init 0 = .ok (.aload_n 0, 1) := by decide +kernel
theorem dX3_init_1 : decode cX3_init 1 = .ok (.invokespecial 3, 3) := by decide +kernel
theorem dX3_init_4 : decode cX3_init 4 = .ok (.aload_n 0, 1) := by decide +kernel
theorem dX3_init_5 : decode cX3_init 5 = .ok (.aload_n 1, 1) := by decide +kernel
theorem dX3_init_6 : decode cX3_init 6 = .ok (.putfield 9, 3) := by decide +kernel
theorem dX3_init_9 : decode cX3_init 9 = .ok (.aload_n 0, 1) := by decide +kernel
theorem dX3_init_10 : decode cX3_init 10 = .ok (.aload_n 2, 1) := by decide +kernel
theorem dX3_init_11 : decode cX3_init 11 = .ok (.putfield 15, 3) := by decide +kernel
theorem dX3_init_14 : decode cX3_init 14 = .ok (.aload_n 0, 1) := by decide +kernel
theorem dX3_init_15 : decode cX3_init 15 = .ok (.aload_n 3, 1) := by decide +kernel
theorem dX3_init_16 : decode cX3_init 16 = .ok (.putfield 19, 3) := by decide +kernel
theorem dX3_init_19 : decode cX3_init 19 = .ok (.aload_n 0, 1) := by decide +kernel
theorem dX3_init_20 : decode cX3_init 20 = .ok (.aload 4, 2) := by decide +kernel
theorem dX3_init_22 : decode cX3_init 22 = .ok (.putfield 23, 3) := by decide +kernel
theorem dX3_init_25 : decode cX3_init 25 = .ok (.aload_n 0, 1) := by decide +kernel
theorem dX3_init_26 : decode cX3_init 26 = .ok (.aload 5, 2) := by decide +kernel
theorem dX3_init_28 : decode cX3_init 28 = .ok (.putfield 26, 3) := by decide +kernel
theorem dX3_init_31 : decode cX3_init 31 = .ok (.aload_n 0, 1) := by decide +kernel
theorem dX3_init_32 : decode cX3_init 32 = .ok (.new 29, 3) := by decide +kernel
theorem dX3_init_35 : decode cX3_init 35 = .ok (.dup, 1) := by decide +kernel
theorem dX3_init_36 : decode cX3_init 36 = .ok (.invokespecial 31, 3) := by decide +kernel
theorem dX3_init_39 : decode cX3_init 39 = .ok (.putfield 32, 3) := by decide +kernel
theorem dX3_init_42 : decode cX3_init 42 = .ok (.return_, 1) := by decide +kernel
theorem dX3_slipPlace_0 : decode cX3_slipPlace 0 = .ok (.aload_n 0, 1) := by decide +kernel
theorem dX3_slipPlace_1 : decode cX3_slipPlace 1 = .ok (.getfield 36, 3) := by decide +kernel
theorem dX3_slipPlace_4 : decode cX3_slipPlace 4 = .ok (.ireturn, 1) := by decide +kernel
theorem dX3_slipMade_0 : decode cX3_slipMade 0 = .ok (.aload_n 0, 1) := by decide +kernel
theorem dX3_slipMade_1 : decode cX3_slipMade 1 = .ok (.getfield 40, 3) := by decide +kernel
theorem dX3_slipMade_4 : decode cX3_slipMade 4 = .ok (.ireturn, 1) := by decide +kernel
theorem dX3_open_0 : decode cX3_open 0 = .ok (.aload_n 1, 1) := by decide +kernel
theorem dX3_open_1 : decode cX3_open 1 = .ok (.ifnull 23, 3) := by decide +kernel
theorem dX3_open_4 : decode cX3_open 4 = .ok (.aload_n 2, 1) := by decide +kernel
theorem dX3_open_5 : decode cX3_open 5 = .ok (.ifnull 19, 3) := by decide +kernel
theorem dX3_open_8 : decode cX3_open 8 = .ok (.aload_n 0, 1) := by decide +kernel
theorem dX3_open_9 : decode cX3_open 9 = .ok (.getfield 19, 3) := by decide +kernel
theorem dX3_open_12 : decode cX3_open 12 = .ok (.aload_n 1, 1) := by decide +kernel
theorem dX3_open_13 : decode cX3_open 13 = .ok (.invokevirtual 43, 3) := by decide +kernel
theorem dX3_open_16 : decode cX3_open 16 = .ok (.aload_n 0, 1) := by decide +kernel
theorem dX3_open_17 : decode cX3_open 17 = .ok (.getfield 23, 3) := by decide +kernel
theorem dX3_open_20 : decode cX3_open 20 = .ok (.aload_n 2, 1) := by decide +kernel
theorem dX3_open_21 : decode cX3_open 21 = .ok (.invokevirtual 43, 3) := by decide +kernel
theorem dX3_open_24 : decode cX3_open 24 = .ok (.return_, 1) := by decide +kernel
theorem dX3_judge_0 : decode cX3_judge 0 = .ok (.aload_n 1, 1) := by decide +kernel
theorem dX3_judge_1 : decode cX3_judge 1 = .ok (.iload_n 2, 1) := by decide +kernel
theorem dX3_judge_2 : decode cX3_judge 2 = .ok (.invokevirtual 49, 3) := by decide +kernel
theorem dX3_judge_5 : decode cX3_judge 5 = .ok (.astore_n 3, 1) := by decide +kernel
theorem dX3_judge_6 : decode cX3_judge 6 = .ok (.aload_n 3, 1) := by decide +kernel
theorem dX3_judge_7 : decode cX3_judge 7 = .ok (.ifnonnull 10, 3) := by decide +kernel
theorem dX3_judge_10 : decode cX3_judge 10 = .ok (.aload_n 0, 1) := by decide +kernel
theorem dX3_judge_11 : decode cX3_judge 11 = .ok (.aload_n 1, 1) := by decide +kernel
theorem dX3_judge_12 : decode cX3_judge 12 = .ok (.iload_n 2, 1) := by decide +kernel
theorem dX3_judge_13 : decode cX3_judge 13 = .ok (.invokevirtual 55, 3) := by decide +kernel
theorem dX3_judge_16 : decode cX3_judge 16 = .ok (.ireturn, 1) := by decide +kernel
theorem dX3_judge_17 : decode cX3_judge 17 = .ok (.aload_n 0, 1) := by decide +kernel
theorem dX3_judge_18 : decode cX3_judge 18 = .ok (.aload_n 0, 1) := by decide +kernel
theorem dX3_judge_19 : decode cX3_judge 19 = .ok (.getfield 23, 3) := by decide +kernel
theorem dX3_judge_22 : decode cX3_judge 22 = .ok (.iload_n 2, 1) := by decide +kernel
theorem dX3_judge_23 : decode cX3_judge 23 = .ok (.invokevirtual 59, 3) := by decide +kernel
theorem dX3_judge_26 : decode cX3_judge 26 = .ok (.ifCond .eq 5, 3) := by decide +kernel
theorem dX3_judge_29 : decode cX3_judge 29 = .ok (.iconst 1, 1) := by decide +kernel
theorem dX3_judge_30 : decode cX3_judge 30 = .ok (.ireturn, 1) := by decide +kernel
theorem dX3_judge_31 : decode cX3_judge 31 = .ok (.aload_n 0, 1) := by decide +kernel
theorem dX3_judge_32 : decode cX3_judge 32 = .ok (.getfield 26, 3) := by decide +kernel
theorem dX3_judge_35 : decode cX3_judge 35 = .ok (.aload_n 1, 1) := by decide +kernel
theorem dX3_judge_36 : decode cX3_judge 36 = .ok (.iload_n 2, 1) := by decide +kernel
theorem dX3_judge_37 : decode cX3_judge 37 = .ok (.aload_n 0, 1) := by decide +kernel
theorem dX3_judge_38 : decode cX3_judge 38 = .ok (.getfield 19, 3) := by decide +kernel
theorem dX3_judge_41 : decode cX3_judge 41 = .ok (.invokevirtual 63, 3) := by decide +kernel
theorem dX3_judge_44 : decode cX3_judge 44 = .ok (.aload_n 0, 1) := by decide +kernel
theorem dX3_judge_45 : decode cX3_judge 45 = .ok (.aload_n 0, 1) := by decide +kernel
theorem dX3_judge_46 : decode cX3_judge 46 = .ok (.getfield 26, 3) := by decide +kernel
theorem dX3_judge_49 : decode cX3_judge 49 = .ok (.iload_n 2, 1) := by decide +kernel
theorem dX3_judge_50 : decode cX3_judge 50 = .ok (.invokevirtual 59, 3) := by decide +kernel
theorem dX3_judge_53 : decode cX3_judge 53 = .ok (.ifCond .eq 5, 3) := by decide +kernel
theorem dX3_judge_56 : decode cX3_judge 56 = .ok (.iconst 3, 1) := by decide +kernel
theorem dX3_judge_57 : decode cX3_judge 57 = .ok (.ireturn, 1) := by decide +kernel
theorem dX3_judge_58 : decode cX3_judge 58 = .ok (.aload_n 0, 1) := by decide +kernel
theorem dX3_judge_59 : decode cX3_judge 59 = .ok (.aload_n 3, 1) := by decide +kernel
theorem dX3_judge_60 : decode cX3_judge 60 = .ok (.iload_n 2, 1) := by decide +kernel
theorem dX3_judge_61 : decode cX3_judge 61 = .ok (.invokevirtual 67, 3) := by decide +kernel
theorem dX3_judge_64 : decode cX3_judge 64 = .ok (.ifCond .eq 7, 3) := by decide +kernel
theorem dX3_judge_67 : decode cX3_judge 67 = .ok (.iconst 4, 1) := by decide +kernel
theorem dX3_judge_68 : decode cX3_judge 68 = .ok (.goto 4, 3) := by decide +kernel
theorem dX3_judge_71 : decode cX3_judge 71 = .ok (.iconst 5, 1) := by decide +kernel
theorem dX3_judge_72 : decode cX3_judge 72 = .ok (.ireturn, 1) := by decide +kernel
theorem dX3_judgeNumber_0 : decode cX3_judgeNumber 0 = .ok (.aload_n 1, 1) := by decide +kernel
theorem dX3_judgeNumber_1 : decode cX3_judgeNumber 1 = .ok (.iload_n 2, 1) := by decide +kernel
theorem dX3_judgeNumber_2 : decode cX3_judgeNumber 2 = .ok (.invokevirtual 71, 3) := by decide +kernel
theorem dX3_judgeNumber_5 : decode cX3_judgeNumber 5 = .ok (.ifCond .ne 5, 3) := by decide +kernel
theorem dX3_judgeNumber_8 : decode cX3_judgeNumber 8 = .ok (.iconst 0, 1) := by decide +kernel
theorem dX3_judgeNumber_9 : decode cX3_judgeNumber 9 = .ok (.ireturn, 1) := by decide +kernel
theorem dX3_judgeNumber_10 : decode cX3_judgeNumber 10 = .ok (.iconst 0, 1) := by decide +kernel
theorem dX3_judgeNumber_11 : decode cX3_judgeNumber 11 = .ok (.istore_n 3, 1) := by decide +kernel
theorem dX3_judgeNumber_12 : decode cX3_judgeNumber 12 = .ok (.iload_n 3, 1) := by decide +kernel
theorem dX3_judgeNumber_13 : decode cX3_judgeNumber 13 = .ok (.bipush 6, 2) := by decide +kernel
theorem dX3_judgeNumber_15 : decode cX3_judgeNumber 15 = .ok (.if_icmp .ge 38, 3) := by decide +kernel
theorem dX3_judgeNumber_18 : decode cX3_judgeNumber 18 = .ok (.aload_n 0, 1) := by decide +kernel
theorem dX3_judgeNumber_19 : decode cX3_judgeNumber 19 = .ok (.getfield 9, 3) := by decide +kernel
theorem dX3_judgeNumber_22 : decode cX3_judgeNumber 22 = .ok (.iload_n 3, 1) := by decide +kernel
theorem dX3_judgeNumber_23 : decode cX3_judgeNumber 23 = .ok (.invokevirtual 75, 3) := by decide +kernel
theorem dX3_judgeNumber_26 : decode cX3_judgeNumber 26 = .ok (.ifCond .eq 27, 3) := by decide +kernel
theorem dX3_judgeNumber_29 : decode cX3_judgeNumber 29 = .ok (.aload_n 0, 1) := by decide +kernel
theorem dX3_judgeNumber_30 : decode cX3_judgeNumber 30 = .ok (.getfield 23, 3) := by decide +kernel
theorem dX3_judgeNumber_33 : decode cX3_judgeNumber 33 = .ok (.aload_n 0, 1) := by decide +kernel
theorem dX3_judgeNumber_34 : decode cX3_judgeNumber 34 = .ok (.getfield 19, 3) := by decide +kernel
theorem dX3_judgeNumber_37 : decode cX3_judgeNumber 37 = .ok (.iload_n 3, 1) := by decide +kernel
theorem dX3_judgeNumber_38 : decode cX3_judgeNumber 38 = .ok (.iload_n 2, 1) := by decide +kernel
theorem dX3_judgeNumber_39 : decode cX3_judgeNumber 39 = .ok (.invokevirtual 81, 3) := by decide +kernel
theorem dX3_judgeNumber_42 : decode cX3_judgeNumber 42 = .ok (.ifCond .eq 5, 3) := by decide +kernel
theorem dX3_judgeNumber_45 : decode cX3_judgeNumber 45 = .ok (.iconst 2, 1) := by decide +kernel
theorem dX3_judgeNumber_46 : decode cX3_judgeNumber 46 = .ok (.ireturn, 1) := by decide +kernel
theorem dX3_judgeNumber_47 : decode cX3_judgeNumber 47 = .ok (.iinc 3 1, 3) := by decide +kernel
theorem dX3_judgeNumber_50 : decode cX3_judgeNumber 50 = .ok (.goto (-38), 3) := by decide +kernel
theorem dX3_judgeNumber_53 : decode cX3_judgeNumber 53 = .ok (.iconst 5, 1) := by decide +kernel
theorem dX3_judgeNumber_54 : decode cX3_judgeNumber 54 = .ok (.ireturn, 1) := by decide +kernel
theorem dX3_isAlike_0 : decode cX3_isAlike 0 = .ok (.iconst 0, 1) := by decide +kernel
theorem dX3_isAlike_1 : decode cX3_isAlike 1 = .ok (.istore_n 3, 1) := by decide +kernel
theorem dX3_isAlike_2 : decode cX3_isAlike 2 = .ok (.iload_n 3, 1) := by decide +kernel
theorem dX3_isAlike_3 : decode cX3_isAlike 3 = .ok (.bipush 6, 2) := by decide +kernel
theorem dX3_isAlike_5 : decode cX3_isAlike 5 = .ok (.if_icmp .ge 35, 3) := by decide +kernel
theorem dX3_isAlike_8 : decode cX3_isAlike 8 = .ok (.aload_n 0, 1) := by decide +kernel
theorem dX3_isAlike_9 : decode cX3_isAlike 9 = .ok (.getfield 9, 3) := by decide +kernel
theorem dX3_isAlike_12 : decode cX3_isAlike 12 = .ok (.iload_n 3, 1) := by decide +kernel
theorem dX3_isAlike_13 : decode cX3_isAlike 13 = .ok (.invokevirtual 75, 3) := by decide +kernel
theorem dX3_isAlike_16 : decode cX3_isAlike 16 = .ok (.ifCond .eq 24, 3) := by decide +kernel
theorem dX3_isAlike_19 : decode cX3_isAlike 19 = .ok (.aload_n 1, 1) := by decide +kernel
theorem dX3_isAlike_20 : decode cX3_isAlike 20 = .ok (.aload_n 0, 1) := by decide +kernel
theorem dX3_isAlike_21 : decode cX3_isAlike 21 = .ok (.getfield 19, 3) := by decide +kernel
theorem dX3_isAlike_24 : decode cX3_isAlike 24 = .ok (.iload_n 3, 1) := by decide +kernel
theorem dX3_isAlike_25 : decode cX3_isAlike 25 = .ok (.iload_n 2, 1) := by decide +kernel
theorem dX3_isAlike_26 : decode cX3_isAlike 26 = .ok (.invokevirtual 81, 3) := by decide +kernel
theorem dX3_isAlike_29 : decode cX3_isAlike 29 = .ok (.ifCond .ne 5, 3) := by decide +kernel
theorem dX3_isAlike_32 : decode cX3_isAlike 32 = .ok (.iconst 0, 1) := by decide +kernel
theorem dX3_isAlike_33 : decode cX3_isAlike 33 = .ok (.ireturn, 1) := by decide +kernel
theorem dX3_isAlike_34 : decode cX3_isAlike 34 = .ok (.iinc 3 1, 3) := by decide +kernel
theorem dX3_isAlike_37 : decode cX3_isAlike 37 = .ok (.goto (-35), 3) := by decide +kernel
theorem dX3_isAlike_40 : decode cX3_isAlike 40 = .ok (.iconst 1, 1) := by decide +kernel
theorem dX3_isAlike_41 : decode cX3_isAlike 41 = .ok (.ireturn, 1) := by decide +kernel
theorem dX3_findsSlip_0 : decode cX3_findsSlip 0 = .ok (.iconst 0, 1) := by decide +kernel
theorem dX3_findsSlip_1 : decode cX3_findsSlip 1 = .ok (.istore_n 3, 1) := by decide +kernel
theorem dX3_findsSlip_2 : decode cX3_findsSlip 2 = .ok (.iload_n 3, 1) := by decide +kernel
theorem dX3_findsSlip_3 : decode cX3_findsSlip 3 = .ok (.aload_n 1, 1) := by decide +kernel
theorem dX3_findsSlip_4 : decode cX3_findsSlip 4 = .ok (.invokevirtual 84, 3) := by decide +kernel
theorem dX3_findsSlip_7 : decode cX3_findsSlip 7 = .ok (.if_icmp .ge 81, 3) := by decide +kernel
theorem dX3_findsSlip_10 : decode cX3_findsSlip 10 = .ok (.aload_n 1, 1) := by decide +kernel
theorem dX3_findsSlip_11 : decode cX3_findsSlip 11 = .ok (.iload_n 3, 1) := by decide +kernel
theorem dX3_findsSlip_12 : decode cX3_findsSlip 12 = .ok (.invokevirtual 90, 3) := by decide +kernel
theorem dX3_findsSlip_15 : decode cX3_findsSlip 15 = .ok (.ifCond .ne 7, 3) := by decide +kernel
theorem dX3_findsSlip_18 : decode cX3_findsSlip 18 = .ok (.iconst 0, 1) := by decide +kernel
theorem dX3_findsSlip_19 : decode cX3_findsSlip 19 = .ok (.goto 4, 3) := by decide +kernel
theorem dX3_findsSlip_22 : decode cX3_findsSlip 22 = .ok (.iconst 4, 1) := by decide +kernel
theorem dX3_findsSlip_23 : decode cX3_findsSlip 23 = .ok (.istore 4, 2) := by decide +kernel
theorem dX3_findsSlip_25 : decode cX3_findsSlip 25 = .ok (.iconst 0, 1) := by decide +kernel
theorem dX3_findsSlip_26 : decode cX3_findsSlip 26 = .ok (.istore 5, 2) := by decide +kernel
theorem dX3_findsSlip_28 : decode cX3_findsSlip 28 = .ok (.iload 5, 2) := by decide +kernel
theorem dX3_findsSlip_30 : decode cX3_findsSlip 30 = .ok (.iload 4, 2) := by decide +kernel
theorem dX3_findsSlip_32 : decode cX3_findsSlip 32 = .ok (.if_icmp .ge 50, 3) := by decide +kernel
theorem dX3_findsSlip_35 : decode cX3_findsSlip 35 = .ok (.aload_n 1, 1) := by decide +kernel
theorem dX3_findsSlip_36 : decode cX3_findsSlip 36 = .ok (.iload_n 3, 1) := by decide +kernel
theorem dX3_findsSlip_37 : decode cX3_findsSlip 37 = .ok (.iload 5, 2) := by decide +kernel
theorem dX3_findsSlip_39 : decode cX3_findsSlip 39 = .ok (.invokestatic 93, 3) := by decide +kernel
theorem dX3_findsSlip_42 : decode cX3_findsSlip 42 = .ok (.istore 6, 2) := by decide +kernel
theorem dX3_findsSlip_44 : decode cX3_findsSlip 44 = .ok (.iload 6, 2) := by decide +kernel
theorem dX3_findsSlip_46 : decode cX3_findsSlip 46 = .ok (.bipush (-2), 2) := by decide +kernel
theorem dX3_findsSlip_48 : decode cX3_findsSlip 48 = .ok (.if_icmp .eq 28, 3) := by decide +kernel
theorem dX3_findsSlip_51 : decode cX3_findsSlip 51 = .ok (.aload_n 0, 1) := by decide +kernel
theorem dX3_findsSlip_52 : decode cX3_findsSlip 52 = .ok (.aload_n 1, 1) := by decide +kernel
theorem dX3_findsSlip_53 : decode cX3_findsSlip 53 = .ok (.iload_n 3, 1) := by decide +kernel
theorem dX3_findsSlip_54 : decode cX3_findsSlip 54 = .ok (.iload 6, 2) := by decide +kernel
theorem dX3_findsSlip_56 : decode cX3_findsSlip 56 = .ok (.iload_n 2, 1) := by decide +kernel
theorem dX3_findsSlip_57 : decode cX3_findsSlip 57 = .ok (.invokevirtual 97, 3) := by decide +kernel
theorem dX3_findsSlip_60 : decode cX3_findsSlip 60 = .ok (.ifCond .eq 16, 3) := by decide +kernel
theorem dX3_findsSlip_63 : decode cX3_findsSlip 63 = .ok (.aload_n 0, 1) := by decide +kernel
theorem dX3_findsSlip_64 : decode cX3_findsSlip 64 = .ok (.iload_n 3, 1) := by decide +kernel
theorem dX3_findsSlip_65 : decode cX3_findsSlip 65 = .ok (.putfield 36, 3) := by decide +kernel
theorem dX3_findsSlip_68 : decode cX3_findsSlip 68 = .ok (.aload_n 0, 1) := by decide +kernel
theorem dX3_findsSlip_69 : decode cX3_findsSlip 69 = .ok (.iload 6, 2) := by decide +kernel
theorem dX3_findsSlip_71 : decode cX3_findsSlip 71 = .ok (.putfield 40, 3) := by decide +kernel
theorem dX3_findsSlip_74 : decode cX3_findsSlip 74 = .ok (.iconst 1, 1) := by decide +kernel
theorem dX3_findsSlip_75 : decode cX3_findsSlip 75 = .ok (.ireturn, 1) := by decide +kernel
theorem dX3_findsSlip_76 : decode cX3_findsSlip 76 = .ok (.iinc 5 1, 3) := by decide +kernel
theorem dX3_findsSlip_79 : decode cX3_findsSlip 79 = .ok (.goto (-51), 3) := by decide +kernel
theorem dX3_findsSlip_82 : decode cX3_findsSlip 82 = .ok (.iinc 3 1, 3) := by decide +kernel
theorem dX3_findsSlip_85 : decode cX3_findsSlip 85 = .ok (.goto (-83), 3) := by decide +kernel
theorem dX3_findsSlip_88 : decode cX3_findsSlip 88 = .ok (.iconst 0, 1) := by decide +kernel
theorem dX3_findsSlip_89 : decode cX3_findsSlip 89 = .ok (.ireturn, 1) := by decide +kernel
theorem dX3_isSoChanged_0 : decode cX3_isSoChanged 0 = .ok (.aload_n 0, 1) := by decide +kernel
theorem dX3_isSoChanged_1 : decode cX3_isSoChanged 1 = .ok (.getfield 32, 3) := by decide +kernel
theorem dX3_isSoChanged_4 : decode cX3_isSoChanged 4 = .ok (.iload_n 2, 1) := by decide +kernel
theorem dX3_isSoChanged_5 : decode cX3_isSoChanged 5 = .ok (.iload_n 3, 1) := by decide +kernel
theorem dX3_isSoChanged_6 : decode cX3_isSoChanged 6 = .ok (.invokevirtual 101, 3) := by decide +kernel
theorem dX3_isSoChanged_9 : decode cX3_isSoChanged 9 = .ok (.aload_n 0, 1) := by decide +kernel
theorem dX3_isSoChanged_10 : decode cX3_isSoChanged 10 = .ok (.getfield 26, 3) := by decide +kernel
theorem dX3_isSoChanged_13 : decode cX3_isSoChanged 13 = .ok (.aload_n 1, 1) := by decide +kernel
theorem dX3_isSoChanged_14 : decode cX3_isSoChanged 14 = .ok (.aload_n 0, 1) := by decide +kernel
theorem dX3_isSoChanged_15 : decode cX3_isSoChanged 15 = .ok (.getfield 32, 3) := by decide +kernel
theorem dX3_isSoChanged_18 : decode cX3_isSoChanged 18 = .ok (.invokevirtual 105, 3) := by decide +kernel
theorem dX3_isSoChanged_21 : decode cX3_isSoChanged 21 = .ok (.invokevirtual 109, 3) := by decide +kernel
theorem dX3_isSoChanged_24 : decode cX3_isSoChanged 24 = .ok (.istore 5, 2) := by decide +kernel
theorem dX3_isSoChanged_26 : decode cX3_isSoChanged 26 = .ok (.iconst 0, 1) := by decide +kernel
theorem dX3_isSoChanged_27 : decode cX3_isSoChanged 27 = .ok (.istore 6, 2) := by decide +kernel
theorem dX3_isSoChanged_29 : decode cX3_isSoChanged 29 = .ok (.iload 6, 2) := by decide +kernel
theorem dX3_isSoChanged_31 : decode cX3_isSoChanged 31 = .ok (.bipush 6, 2) := by decide +kernel
theorem dX3_isSoChanged_33 : decode cX3_isSoChanged 33 = .ok (.if_icmp .ge 103, 3) := by decide +kernel
theorem dX3_isSoChanged_36 : decode cX3_isSoChanged 36 = .ok (.aload_n 0, 1) := by decide +kernel
theorem dX3_isSoChanged_37 : decode cX3_isSoChanged 37 = .ok (.getfield 9, 3) := by decide +kernel
theorem dX3_isSoChanged_40 : decode cX3_isSoChanged 40 = .ok (.iload 6, 2) := by decide +kernel
theorem dX3_isSoChanged_42 : decode cX3_isSoChanged 42 = .ok (.invokevirtual 75, 3) := by decide +kernel
theorem dX3_isSoChanged_45 : decode cX3_isSoChanged 45 = .ok (.ifCond .eq 91, 3) := by decide +kernel
theorem dX3_isSoChanged_48 : decode cX3_isSoChanged 48 = .ok (.iconst 1, 1) := by decide +kernel
theorem dX3_isSoChanged_49 : decode cX3_isSoChanged 49 = .ok (.istore 7, 2) := by decide +kernel
theorem dX3_isSoChanged_51 : decode cX3_isSoChanged 51 = .ok (.lconst 0, 1) := by decide +kernel
theorem dX3_isSoChanged_52 : decode cX3_isSoChanged 52 = .ok (.lstore 8, 2) := by decide +kernel
theorem dX3_isSoChanged_54 : decode cX3_isSoChanged 54 = .ok (.iload 5, 2) := by decide +kernel
theorem dX3_isSoChanged_56 : decode cX3_isSoChanged 56 = .ok (.ifCond .eq 39, 3) := by decide +kernel
theorem dX3_isSoChanged_59 : decode cX3_isSoChanged 59 = .ok (.aload_n 0, 1) := by decide +kernel
theorem dX3_isSoChanged_60 : decode cX3_isSoChanged 60 = .ok (.getfield 15, 3) := by decide +kernel
theorem dX3_isSoChanged_63 : decode cX3_isSoChanged 63 = .ok (.aload_n 1, 1) := by decide +kernel
theorem dX3_isSoChanged_64 : decode cX3_isSoChanged 64 = .ok (.aload_n 0, 1) := by decide +kernel
theorem dX3_isSoChanged_65 : decode cX3_isSoChanged 65 = .ok (.getfield 32, 3) := by decide +kernel
theorem dX3_isSoChanged_68 : decode cX3_isSoChanged 68 = .ok (.aload_n 0, 1) := by decide +kernel
theorem dX3_isSoChanged_69 : decode cX3_isSoChanged 69 = .ok (.getfield 26, 3) := by decide +kernel
theorem dX3_isSoChanged_72 : decode cX3_isSoChanged 72 = .ok (.iload 6, 2) := by decide +kernel
theorem dX3_isSoChanged_74 : decode cX3_isSoChanged 74 = .ok (.invokevirtual 113, 3) := by decide +kernel
theorem dX3_isSoChanged_77 : decode cX3_isSoChanged 77 = .ok (.aload_n 0, 1) := by decide +kernel
theorem dX3_isSoChanged_78 : decode cX3_isSoChanged 78 = .ok (.getfield 15, 3) := by decide +kernel
theorem dX3_isSoChanged_81 : decode cX3_isSoChanged 81 = .ok (.invokevirtual 119, 3) := by decide +kernel
theorem dX3_isSoChanged_84 : decode cX3_isSoChanged 84 = .ok (.istore 7, 2) := by decide +kernel
theorem dX3_isSoChanged_86 : decode cX3_isSoChanged 86 = .ok (.aload_n 0, 1) := by decide +kernel
theorem dX3_isSoChanged_87 : decode cX3_isSoChanged 87 = .ok (.getfield 15, 3) := by decide +kernel
theorem dX3_isSoChanged_90 : decode cX3_isSoChanged 90 = .ok (.invokevirtual 122, 3) := by decide +kernel
theorem dX3_isSoChanged_93 : decode cX3_isSoChanged 93 = .ok (.lstore 8, 2) := by decide +kernel
theorem dX3_isSoChanged_95 : decode cX3_isSoChanged 95 = .ok (.iload 7, 2) := by decide +kernel
theorem dX3_isSoChanged_97 : decode cX3_isSoChanged 97 = .ok (.aload_n 0, 1) := by decide +kernel
theorem dX3_isSoChanged_98 : decode cX3_isSoChanged 98 = .ok (.getfield 19, 3) := by decide +kernel
theorem dX3_isSoChanged_101 : decode cX3_isSoChanged 101 = .ok (.iload 6, 2) := by decide +kernel
theorem dX3_isSoChanged_103 : decode cX3_isSoChanged 103 = .ok (.iload 4, 2) := by decide +kernel
theorem dX3_isSoChanged_105 : decode cX3_isSoChanged 105 = .ok (.invokevirtual 126, 3) := by decide +kernel
theorem dX3_isSoChanged_108 : decode cX3_isSoChanged 108 = .ok (.if_icmp .ne 20, 3) := by decide +kernel
theorem dX3_isSoChanged_111 : decode cX3_isSoChanged 111 = .ok (.lload 8, 2) := by decide +kernel
theorem dX3_isSoChanged_113 : decode cX3_isSoChanged 113 = .ok (.aload_n 0, 1) := by decide +kernel
theorem dX3_isSoChanged_114 : decode cX3_isSoChanged 114 = .ok (.getfield 19, 3) := by decide +kernel
theorem dX3_isSoChanged_117 : decode cX3_isSoChanged 117 = .ok (.iload 6, 2) := by decide +kernel
theorem dX3_isSoChanged_119 : decode cX3_isSoChanged 119 = .ok (.iload 4, 2) := by decide +kernel
theorem dX3_isSoChanged_121 : decode cX3_isSoChanged 121 = .ok (.invokevirtual 130, 3) := by decide +kernel
theorem dX3_isSoChanged_124 : decode cX3_isSoChanged 124 = .ok (.lcmp, 1) := by decide +kernel
theorem dX3_isSoChanged_125 : decode cX3_isSoChanged 125 = .ok (.ifCond .eq 5, 3) := by decide +kernel
theorem dX3_isSoChanged_128 : decode cX3_isSoChanged 128 = .ok (.iconst 0, 1) := by decide +kernel
theorem dX3_isSoChanged_129 : decode cX3_isSoChanged 129 = .ok (.ireturn, 1) := by decide +kernel
theorem dX3_isSoChanged_130 : decode cX3_isSoChanged 130 = .ok (.iinc 6 1, 3) := by decide +kernel
theorem dX3_isSoChanged_133 : decode cX3_isSoChanged 133 = .ok (.goto (-104), 3) := by decide +kernel
theorem dX3_isSoChanged_136 : decode cX3_isSoChanged 136 = .ok (.iconst 1, 1) := by decide +kernel
theorem dX3_isSoChanged_137 : decode cX3_isSoChanged 137 = .ok (.ireturn, 1) := by decide +kernel
theorem dX3_option_0 : decode cX3_option 0 = .ok (.aload_n 0, 1) := by decide +kernel
theorem dX3_option_1 : decode cX3_option 1 = .ok (.iload_n 1, 1) := by decide +kernel
theorem dX3_option_2 : decode cX3_option 2 = .ok (.invokevirtual 90, 3) := by decide +kernel
theorem dX3_option_5 : decode cX3_option 5 = .ok (.istore_n 3, 1) := by decide +kernel
theorem dX3_option_6 : decode cX3_option 6 = .ok (.aload_n 0, 1) := by decide +kernel
theorem dX3_option_7 : decode cX3_option 7 = .ok (.iload_n 1, 1) := by decide +kernel
theorem dX3_option_8 : decode cX3_option 8 = .ok (.invokevirtual 134, 3) := by decide +kernel
theorem dX3_option_11 : decode cX3_option 11 = .ok (.istore 4, 2) := by decide +kernel
theorem dX3_option_13 : decode cX3_option 13 = .ok (.iload_n 3, 1) := by decide +kernel
theorem dX3_option_14 : decode cX3_option 14 = .ok (.invokestatic 137, 3) := by decide +kernel
theorem dX3_option_17 : decode cX3_option 17 = .ok (.ifCond .eq 35, 3) := by decide +kernel
theorem dX3_option_20 : decode cX3_option 20 = .ok (.iload_n 2, 1) := by decide +kernel
theorem dX3_option_21 : decode cX3_option 21 = .ok (.ifCond .lt 28, 3) := by decide +kernel
theorem dX3_option_24 : decode cX3_option 24 = .ok (.iload_n 2, 1) := by decide +kernel
theorem dX3_option_25 : decode cX3_option 25 = .ok (.getstatic 140, 3) := by decide +kernel
theorem dX3_option_28 : decode cX3_option 28 = .ok (.arraylength, 1) := by decide +kernel
theorem dX3_option_29 : decode cX3_option 29 = .ok (.if_icmp .ge 20, 3) := by decide +kernel
theorem dX3_option_32 : decode cX3_option 32 = .ok (.getstatic 140, 3) := by decide +kernel
theorem dX3_option_35 : decode cX3_option 35 = .ok (.iload_n 2, 1) := by decide +kernel
theorem dX3_option_36 : decode cX3_option 36 = .ok (.caload, 1) := by decide +kernel
theorem dX3_option_37 : decode cX3_option 37 = .ok (.iload_n 3, 1) := by decide +kernel
theorem dX3_option_38 : decode cX3_option 38 = .ok (.if_icmp .eq 11, 3) := by decide +kernel
theorem dX3_option_41 : decode cX3_option 41 = .ok (.getstatic 140, 3) := by decide +kernel
theorem dX3_option_44 : decode cX3_option 44 = .ok (.iload_n 2, 1) := by decide +kernel
theorem dX3_option_45 : decode cX3_option 45 = .ok (.caload, 1) := by decide +kernel
theorem dX3_option_46 : decode cX3_option 46 = .ok (.goto 5, 3) := by decide +kernel
theorem dX3_option_49 : decode cX3_option 49 = .ok (.bipush (-2), 2) := by decide +kernel
theorem dX3_option_51 : decode cX3_option 51 = .ok (.ireturn, 1) := by decide +kernel
theorem dX3_option_52 : decode cX3_option 52 = .ok (.iload_n 3, 1) := by decide +kernel
theorem dX3_option_53 : decode cX3_option 53 = .ok (.iconst 1, 1) := by decide +kernel
theorem dX3_option_54 : decode cX3_option 54 = .ok (.if_icmp .ne 29, 3) := by decide +kernel
theorem dX3_option_57 : decode cX3_option 57 = .ok (.iload_n 2, 1) := by decide +kernel
theorem dX3_option_58 : decode cX3_option 58 = .ok (.ifCond .ne 10, 3) := by decide +kernel
theorem dX3_option_61 : decode cX3_option 61 = .ok (.iload 4, 2) := by decide +kernel
theorem dX3_option_63 : decode cX3_option 63 = .ok (.iconst 1, 1) := by decide +kernel
theorem dX3_option_64 : decode cX3_option 64 = .ok (.iadd, 1) := by decide +kernel
theorem dX3_option_65 : decode cX3_option 65 = .ok (.goto 17, 3) := by decide +kernel
theorem dX3_option_68 : decode cX3_option 68 = .ok (.iload_n 2, 1) := by decide +kernel
theorem dX3_option_69 : decode cX3_option 69 = .ok (.iconst 1, 1) := by decide +kernel
theorem dX3_option_70 : decode cX3_option 70 = .ok (.if_icmp .ne 10, 3) := by decide +kernel
theorem dX3_option_73 : decode cX3_option 73 = .ok (.iload 4, 2) := by decide +kernel
theorem dX3_option_75 : decode cX3_option 75 = .ok (.iconst 1, 1) := by decide +kernel
theorem dX3_option_76 : decode cX3_option 76 = .ok (.isub, 1) := by decide +kernel
theorem dX3_option_77 : decode cX3_option 77 = .ok (.goto 5, 3) := by decide +kernel
theorem dX3_option_80 : decode cX3_option 80 = .ok (.bipush (-2), 2) := by decide +kernel
theorem dX3_option_82 : decode cX3_option 82 = .ok (.ireturn, 1) := by decide +kernel
theorem dX3_option_83 : decode cX3_option 83 = .ok (.iload_n 3, 1) := by decide +kernel
theorem dX3_option_84 : decode cX3_option 84 = .ok (.iconst 2, 1) := by decide +kernel
theorem dX3_option_85 : decode cX3_option 85 = .ok (.if_icmp .eq 8, 3) := by decide +kernel
theorem dX3_option_88 : decode cX3_option 88 = .ok (.iload_n 3, 1) := by decide +kernel
theorem dX3_option_89 : decode cX3_option 89 = .ok (.iconst 3, 1) := by decide +kernel
theorem dX3_option_90 : decode cX3_option 90 = .ok (.if_icmp .ne 12, 3) := by decide +kernel
theorem dX3_option_93 : decode cX3_option 93 = .ok (.iload 4, 2) := by decide +kernel
theorem dX3_option_95 : decode cX3_option 95 = .ok (.iload_n 2, 1) := by decide +kernel
theorem dX3_option_96 : decode cX3_option 96 = .ok (.invokestatic 144, 3) := by decide +kernel
theorem dX3_option_99 : decode cX3_option 99 = .ok (.goto 5, 3) := by decide +kernel
theorem dX3_option_102 : decode cX3_option 102 = .ok (.bipush (-2), 2) := by decide +kernel
theorem dX3_option_104 : decode cX3_option 104 = .ok (.ireturn, 1) := by decide +kernel
theorem dX3_neighbour_0 : decode cX3_neighbour 0 = .ok (.iload_n 0, 1) := by decide +kernel
theorem dX3_neighbour_1 : decode cX3_neighbour 1 = .ok (.bipush 8, 2) := by decide +kernel
theorem dX3_neighbour_3 : decode cX3_neighbour 3 = .ok (.idiv, 1) := by decide +kernel
theorem dX3_neighbour_4 : decode cX3_neighbour 4 = .ok (.istore_n 2, 1) := by decide +kernel
theorem dX3_neighbour_5 : decode cX3_neighbour 5 = .ok (.iload_n 0, 1) := by decide +kernel
theorem dX3_neighbour_6 : decode cX3_neighbour 6 = .ok (.bipush 8, 2) := by decide +kernel
theorem dX3_neighbour_8 : decode cX3_neighbour 8 = .ok (.irem, 1) := by decide +kernel
theorem dX3_neighbour_9 : decode cX3_neighbour 9 = .ok (.istore_n 3, 1) := by decide +kernel
theorem dX3_neighbour_10 : decode cX3_neighbour 10 = .ok (.iload_n 1, 1) := by decide +kernel
theorem dX3_neighbour_11 : decode cX3_neighbour 11 = .ok (.tableswitch 87 0 3 #[29, 43, 59, 72], 29) := by decide +kernel
theorem dX3_neighbour_40 : decode cX3_neighbour 40 = .ok (.iload_n 2, 1) := by decide +kernel
theorem dX3_neighbour_41 : decode cX3_neighbour 41 = .ok (.ifCond .le 10, 3) := by decide +kernel
theorem dX3_neighbour_44 : decode cX3_neighbour 44 = .ok (.iload_n 0, 1) := by decide +kernel
theorem dX3_neighbour_45 : decode cX3_neighbour 45 = .ok (.bipush 8, 2) := by decide +kernel
theorem dX3_neighbour_47 : decode cX3_neighbour 47 = .ok (.isub, 1) := by decide +kernel
theorem dX3_neighbour_48 : decode cX3_neighbour 48 = .ok (.goto 5, 3) := by decide +kernel
theorem dX3_neighbour_51 : decode cX3_neighbour 51 = .ok (.bipush (-2), 2) := by decide +kernel
theorem dX3_neighbour_53 : decode cX3_neighbour 53 = .ok (.ireturn, 1) := by decide +kernel
theorem dX3_neighbour_54 : decode cX3_neighbour 54 = .ok (.iload_n 2, 1) := by decide +kernel
theorem dX3_neighbour_55 : decode cX3_neighbour 55 = .ok (.bipush 7, 2) := by decide +kernel
theorem dX3_neighbour_57 : decode cX3_neighbour 57 = .ok (.if_icmp .ge 10, 3) := by decide +kernel
theorem dX3_neighbour_60 : decode cX3_neighbour 60 = .ok (.iload_n 0, 1) := by decide +kernel
theorem dX3_neighbour_61 : decode cX3_neighbour 61 = .ok (.bipush 8, 2) := by decide +kernel
theorem dX3_neighbour_63 : decode cX3_neighbour 63 = .ok (.iadd, 1) := by decide +kernel
theorem dX3_neighbour_64 : decode cX3_neighbour 64 = .ok (.goto 5, 3) := by decide +kernel
theorem dX3_neighbour_67 : decode cX3_neighbour 67 = .ok (.bipush (-2), 2) := by decide +kernel
theorem dX3_neighbour_69 : decode cX3_neighbour 69 = .ok (.ireturn, 1) := by decide +kernel
theorem dX3_neighbour_70 : decode cX3_neighbour 70 = .ok (.iload_n 3, 1) := by decide +kernel
theorem dX3_neighbour_71 : decode cX3_neighbour 71 = .ok (.ifCond .le 9, 3) := by decide +kernel
theorem dX3_neighbour_74 : decode cX3_neighbour 74 = .ok (.iload_n 0, 1) := by decide +kernel
theorem dX3_neighbour_75 : decode cX3_neighbour 75 = .ok (.iconst 1, 1) := by decide +kernel
theorem dX3_neighbour_76 : decode cX3_neighbour 76 = .ok (.isub, 1) := by decide +kernel
theorem dX3_neighbour_77 : decode cX3_neighbour 77 = .ok (.goto 5, 3) := by decide +kernel
theorem dX3_neighbour_80 : decode cX3_neighbour 80 = .ok (.bipush (-2), 2) := by decide +kernel
theorem dX3_neighbour_82 : decode cX3_neighbour 82 = .ok (.ireturn, 1) := by decide +kernel
theorem dX3_neighbour_83 : decode cX3_neighbour 83 = .ok (.iload_n 3, 1) := by decide +kernel
theorem dX3_neighbour_84 : decode cX3_neighbour 84 = .ok (.bipush 7, 2) := by decide +kernel
theorem dX3_neighbour_86 : decode cX3_neighbour 86 = .ok (.if_icmp .ge 9, 3) := by decide +kernel
theorem dX3_neighbour_89 : decode cX3_neighbour 89 = .ok (.iload_n 0, 1) := by decide +kernel
theorem dX3_neighbour_90 : decode cX3_neighbour 90 = .ok (.iconst 1, 1) := by decide +kernel
theorem dX3_neighbour_91 : decode cX3_neighbour 91 = .ok (.iadd, 1) := by decide +kernel
theorem dX3_neighbour_92 : decode cX3_neighbour 92 = .ok (.goto 5, 3) := by decide +kernel
theorem dX3_neighbour_95 : decode cX3_neighbour 95 = .ok (.bipush (-2), 2) := by decide +kernel
theorem dX3_neighbour_97 : decode cX3_neighbour 97 = .ok (.ireturn, 1) := by decide +kernel
theorem dX3_neighbour_98 : decode cX3_neighbour 98 = .ok (.bipush (-2), 2) := by decide +kernel
theorem dX3_neighbour_100 : decode cX3_neighbour 100 = .ok (.ireturn, 1) := by decide +kernel
theorem dX4_init_0 : decode cX4_init 0 = .ok (.aload_n 0, 1) := by decide +kernel
theorem dX4_init_1 : decode cX4_init 1 = .ok (.invokespecial 3, 3) := by decide +kernel
theorem dX4_init_4 : decode cX4_init 4 = .ok (.aload_n 0, 1) := by decide +kernel
theorem dX4_init_5 : decode cX4_init 5 = .ok (.sipush 384, 3) := by decide +kernel
theorem dX4_init_8 : decode cX4_init 8 = .ok (.newarray .int, 2) := by decide +kernel
theorem dX4_init_10 : decode cX4_init 10 = .ok (.putfield 9, 3) := by decide +kernel
theorem dX4_init_13 : decode cX4_init 13 = .ok (.aload_n 0, 1) := by decide +kernel
theorem dX4_init_14 : decode cX4_init 14 = .ok (.bipush 64, 2) := by decide +kernel
theorem dX4_init_16 : decode cX4_init 16 = .ok (.newarray .int, 2) := by decide +kernel
theorem dX4_init_18 : decode cX4_init 18 = .ok (.putfield 15, 3) := by decide +kernel
theorem dX4_init_21 : decode cX4_init 21 = .ok (.return_, 1) := by decide +kernel
theorem dX4_inputs_0 : decode cX4_inputs 0 = .ok (.aload_n 0, 1) := by decide +kernel
theorem dX4_inputs_1 : decode cX4_inputs 1 = .ok (.getfield 18, 3) := by decide +kernel
theorem dX4_inputs_4 : decode cX4_inputs 4 = .ok (.lreturn, 1) := by decide +kernel
theorem dX4_wanted_0 : decode cX4_wanted 0 = .ok (.aload_n 0, 1) := by decide +kernel
theorem dX4_wanted_1 : decode cX4_wanted 1 = .ok (.getfield 22, 3) := by decide +kernel
theorem dX4_wanted_4 : decode cX4_wanted 4 = .ok (.lreturn, 1) := by decide +kernel
theorem dX4_isInput_0 : decode cX4_isInput 0 = .ok (.aload_n 0, 1) := by decide +kernel
theorem dX4_isInput_1 : decode cX4_isInput 1 = .ok (.getfield 18, 3) := by decide +kernel
theorem dX4_isInput_4 : decode cX4_isInput 4 = .ok (.iload_n 1, 1) := by decide +kernel
theorem dX4_isInput_5 : decode cX4_isInput 5 = .ok (.invokestatic 25, 3) := by decide +kernel
theorem dX4_isInput_8 : decode cX4_isInput 8 = .ok (.land, 1) := by decide +kernel
theorem dX4_isInput_9 : decode cX4_isInput 9 = .ok (.lconst 0, 1) := by decide +kernel
theorem dX4_isInput_10 : decode cX4_isInput 10 = .ok (.lcmp, 1) := by decide +kernel
theorem dX4_isInput_11 : decode cX4_isInput 11 = .ok (.ifCond .eq 7, 3) := by decide +kernel
theorem dX4_isInput_14 : decode cX4_isInput 14 = .ok (.iconst 1, 1) := by decide +kernel
theorem dX4_isInput_15 : decode cX4_isInput 15 = .ok (.goto 4, 3) := by decide +kernel
theorem dX4_isInput_18 : decode cX4_isInput 18 = .ok (.iconst 0, 1) := by decide +kernel
theorem dX4_isInput_19 : decode cX4_isInput 19 = .ok (.ireturn, 1) := by decide +kernel
theorem dX4_isWanted_0 : decode cX4_isWanted 0 = .ok (.aload_n 0, 1) := by decide +kernel
theorem dX4_isWanted_1 : decode cX4_isWanted 1 = .ok (.getfield 22, 3) := by decide +kernel
theorem dX4_isWanted_4 : decode cX4_isWanted 4 = .ok (.iload_n 1, 1) := by decide +kernel
theorem dX4_isWanted_5 : decode cX4_isWanted 5 = .ok (.invokestatic 25, 3) := by decide +kernel
theorem dX4_isWanted_8 : decode cX4_isWanted 8 = .ok (.land, 1) := by decide +kernel
theorem dX4_isWanted_9 : decode cX4_isWanted 9 = .ok (.lconst 0, 1) := by decide +kernel
theorem dX4_isWanted_10 : decode cX4_isWanted 10 = .ok (.lcmp, 1) := by decide +kernel
theorem dX4_isWanted_11 : decode cX4_isWanted 11 = .ok (.ifCond .eq 7, 3) := by decide +kernel
theorem dX4_isWanted_14 : decode cX4_isWanted 14 = .ok (.iconst 1, 1) := by decide +kernel
theorem dX4_isWanted_15 : decode cX4_isWanted 15 = .ok (.goto 4, 3) := by decide +kernel
theorem dX4_isWanted_18 : decode cX4_isWanted 18 = .ok (.iconst 0, 1) := by decide +kernel
theorem dX4_isWanted_19 : decode cX4_isWanted 19 = .ok (.ireturn, 1) := by decide +kernel
theorem dX4_isWorld_0 : decode cX4_isWorld 0 = .ok (.iload_n 1, 1) := by decide +kernel
theorem dX4_isWorld_1 : decode cX4_isWorld 1 = .ok (.ifCond .lt 15, 3) := by decide +kernel
theorem dX4_isWorld_4 : decode cX4_isWorld 4 = .ok (.iload_n 1, 1) := by decide +kernel
theorem dX4_isWorld_5 : decode cX4_isWorld 5 = .ok (.aload_n 0, 1) := by decide +kernel
theorem dX4_isWorld_6 : decode cX4_isWorld 6 = .ok (.getfield 29, 3) := by decide +kernel
theorem dX4_isWorld_9 : decode cX4_isWorld 9 = .ok (.if_icmp .ge 7, 3) := by decide +kernel
theorem dX4_isWorld_12 : decode cX4_isWorld 12 = .ok (.iconst 1, 1) := by decide +kernel
theorem dX4_isWorld_13 : decode cX4_isWorld 13 = .ok (.goto 4, 3) := by decide +kernel
theorem dX4_isWorld_16 : decode cX4_isWorld 16 = .ok (.iconst 0, 1) := by decide +kernel
theorem dX4_isWorld_17 : decode cX4_isWorld 17 = .ok (.ireturn, 1) := by decide +kernel
theorem dX4_countInputs_0 : decode cX4_countInputs 0 = .ok (.aload_n 0, 1) := by decide +kernel
theorem dX4_countInputs_1 : decode cX4_countInputs 1 = .ok (.getfield 18, 3) := by decide +kernel
theorem dX4_countInputs_4 : decode cX4_countInputs 4 = .ok (.invokestatic 33, 3) := by decide +kernel
theorem dX4_countInputs_7 : decode cX4_countInputs 7 = .ok (.ireturn, 1) := by decide +kernel
theorem dX4_countWanted_0 : decode cX4_countWanted 0 = .ok (.aload_n 0, 1) := by decide +kernel
theorem dX4_countWanted_1 : decode cX4_countWanted 1 = .ok (.getfield 22, 3) := by decide +kernel
theorem dX4_countWanted_4 : decode cX4_countWanted 4 = .ok (.invokestatic 33, 3) := by decide +kernel
theorem dX4_countWanted_7 : decode cX4_countWanted 7 = .ok (.ireturn, 1) := by decide +kernel
theorem dX4_countWorlds_0 : decode cX4_countWorlds 0 = .ok (.aload_n 0, 1) := by decide +kernel
theorem dX4_countWorlds_1 : decode cX4_countWorlds 1 = .ok (.getfield 29, 3) := by decide +kernel
theorem dX4_countWorlds_4 : decode cX4_countWorlds 4 = .ok (.ireturn, 1) := by decide +kernel
theorem dX4_worth_0 : decode cX4_worth 0 = .ok (.iload_n 1, 1) := by decide +kernel
theorem dX4_worth_1 : decode cX4_worth 1 = .ok (.invokestatic 39, 3) := by decide +kernel
theorem dX4_worth_4 : decode cX4_worth 4 = .ok (.ifCond .eq 12, 3) := by decide +kernel
theorem dX4_worth_7 : decode cX4_worth 7 = .ok (.aload_n 0, 1) := by decide +kernel
theorem dX4_worth_8 : decode cX4_worth 8 = .ok (.getfield 15, 3) := by decide +kernel
theorem dX4_worth_11 : decode cX4_worth 11 = .ok (.iload_n 1, 1) := by decide +kernel
theorem dX4_worth_12 : decode cX4_worth 12 = .ok (.iaload, 1) := by decide +kernel
theorem dX4_worth_13 : decode cX4_worth 13 = .ok (.goto 4, 3) := by decide +kernel
theorem dX4_worth_16 : decode cX4_worth 16 = .ok (.iconst 0, 1) := by decide +kernel
theorem dX4_worth_17 : decode cX4_worth 17 = .ok (.ireturn, 1) := by decide +kernel
theorem dX4_worthOfAll_0 : decode cX4_worthOfAll 0 = .ok (.iconst 0, 1) := by decide +kernel
theorem dX4_worthOfAll_1 : decode cX4_worthOfAll 1 = .ok (.istore_n 1, 1) := by decide +kernel
theorem dX4_worthOfAll_2 : decode cX4_worthOfAll 2 = .ok (.iconst 0, 1) := by decide +kernel
theorem dX4_worthOfAll_3 : decode cX4_worthOfAll 3 = .ok (.istore_n 2, 1) := by decide +kernel
theorem dX4_worthOfAll_4 : decode cX4_worthOfAll 4 = .ok (.iload_n 2, 1) := by decide +kernel
theorem dX4_worthOfAll_5 : decode cX4_worthOfAll 5 = .ok (.bipush 64, 2) := by decide +kernel
theorem dX4_worthOfAll_7 : decode cX4_worthOfAll 7 = .ok (.if_icmp .ge 17, 3) := by decide +kernel
theorem dX4_worthOfAll_10 : decode cX4_worthOfAll 10 = .ok (.iload_n 1, 1) := by decide +kernel
theorem dX4_worthOfAll_11 : decode cX4_worthOfAll 11 = .ok (.aload_n 0, 1) := by decide +kernel
theorem dX4_worthOfAll_12 : decode cX4_worthOfAll 12 = .ok (.iload_n 2, 1) := by decide +kernel
theorem dX4_worthOfAll_13 : decode cX4_worthOfAll 13 = .ok (.invokevirtual 43, 3) := by decide +kernel
theorem dX4_worthOfAll_16 : decode cX4_worthOfAll 16 = .ok (.iadd, 1) := by decide +kernel
theorem dX4_worthOfAll_17 : decode cX4_worthOfAll 17 = .ok (.istore_n 1, 1) := by decide +kernel
theorem dX4_worthOfAll_18 : decode cX4_worthOfAll 18 = .ok (.iinc 2 1, 3) := by decide +kernel
theorem dX4_worthOfAll_21 : decode cX4_worthOfAll 21 = .ok (.goto (-17), 3) := by decide +kernel
theorem dX4_worthOfAll_24 : decode cX4_worthOfAll 24 = .ok (.iload_n 1, 1) := by decide +kernel
theorem dX4_worthOfAll_25 : decode cX4_worthOfAll 25 = .ok (.ireturn, 1) := by decide +kernel
theorem dX4_given_0 : decode cX4_given 0 = .ok (.aload_n 0, 1) := by decide +kernel
theorem dX4_given_1 : decode cX4_given 1 = .ok (.iload_n 1, 1) := by decide +kernel
theorem dX4_given_2 : decode cX4_given 2 = .ok (.invokevirtual 47, 3) := by decide +kernel
theorem dX4_given_5 : decode cX4_given 5 = .ok (.ifCond .eq 30, 3) := by decide +kernel
theorem dX4_given_8 : decode cX4_given 8 = .ok (.iload_n 1, 1) := by decide +kernel
theorem dX4_given_9 : decode cX4_given 9 = .ok (.bipush 6, 2) := by decide +kernel
theorem dX4_given_11 : decode cX4_given 11 = .ok (.if_icmp .ge 24, 3) := by decide +kernel
theorem dX4_given_14 : decode cX4_given 14 = .ok (.iload_n 2, 1) := by decide +kernel
theorem dX4_given_15 : decode cX4_given 15 = .ok (.invokestatic 39, 3) := by decide +kernel
theorem dX4_given_18 : decode cX4_given 18 = .ok (.ifCond .eq 17, 3) := by decide +kernel
theorem dX4_given_21 : decode cX4_given 21 = .ok (.aload_n 0, 1) := by decide +kernel
theorem dX4_given_22 : decode cX4_given 22 = .ok (.getfield 9, 3) := by decide +kernel
theorem dX4_given_25 : decode cX4_given 25 = .ok (.iload_n 1, 1) := by decide +kernel
theorem dX4_given_26 : decode cX4_given 26 = .ok (.bipush 64, 2) := by decide +kernel
theorem dX4_given_28 : decode cX4_given 28 = .ok (.imul, 1) := by decide +kernel
theorem dX4_given_29 : decode cX4_given 29 = .ok (.iload_n 2, 1) := by decide +kernel
theorem dX4_given_30 : decode cX4_given 30 = .ok (.iadd, 1) := by decide +kernel
theorem dX4_given_31 : decode cX4_given 31 = .ok (.iaload, 1) := by decide +kernel
theorem dX4_given_32 : decode cX4_given 32 = .ok (.goto 4, 3) := by decide +kernel
theorem dX4_given_35 : decode cX4_given 35 = .ok (.iconst 0, 1) := by decide +kernel
theorem dX4_given_36 : decode cX4_given 36 = .ok (.ireturn, 1) := by decide +kernel
theorem dX4_addInput_0 : decode cX4_addInput 0 = .ok (.aload_n 0, 1) := by decide +kernel
theorem dX4_addInput_1 : decode cX4_addInput 1 = .ok (.dup, 1) := by decide +kernel
theorem dX4_addInput_2 : decode cX4_addInput 2 = .ok (.getfield 18, 3) := by decide +kernel
theorem dX4_addInput_5 : decode cX4_addInput 5 = .ok (.iload_n 1, 1) := by decide +kernel
theorem dX4_addInput_6 : decode cX4_addInput 6 = .ok (.invokestatic 25, 3) := by decide +kernel
theorem dX4_addInput_9 : decode cX4_addInput 9 = .ok (.lor, 1) := by decide +kernel
theorem dX4_addInput_10 : decode cX4_addInput 10 = .ok (.putfield 18, 3) := by decide +kernel
theorem dX4_addInput_13 : decode cX4_addInput 13 = .ok (.return_, 1) := by decide +kernel
theorem dX4_want_0 : decode cX4_want 0 = .ok (.iload_n 1, 1) := by decide +kernel
theorem dX4_want_1 : decode cX4_want 1 = .ok (.invokestatic 39, 3) := by decide +kernel
theorem dX4_want_4 : decode cX4_want 4 = .ok (.ifCond .eq 23, 3) := by decide +kernel
theorem dX4_want_7 : decode cX4_want 7 = .ok (.aload_n 0, 1) := by decide +kernel
theorem dX4_want_8 : decode cX4_want 8 = .ok (.dup, 1) := by decide +kernel
theorem dX4_want_9 : decode cX4_want 9 = .ok (.getfield 22, 3) := by decide +kernel
theorem dX4_want_12 : decode cX4_want 12 = .ok (.iload_n 1, 1) := by decide +kernel
theorem dX4_want_13 : decode cX4_want 13 = .ok (.invokestatic 25, 3) := by decide +kernel
theorem dX4_want_16 : decode cX4_want 16 = .ok (.lor, 1) := by decide +kernel
theorem dX4_want_17 : decode cX4_want 17 = .ok (.putfield 22, 3) := by decide +kernel
theorem dX4_want_20 : decode cX4_want 20 = .ok (.aload_n 0, 1) := by decide +kernel
theorem dX4_want_21 : decode cX4_want 21 = .ok (.getfield 15, 3) := by decide +kernel
theorem dX4_want_24 : decode cX4_want 24 = .ok (.iload_n 1, 1) := by decide +kernel
theorem dX4_want_25 : decode cX4_want 25 = .ok (.iload_n 2, 1) := by decide +kernel
theorem dX4_want_26 : decode cX4_want 26 = .ok (.iastore, 1) := by decide +kernel
theorem dX4_want_27 : decode cX4_want 27 = .ok (.return_, 1) := by decide +kernel
theorem dX4_addWorld_0 : decode cX4_addWorld 0 = .ok (.aload_n 0, 1) := by decide +kernel
theorem dX4_addWorld_1 : decode cX4_addWorld 1 = .ok (.dup, 1) := by decide +kernel
theorem dX4_addWorld_2 : decode cX4_addWorld 2 = .ok (.getfield 29, 3) := by decide +kernel
theorem dX4_addWorld_5 : decode cX4_addWorld 5 = .ok (.iconst 1, 1) := by decide +kernel
theorem dX4_addWorld_6 : decode cX4_addWorld 6 = .ok (.iadd, 1) := by decide +kernel
theorem dX4_addWorld_7 : decode cX4_addWorld 7 = .ok (.putfield 29, 3) := by decide +kernel
theorem dX4_addWorld_10 : decode cX4_addWorld 10 = .ok (.aload_n 0, 1) := by decide +kernel
theorem dX4_addWorld_11 : decode cX4_addWorld 11 = .ok (.getfield 29, 3) := by decide +kernel
theorem dX4_addWorld_14 : decode cX4_addWorld 14 = .ok (.iconst 1, 1) := by decide +kernel
theorem dX4_addWorld_15 : decode cX4_addWorld 15 = .ok (.isub, 1) := by decide +kernel
theorem dX4_addWorld_16 : decode cX4_addWorld 16 = .ok (.ireturn, 1) := by decide +kernel
theorem dX4_put_0 : decode cX4_put 0 = .ok (.aload_n 0, 1) := by decide +kernel
theorem dX4_put_1 : decode cX4_put 1 = .ok (.iload_n 1, 1) := by decide +kernel
theorem dX4_put_2 : decode cX4_put 2 = .ok (.invokevirtual 47, 3) := by decide +kernel
theorem dX4_put_5 : decode cX4_put 5 = .ok (.ifCond .eq 28, 3) := by decide +kernel
theorem dX4_put_8 : decode cX4_put 8 = .ok (.iload_n 1, 1) := by decide +kernel
theorem dX4_put_9 : decode cX4_put 9 = .ok (.bipush 6, 2) := by decide +kernel
theorem dX4_put_11 : decode cX4_put 11 = .ok (.if_icmp .ge 22, 3) := by decide +kernel
theorem dX4_put_14 : decode cX4_put 14 = .ok (.iload_n 2, 1) := by decide +kernel
theorem dX4_put_15 : decode cX4_put 15 = .ok (.invokestatic 39, 3) := by decide +kernel
theorem dX4_put_18 : decode cX4_put 18 = .ok (.ifCond .eq 15, 3) := by decide +kernel
theorem dX4_put_21 : decode cX4_put 21 = .ok (.aload_n 0, 1) := by decide +kernel
theorem dX4_put_22 : decode cX4_put 22 = .ok (.getfield 9, 3) := by decide +kernel
theorem dX4_put_25 : decode cX4_put 25 = .ok (.iload_n 1, 1) := by decide +kernel
theorem dX4_put_26 : decode cX4_put 26 = .ok (.bipush 64, 2) := by decide +kernel
theorem dX4_put_28 : decode cX4_put 28 = .ok (.imul, 1) := by decide +kernel
theorem dX4_put_29 : decode cX4_put 29 = .ok (.iload_n 2, 1) := by decide +kernel
theorem dX4_put_30 : decode cX4_put 30 = .ok (.iadd, 1) := by decide +kernel
theorem dX4_put_31 : decode cX4_put 31 = .ok (.iload_n 3, 1) := by decide +kernel
theorem dX4_put_32 : decode cX4_put 32 = .ok (.iastore, 1) := by decide +kernel
theorem dX4_put_33 : decode cX4_put 33 = .ok (.return_, 1) := by decide +kernel
theorem dX5_init_0 : decode cX5_init 0 = .ok (.aload_n 0, 1) := by decide +kernel
theorem dX5_init_1 : decode cX5_init 1 = .ok (.invokespecial 3, 3) := by decide +kernel
theorem dX5_init_4 : decode cX5_init 4 = .ok (.aload_n 0, 1) := by decide +kernel
theorem dX5_init_5 : decode cX5_init 5 = .ok (.bipush 40, 2) := by decide +kernel
theorem dX5_init_7 : decode cX5_init 7 = .ok (.newarray .long, 2) := by decide +kernel
theorem dX5_init_9 : decode cX5_init 9 = .ok (.putfield 9, 3) := by decide +kernel
theorem dX5_init_12 : decode cX5_init 12 = .ok (.return_, 1) := by decide +kernel
theorem dX5_errorMet_0 : decode cX5_errorMet 0 = .ok (.aload_n 0, 1) := by decide +kernel
theorem dX5_errorMet_1 : decode cX5_errorMet 1 = .ok (.getfield 15, 3) := by decide +kernel
theorem dX5_errorMet_4 : decode cX5_errorMet 4 = .ok (.ireturn, 1) := by decide +kernel
theorem dX5_result_0 : decode cX5_result 0 = .ok (.aload_n 0, 1) := by decide +kernel
theorem dX5_result_1 : decode cX5_result 1 = .ok (.getfield 19, 3) := by decide +kernel
theorem dX5_result_4 : decode cX5_result 4 = .ok (.lreturn, 1) := by decide +kernel
theorem dX5_reckon_0 : decode cX5_reckon 0 = .ok (.aload_n 0, 1) := by decide +kernel
theorem dX5_reckon_1 : decode cX5_reckon 1 = .ok (.iconst 0, 1) := by decide +kernel
theorem dX5_reckon_2 : decode cX5_reckon 2 = .ok (.putfield 23, 3) := by decide +kernel
theorem dX5_reckon_5 : decode cX5_reckon 5 = .ok (.aload_n 0, 1) := by decide +kernel
theorem dX5_reckon_6 : decode cX5_reckon 6 = .ok (.iconst 0, 1) := by decide +kernel
theorem dX5_reckon_7 : decode cX5_reckon 7 = .ok (.putfield 15, 3) := by decide +kernel
theorem dX5_reckon_10 : decode cX5_reckon 10 = .ok (.iconst 0, 1) := by decide +kernel
theorem dX5_reckon_11 : decode cX5_reckon 11 = .ok (.istore 5, 2) := by decide +kernel
theorem dX5_reckon_13 : decode cX5_reckon 13 = .ok (.iload 5, 2) := by decide +kernel
theorem dX5_reckon_15 : decode cX5_reckon 15 = .ok (.aload_n 1, 1) := by decide +kernel
theorem dX5_reckon_16 : decode cX5_reckon 16 = .ok (.invokevirtual 26, 3) := by decide +kernel
theorem dX5_reckon_19 : decode cX5_reckon 19 = .ok (.if_icmp .ge 129, 3) := by decide +kernel
theorem dX5_reckon_22 : decode cX5_reckon 22 = .ok (.aload_n 0, 1) := by decide +kernel
theorem dX5_reckon_23 : decode cX5_reckon 23 = .ok (.getfield 15, 3) := by decide +kernel
theorem dX5_reckon_26 : decode cX5_reckon 26 = .ok (.ifCond .ne 122, 3) := by decide +kernel
theorem dX5_reckon_29 : decode cX5_reckon 29 = .ok (.aload_n 1, 1) := by decide +kernel
theorem dX5_reckon_30 : decode cX5_reckon 30 = .ok (.iload 5, 2) := by decide +kernel
theorem dX5_reckon_32 : decode cX5_reckon 32 = .ok (.invokevirtual 32, 3) := by decide +kernel
theorem dX5_reckon_35 : decode cX5_reckon 35 = .ok (.istore 6, 2) := by decide +kernel
theorem dX5_reckon_37 : decode cX5_reckon 37 = .ok (.aload_n 2, 1) := by decide +kernel
theorem dX5_reckon_38 : decode cX5_reckon 38 = .ok (.aload_n 1, 1) := by decide +kernel
theorem dX5_reckon_39 : decode cX5_reckon 39 = .ok (.iload 6, 2) := by decide +kernel
theorem dX5_reckon_41 : decode cX5_reckon 41 = .ok (.invokevirtual 36, 3) := by decide +kernel
theorem dX5_reckon_44 : decode cX5_reckon 44 = .ok (.istore 7, 2) := by decide +kernel
theorem dX5_reckon_46 : decode cX5_reckon 46 = .ok (.aload_n 2, 1) := by decide +kernel
theorem dX5_reckon_47 : decode cX5_reckon 47 = .ok (.aload_n 1, 1) := by decide +kernel
theorem dX5_reckon_48 : decode cX5_reckon 48 = .ok (.iload 6, 2) := by decide +kernel
theorem dX5_reckon_50 : decode cX5_reckon 50 = .ok (.invokevirtual 42, 3) := by decide +kernel
theorem dX5_reckon_53 : decode cX5_reckon 53 = .ok (.istore 8, 2) := by decide +kernel
theorem dX5_reckon_55 : decode cX5_reckon 55 = .ok (.iload 8, 2) := by decide +kernel
theorem dX5_reckon_57 : decode cX5_reckon 57 = .ok (.tableswitch 79 1 5 #[35, 45, 35, 57, 69], 35) := by decide +kernel
theorem dX5_reckon_92 : decode cX5_reckon 92 = .ok (.aload_n 0, 1) := by decide +kernel
theorem dX5_reckon_93 : decode cX5_reckon 93 = .ok (.iload 7, 2) := by decide +kernel
theorem dX5_reckon_95 : decode cX5_reckon 95 = .ok (.i2l, 1) := by decide +kernel
theorem dX5_reckon_96 : decode cX5_reckon 96 = .ok (.invokevirtual 45, 3) := by decide +kernel
theorem dX5_reckon_99 : decode cX5_reckon 99 = .ok (.goto 43, 3) := by decide +kernel
theorem dX5_reckon_102 : decode cX5_reckon 102 = .ok (.aload_n 0, 1) := by decide +kernel
theorem dX5_reckon_103 : decode cX5_reckon 103 = .ok (.aload_n 3, 1) := by decide +kernel
theorem dX5_reckon_104 : decode cX5_reckon 104 = .ok (.iload 4, 2) := by decide +kernel
theorem dX5_reckon_106 : decode cX5_reckon 106 = .ok (.iload 7, 2) := by decide +kernel
theorem dX5_reckon_108 : decode cX5_reckon 108 = .ok (.invokevirtual 49, 3) := by decide +kernel
theorem dX5_reckon_111 : decode cX5_reckon 111 = .ok (.goto 31, 3) := by decide +kernel
theorem dX5_reckon_114 : decode cX5_reckon 114 = .ok (.aload_n 0, 1) := by decide +kernel
theorem dX5_reckon_115 : decode cX5_reckon 115 = .ok (.aload_n 0, 1) := by decide +kernel
theorem dX5_reckon_116 : decode cX5_reckon 116 = .ok (.invokevirtual 53, 3) := by decide +kernel
theorem dX5_reckon_119 : decode cX5_reckon 119 = .ok (.lneg, 1) := by decide +kernel
theorem dX5_reckon_120 : decode cX5_reckon 120 = .ok (.invokevirtual 45, 3) := by decide +kernel
theorem dX5_reckon_123 : decode cX5_reckon 123 = .ok (.goto 19, 3) := by decide +kernel
theorem dX5_reckon_126 : decode cX5_reckon 126 = .ok (.aload_n 0, 1) := by decide +kernel
theorem dX5_reckon_127 : decode cX5_reckon 127 = .ok (.aload_n 3, 1) := by decide +kernel
theorem dX5_reckon_128 : decode cX5_reckon 128 = .ok (.iload 4, 2) := by decide +kernel
theorem dX5_reckon_130 : decode cX5_reckon 130 = .ok (.invokevirtual 57, 3) := by decide +kernel
theorem dX5_reckon_133 : decode cX5_reckon 133 = .ok (.goto 9, 3) := by decide +kernel
theorem dX5_reckon_136 : decode cX5_reckon 136 = .ok (.aload_n 0, 1) := by decide +kernel
theorem dX5_reckon_137 : decode cX5_reckon 137 = .ok (.iload 8, 2) := by decide +kernel
theorem dX5_reckon_139 : decode cX5_reckon 139 = .ok (.invokevirtual 61, 3) := by decide +kernel
theorem dX5_reckon_142 : decode cX5_reckon 142 = .ok (.iinc 5 1, 3) := by decide +kernel
theorem dX5_reckon_145 : decode cX5_reckon 145 = .ok (.goto (-132), 3) := by decide +kernel
theorem dX5_reckon_148 : decode cX5_reckon 148 = .ok (.aload_n 0, 1) := by decide +kernel
theorem dX5_reckon_149 : decode cX5_reckon 149 = .ok (.aload_n 0, 1) := by decide +kernel
theorem dX5_reckon_150 : decode cX5_reckon 150 = .ok (.getfield 15, 3) := by decide +kernel
theorem dX5_reckon_153 : decode cX5_reckon 153 = .ok (.ifCond .ne 10, 3) := by decide +kernel
theorem dX5_reckon_156 : decode cX5_reckon 156 = .ok (.aload_n 0, 1) := by decide +kernel
theorem dX5_reckon_157 : decode cX5_reckon 157 = .ok (.invokevirtual 53, 3) := by decide +kernel
theorem dX5_reckon_160 : decode cX5_reckon 160 = .ok (.goto 4, 3) := by decide +kernel
theorem dX5_reckon_163 : decode cX5_reckon 163 = .ok (.lconst 0, 1) := by decide +kernel
theorem dX5_reckon_164 : decode cX5_reckon 164 = .ok (.putfield 19, 3) := by decide +kernel
theorem dX5_reckon_167 : decode cX5_reckon 167 = .ok (.return_, 1) := by decide +kernel
theorem dX5_push_0 : decode cX5_push 0 = .ok (.lload_n 1, 1) := by decide +kernel
theorem dX5_push_1 : decode cX5_push 1 = .ok (.ldc2_w 65, 3) := by decide +kernel
theorem dX5_push_4 : decode cX5_push 4 = .ok (.lcmp, 1) := by decide +kernel
theorem dX5_push_5 : decode cX5_push 5 = .ok (.ifCond .gt 11, 3) := by decide +kernel
theorem dX5_push_8 : decode cX5_push 8 = .ok (.lload_n 1, 1) := by decide +kernel
theorem dX5_push_9 : decode cX5_push 9 = .ok (.ldc2_w 67, 3) := by decide +kernel
theorem dX5_push_12 : decode cX5_push 12 = .ok (.lcmp, 1) := by decide +kernel
theorem dX5_push_13 : decode cX5_push 13 = .ok (.ifCond .ge 11, 3) := by decide +kernel
theorem dX5_push_16 : decode cX5_push 16 = .ok (.aload_n 0, 1) := by decide +kernel
theorem dX5_push_17 : decode cX5_push 17 = .ok (.iconst 3, 1) := by decide +kernel
theorem dX5_push_18 : decode cX5_push 18 = .ok (.putfield 15, 3) := by decide +kernel
theorem dX5_push_21 : decode cX5_push 21 = .ok (.goto 42, 3) := by decide +kernel
theorem dX5_push_24 : decode cX5_push 24 = .ok (.aload_n 0, 1) := by decide +kernel
theorem dX5_push_25 : decode cX5_push 25 = .ok (.getfield 23, 3) := by decide +kernel
theorem dX5_push_28 : decode cX5_push 28 = .ok (.ifCond .lt 35, 3) := by decide +kernel
theorem dX5_push_31 : decode cX5_push 31 = .ok (.aload_n 0, 1) := by decide +kernel
theorem dX5_push_32 : decode cX5_push 32 = .ok (.getfield 23, 3) := by decide +kernel
theorem dX5_push_35 : decode cX5_push 35 = .ok (.aload_n 0, 1) := by decide +kernel
theorem dX5_push_36 : decode cX5_push 36 = .ok (.getfield 9, 3) := by decide +kernel
theorem dX5_push_39 : decode cX5_push 39 = .ok (.arraylength, 1) := by decide +kernel
theorem dX5_push_40 : decode cX5_push 40 = .ok (.if_icmp .ge 23, 3) := by decide +kernel
theorem dX5_push_43 : decode cX5_push 43 = .ok (.aload_n 0, 1) := by decide +kernel
theorem dX5_push_44 : decode cX5_push 44 = .ok (.getfield 9, 3) := by decide +kernel
theorem dX5_push_47 : decode cX5_push 47 = .ok (.aload_n 0, 1) := by decide +kernel
theorem dX5_push_48 : decode cX5_push 48 = .ok (.getfield 23, 3) := by decide +kernel
theorem dX5_push_51 : decode cX5_push 51 = .ok (.lload_n 1, 1) := by decide +kernel
theorem dX5_push_52 : decode cX5_push 52 = .ok (.lastore, 1) := by decide +kernel
theorem dX5_push_53 : decode cX5_push 53 = .ok (.aload_n 0, 1) := by decide +kernel
theorem dX5_push_54 : decode cX5_push 54 = .ok (.dup, 1) := by decide +kernel
theorem dX5_push_55 : decode cX5_push 55 = .ok (.getfield 23, 3) := by decide +kernel
theorem dX5_push_58 : decode cX5_push 58 = .ok (.iconst 1, 1) := by decide +kernel
theorem dX5_push_59 : decode cX5_push 59 = .ok (.iadd, 1) := by decide +kernel
theorem dX5_push_60 : decode cX5_push 60 = .ok (.putfield 23, 3) := by decide +kernel
theorem dX5_push_63 : decode cX5_push 63 = .ok (.return_, 1) := by decide +kernel
theorem dX5_pop_0 : decode cX5_pop 0 = .ok (.aload_n 0, 1) := by decide +kernel
theorem dX5_pop_1 : decode cX5_pop 1 = .ok (.getfield 23, 3) := by decide +kernel
theorem dX5_pop_4 : decode cX5_pop 4 = .ok (.ifCond .le 15, 3) := by decide +kernel
theorem dX5_pop_7 : decode cX5_pop 7 = .ok (.aload_n 0, 1) := by decide +kernel
theorem dX5_pop_8 : decode cX5_pop 8 = .ok (.getfield 23, 3) := by decide +kernel
theorem dX5_pop_11 : decode cX5_pop 11 = .ok (.aload_n 0, 1) := by decide +kernel
theorem dX5_pop_12 : decode cX5_pop 12 = .ok (.getfield 9, 3) := by decide +kernel
theorem dX5_pop_15 : decode cX5_pop 15 = .ok (.arraylength, 1) := by decide +kernel
theorem dX5_pop_16 : decode cX5_pop 16 = .ok (.if_icmp .le 5, 3) := by decide +kernel
theorem dX5_pop_19 : decode cX5_pop 19 = .ok (.lconst 0, 1) := by decide +kernel
theorem dX5_pop_20 : decode cX5_pop 20 = .ok (.lreturn, 1) := by decide +kernel
theorem dX5_pop_21 : decode cX5_pop 21 = .ok (.aload_n 0, 1) := by decide +kernel
theorem dX5_pop_22 : decode cX5_pop 22 = .ok (.dup, 1) := by decide +kernel
theorem dX5_pop_23 : decode cX5_pop 23 = .ok (.getfield 23, 3) := by decide +kernel
theorem dX5_pop_26 : decode cX5_pop 26 = .ok (.iconst 1, 1) := by decide +kernel
theorem dX5_pop_27 : decode cX5_pop 27 = .ok (.isub, 1) := by decide +kernel
theorem dX5_pop_28 : decode cX5_pop 28 = .ok (.putfield 23, 3) := by decide +kernel
theorem dX5_pop_31 : decode cX5_pop 31 = .ok (.aload_n 0, 1) := by decide +kernel
theorem dX5_pop_32 : decode cX5_pop 32 = .ok (.getfield 9, 3) := by decide +kernel
theorem dX5_pop_35 : decode cX5_pop 35 = .ok (.aload_n 0, 1) := by decide +kernel
theorem dX5_pop_36 : decode cX5_pop 36 = .ok (.getfield 23, 3) := by decide +kernel
theorem dX5_pop_39 : decode cX5_pop 39 = .ok (.laload, 1) := by decide +kernel
theorem dX5_pop_40 : decode cX5_pop 40 = .ok (.lreturn, 1) := by decide +kernel
theorem dX5_pushCell_0 : decode cX5_pushCell 0 = .ok (.aload_n 0, 1) := by decide +kernel
theorem dX5_pushCell_1 : decode cX5_pushCell 1 = .ok (.aload_n 1, 1) := by decide +kernel
theorem dX5_pushCell_2 : decode cX5_pushCell 2 = .ok (.iload_n 2, 1) := by decide +kernel
theorem dX5_pushCell_3 : decode cX5_pushCell 3 = .ok (.iload_n 3, 1) := by decide +kernel
theorem dX5_pushCell_4 : decode cX5_pushCell 4 = .ok (.invokevirtual 69, 3) := by decide +kernel
theorem dX5_pushCell_7 : decode cX5_pushCell 7 = .ok (.putfield 15, 3) := by decide +kernel
theorem dX5_pushCell_10 : decode cX5_pushCell 10 = .ok (.aload_n 0, 1) := by decide +kernel
theorem dX5_pushCell_11 : decode cX5_pushCell 11 = .ok (.getfield 15, 3) := by decide +kernel
theorem dX5_pushCell_14 : decode cX5_pushCell 14 = .ok (.ifCond .ne 13, 3) := by decide +kernel
theorem dX5_pushCell_17 : decode cX5_pushCell 17 = .ok (.aload_n 0, 1) := by decide +kernel
theorem dX5_pushCell_18 : decode cX5_pushCell 18 = .ok (.aload_n 1, 1) := by decide +kernel
theorem dX5_pushCell_19 : decode cX5_pushCell 19 = .ok (.iload_n 2, 1) := by decide +kernel
theorem dX5_pushCell_20 : decode cX5_pushCell 20 = .ok (.iload_n 3, 1) := by decide +kernel
theorem dX5_pushCell_21 : decode cX5_pushCell 21 = .ok (.invokevirtual 75, 3) := by decide +kernel
theorem dX5_pushCell_24 : decode cX5_pushCell 24 = .ok (.invokevirtual 45, 3) := by decide +kernel
theorem dX5_pushCell_27 : decode cX5_pushCell 27 = .ok (.return_, 1) := by decide +kernel
theorem dX5_pushRectangle_0 : decode cX5_pushRectangle 0 = .ok (.aload_n 0, 1) := by decide +kernel
theorem dX5_pushRectangle_1 : decode cX5_pushRectangle 1 = .ok (.invokevirtual 53, 3) := by decide +kernel
theorem dX5_pushRectangle_4 : decode cX5_pushRectangle 4 = .ok (.l2i, 1) := by decide +kernel
theorem dX5_pushRectangle_5 : decode cX5_pushRectangle 5 = .ok (.istore_n 3, 1) := by decide +kernel
theorem dX5_pushRectangle_6 : decode cX5_pushRectangle 6 = .ok (.aload_n 0, 1) := by decide +kernel
theorem dX5_pushRectangle_7 : decode cX5_pushRectangle 7 = .ok (.invokevirtual 53, 3) := by decide +kernel
theorem dX5_pushRectangle_10 : decode cX5_pushRectangle 10 = .ok (.l2i, 1) := by decide +kernel
theorem dX5_pushRectangle_11 : decode cX5_pushRectangle 11 = .ok (.istore 4, 2) := by decide +kernel
theorem dX5_pushRectangle_13 : decode cX5_pushRectangle 13 = .ok (.iload 4, 2) := by decide +kernel
theorem dX5_pushRectangle_15 : decode cX5_pushRectangle 15 = .ok (.iload_n 3, 1) := by decide +kernel
theorem dX5_pushRectangle_16 : decode cX5_pushRectangle 16 = .ok (.invokestatic 79, 3) := by decide +kernel
theorem dX5_pushRectangle_19 : decode cX5_pushRectangle 19 = .ok (.lstore 5, 2) := by decide +kernel
theorem dX5_pushRectangle_21 : decode cX5_pushRectangle 21 = .ok (.aload_n 0, 1) := by decide +kernel
theorem dX5_pushRectangle_22 : decode cX5_pushRectangle 22 = .ok (.lconst 0, 1) := by decide +kernel
theorem dX5_pushRectangle_23 : decode cX5_pushRectangle 23 = .ok (.invokevirtual 45, 3) := by decide +kernel
theorem dX5_pushRectangle_26 : decode cX5_pushRectangle 26 = .ok (.iconst 0, 1) := by decide +kernel
theorem dX5_pushRectangle_27 : decode cX5_pushRectangle 27 = .ok (.istore 7, 2) := by decide +kernel
theorem dX5_pushRectangle_29 : decode cX5_pushRectangle 29 = .ok (.iload 7, 2) := by decide +kernel
theorem dX5_pushRectangle_31 : decode cX5_pushRectangle 31 = .ok (.bipush 64, 2) := by decide +kernel
theorem dX5_pushRectangle_33 : decode cX5_pushRectangle 33 = .ok (.if_icmp .ge 56, 3) := by decide +kernel
theorem dX5_pushRectangle_36 : decode cX5_pushRectangle 36 = .ok (.aload_n 0, 1) := by decide +kernel
theorem dX5_pushRectangle_37 : decode cX5_pushRectangle 37 = .ok (.getfield 15, 3) := by decide +kernel
theorem dX5_pushRectangle_40 : decode cX5_pushRectangle 40 = .ok (.ifCond .ne 49, 3) := by decide +kernel
theorem dX5_pushRectangle_43 : decode cX5_pushRectangle 43 = .ok (.lload 5, 2) := by decide +kernel
theorem dX5_pushRectangle_45 : decode cX5_pushRectangle 45 = .ok (.iload 7, 2) := by decide +kernel
theorem dX5_pushRectangle_47 : decode cX5_pushRectangle 47 = .ok (.invokestatic 82, 3) := by decide +kernel
theorem dX5_pushRectangle_50 : decode cX5_pushRectangle 50 = .ok (.land, 1) := by decide +kernel
theorem dX5_pushRectangle_51 : decode cX5_pushRectangle 51 = .ok (.lconst 0, 1) := by decide +kernel
theorem dX5_pushRectangle_52 : decode cX5_pushRectangle 52 = .ok (.lcmp, 1) := by decide +kernel
theorem dX5_pushRectangle_53 : decode cX5_pushRectangle 53 = .ok (.ifCond .eq 30, 3) := by decide +kernel
theorem dX5_pushRectangle_56 : decode cX5_pushRectangle 56 = .ok (.aload_n 0, 1) := by decide +kernel
theorem dX5_pushRectangle_57 : decode cX5_pushRectangle 57 = .ok (.aload_n 1, 1) := by decide +kernel
theorem dX5_pushRectangle_58 : decode cX5_pushRectangle 58 = .ok (.iload_n 2, 1) := by decide +kernel
theorem dX5_pushRectangle_59 : decode cX5_pushRectangle 59 = .ok (.iload 7, 2) := by decide +kernel
theorem dX5_pushRectangle_61 : decode cX5_pushRectangle 61 = .ok (.invokevirtual 69, 3) := by decide +kernel
theorem dX5_pushRectangle_64 : decode cX5_pushRectangle 64 = .ok (.putfield 15, 3) := by decide +kernel
theorem dX5_pushRectangle_67 : decode cX5_pushRectangle 67 = .ok (.aload_n 0, 1) := by decide +kernel
theorem dX5_pushRectangle_68 : decode cX5_pushRectangle 68 = .ok (.aload_n 0, 1) := by decide +kernel
theorem dX5_pushRectangle_69 : decode cX5_pushRectangle 69 = .ok (.invokevirtual 53, 3) := by decide +kernel
theorem dX5_pushRectangle_72 : decode cX5_pushRectangle 72 = .ok (.aload_n 1, 1) := by decide +kernel
theorem dX5_pushRectangle_73 : decode cX5_pushRectangle 73 = .ok (.iload_n 2, 1) := by decide +kernel
theorem dX5_pushRectangle_74 : decode cX5_pushRectangle 74 = .ok (.iload 7, 2) := by decide +kernel
theorem dX5_pushRectangle_76 : decode cX5_pushRectangle 76 = .ok (.invokevirtual 75, 3) := by decide +kernel
theorem dX5_pushRectangle_79 : decode cX5_pushRectangle 79 = .ok (.ladd, 1) := by decide +kernel
theorem dX5_pushRectangle_80 : decode cX5_pushRectangle 80 = .ok (.invokevirtual 45, 3) := by decide +kernel
theorem dX5_pushRectangle_83 : decode cX5_pushRectangle 83 = .ok (.iinc 7 1, 3) := by decide +kernel
theorem dX5_pushRectangle_86 : decode cX5_pushRectangle 86 = .ok (.goto (-57), 3) := by decide +kernel
theorem dX5_pushRectangle_89 : decode cX5_pushRectangle 89 = .ok (.return_, 1) := by decide +kernel
theorem dX5_join_0 : decode cX5_join 0 = .ok (.aload_n 0, 1) := by decide +kernel
theorem dX5_join_1 : decode cX5_join 1 = .ok (.invokevirtual 53, 3) := by decide +kernel
theorem dX5_join_4 : decode cX5_join 4 = .ok (.lstore_n 2, 1) := by decide +kernel
theorem dX5_join_5 : decode cX5_join 5 = .ok (.aload_n 0, 1) := by decide +kernel
theorem dX5_join_6 : decode cX5_join 6 = .ok (.invokevirtual 53, 3) := by decide +kernel
theorem dX5_join_9 : decode cX5_join 9 = .ok (.lstore 4, 2) := by decide +kernel
theorem dX5_join_11 : decode cX5_join 11 = .ok (.iload_n 1, 1) := by decide +kernel
theorem dX5_join_12 : decode cX5_join 12 = .ok (.tableswitch 82 42 47 #[62, 40, 82, 51, 82, 72], 40) := by decide +kernel
theorem dX5_join_52 : decode cX5_join 52 = .ok (.aload_n 0, 1) := by decide +kernel
theorem dX5_join_53 : decode cX5_join 53 = .ok (.lload 4, 2) := by decide +kernel
theorem dX5_join_55 : decode cX5_join 55 = .ok (.lload_n 2, 1) := by decide +kernel
theorem dX5_join_56 : decode cX5_join 56 = .ok (.ladd, 1) := by decide +kernel
theorem dX5_join_57 : decode cX5_join 57 = .ok (.invokevirtual 45, 3) := by decide +kernel
theorem dX5_join_60 : decode cX5_join 60 = .ok (.goto 44, 3) := by decide +kernel
theorem dX5_join_63 : decode cX5_join 63 = .ok (.aload_n 0, 1) := by decide +kernel
theorem dX5_join_64 : decode cX5_join 64 = .ok (.lload 4, 2) := by decide +kernel
theorem dX5_join_66 : decode cX5_join 66 = .ok (.lload_n 2, 1) := by decide +kernel
theorem dX5_join_67 : decode cX5_join 67 = .ok (.lsub, 1) := by decide +kernel
theorem dX5_join_68 : decode cX5_join 68 = .ok (.invokevirtual 45, 3) := by decide +kernel
theorem dX5_join_71 : decode cX5_join 71 = .ok (.goto 33, 3) := by decide +kernel
theorem dX5_join_74 : decode cX5_join 74 = .ok (.aload_n 0, 1) := by decide +kernel
theorem dX5_join_75 : decode cX5_join 75 = .ok (.lload 4, 2) := by decide +kernel
theorem dX5_join_77 : decode cX5_join 77 = .ok (.lload_n 2, 1) := by decide +kernel
theorem dX5_join_78 : decode cX5_join 78 = .ok (.invokevirtual 86, 3) := by decide +kernel
theorem dX5_join_81 : decode cX5_join 81 = .ok (.goto 23, 3) := by decide +kernel
theorem dX5_join_84 : decode cX5_join 84 = .ok (.aload_n 0, 1) := by decide +kernel
theorem dX5_join_85 : decode cX5_join 85 = .ok (.lload 4, 2) := by decide +kernel
theorem dX5_join_87 : decode cX5_join 87 = .ok (.lload_n 2, 1) := by decide +kernel
theorem dX5_join_88 : decode cX5_join 88 = .ok (.invokevirtual 90, 3) := by decide +kernel
theorem dX5_join_91 : decode cX5_join 91 = .ok (.goto 13, 3) := by decide +kernel
theorem dX5_join_94 : decode cX5_join 94 = .ok (.aload_n 0, 1) := by decide +kernel
theorem dX5_join_95 : decode cX5_join 95 = .ok (.lload 4, 2) := by decide +kernel
theorem dX5_join_97 : decode cX5_join 97 = .ok (.lload_n 2, 1) := by decide +kernel
theorem dX5_join_98 : decode cX5_join 98 = .ok (.invokestatic 93, 3) := by decide +kernel
theorem dX5_join_101 : decode cX5_join 101 = .ok (.invokevirtual 45, 3) := by decide +kernel
theorem dX5_join_104 : decode cX5_join 104 = .ok (.return_, 1) := by decide +kernel
theorem dX5_multiply_0 : decode cX5_multiply 0 = .ok (.lload_n 1, 1) := by decide +kernel
theorem dX5_multiply_1 : decode cX5_multiply 1 = .ok (.lconst 0, 1) := by decide +kernel
theorem dX5_multiply_2 : decode cX5_multiply 2 = .ok (.lcmp, 1) := by decide +kernel
theorem dX5_multiply_3 : decode cX5_multiply 3 = .ok (.ifCond .eq 27, 3) := by decide +kernel
theorem dX5_multiply_6 : decode cX5_multiply 6 = .ok (.lload_n 3, 1) := by decide +kernel
theorem dX5_multiply_7 : decode cX5_multiply 7 = .ok (.invokestatic 99, 3) := by decide +kernel
theorem dX5_multiply_10 : decode cX5_multiply 10 = .ok (.ldc2_w 65, 3) := by decide +kernel
theorem dX5_multiply_13 : decode cX5_multiply 13 = .ok (.lload_n 1, 1) := by decide +kernel
theorem dX5_multiply_14 : decode cX5_multiply 14 = .ok (.invokestatic 99, 3) := by decide +kernel
theorem dX5_multiply_17 : decode cX5_multiply 17 = .ok (.ldiv, 1) := by decide +kernel
theorem dX5_multiply_18 : decode cX5_multiply 18 = .ok (.lcmp, 1) := by decide +kernel
theorem dX5_multiply_19 : decode cX5_multiply 19 = .ok (.ifCond .le 11, 3) := by decide +kernel
theorem dX5_multiply_22 : decode cX5_multiply 22 = .ok (.aload_n 0, 1) := by decide +kernel
theorem dX5_multiply_23 : decode cX5_multiply 23 = .ok (.iconst 3, 1) := by decide +kernel
theorem dX5_multiply_24 : decode cX5_multiply 24 = .ok (.putfield 15, 3) := by decide +kernel
theorem dX5_multiply_27 : decode cX5_multiply 27 = .ok (.goto 10, 3) := by decide +kernel
theorem dX5_multiply_30 : decode cX5_multiply 30 = .ok (.aload_n 0, 1) := by decide +kernel
theorem dX5_multiply_31 : decode cX5_multiply 31 = .ok (.lload_n 1, 1) := by decide +kernel
theorem dX5_multiply_32 : decode cX5_multiply 32 = .ok (.lload_n 3, 1) := by decide +kernel
theorem dX5_multiply_33 : decode cX5_multiply 33 = .ok (.lmul, 1) := by decide +kernel
theorem dX5_multiply_34 : decode cX5_multiply 34 = .ok (.invokevirtual 45, 3) := by decide +kernel
theorem dX5_multiply_37 : decode cX5_multiply 37 = .ok (.return_, 1) := by decide +kernel
theorem dX5_divide_0 : decode cX5_divide 0 = .ok (.lload_n 3, 1) := by decide +kernel
theorem dX5_divide_1 : decode cX5_divide 1 = .ok (.lconst 0, 1) := by decide +kernel
theorem dX5_divide_2 : decode cX5_divide 2 = .ok (.lcmp, 1) := by decide +kernel
theorem dX5_divide_3 : decode cX5_divide 3 = .ok (.ifCond .ne 11, 3) := by decide +kernel
theorem dX5_divide_6 : decode cX5_divide 6 = .ok (.aload_n 0, 1) := by decide +kernel
theorem dX5_divide_7 : decode cX5_divide 7 = .ok (.iconst 2, 1) := by decide +kernel
theorem dX5_divide_8 : decode cX5_divide 8 = .ok (.putfield 15, 3) := by decide +kernel
theorem dX5_divide_11 : decode cX5_divide 11 = .ok (.goto 12, 3) := by decide +kernel
theorem dX5_divide_14 : decode cX5_divide 14 = .ok (.aload_n 0, 1) := by decide +kernel
theorem dX5_divide_15 : decode cX5_divide 15 = .ok (.lload_n 1, 1) := by decide +kernel
theorem dX5_divide_16 : decode cX5_divide 16 = .ok (.lload_n 3, 1) := by decide +kernel
theorem dX5_divide_17 : decode cX5_divide 17 = .ok (.invokestatic 103, 3) := by decide +kernel
theorem dX5_divide_20 : decode cX5_divide 20 = .ok (.invokevirtual 45, 3) := by decide +kernel
theorem dX5_divide_23 : decode cX5_divide 23 = .ok (.return_, 1) := by decide +kernel
theorem dX6_init_0 : decode cX6_init 0 = .ok (.aload_n 0, 1) := by decide +kernel
theorem dX6_init_1 : decode cX6_init 1 = .ok (.invokespecial 3, 3) := by decide +kernel
theorem dX6_init_4 : decode cX6_init 4 = .ok (.aload_n 0, 1) := by decide +kernel
theorem dX6_init_5 : decode cX6_init 5 = .ok (.aload_n 1, 1) := by decide +kernel
theorem dX6_init_6 : decode cX6_init 6 = .ok (.putfield 9, 3) := by decide +kernel
theorem dX6_init_9 : decode cX6_init 9 = .ok (.return_, 1) := by decide +kernel
theorem dX6_parse_0 : decode cX6_parse 0 = .ok (.aload_n 0, 1) := by decide +kernel
theorem dX6_parse_1 : decode cX6_parse 1 = .ok (.bipush 61, 2) := by decide +kernel
theorem dX6_parse_3 : decode cX6_parse 3 = .ok (.invokevirtual 15, 3) := by decide +kernel
theorem dX6_parse_6 : decode cX6_parse 6 = .ok (.aload_n 0, 1) := by decide +kernel
theorem dX6_parse_7 : decode cX6_parse 7 = .ok (.iconst 0, 1) := by decide +kernel
theorem dX6_parse_8 : decode cX6_parse 8 = .ok (.invokevirtual 19, 3) := by decide +kernel
theorem dX6_parse_11 : decode cX6_parse 11 = .ok (.aload_n 0, 1) := by decide +kernel
theorem dX6_parse_12 : decode cX6_parse 12 = .ok (.getfield 22, 3) := by decide +kernel
theorem dX6_parse_15 : decode cX6_parse 15 = .ok (.aload_n 0, 1) := by decide +kernel
theorem dX6_parse_16 : decode cX6_parse 16 = .ok (.getfield 9, 3) := by decide +kernel
theorem dX6_parse_19 : decode cX6_parse 19 = .ok (.invokevirtual 26, 3) := by decide +kernel
theorem dX6_parse_22 : decode cX6_parse 22 = .ok (.if_icmp .ge 8, 3) := by decide +kernel
theorem dX6_parse_25 : decode cX6_parse 25 = .ok (.aload_n 0, 1) := by decide +kernel
theorem dX6_parse_26 : decode cX6_parse 26 = .ok (.iconst 1, 1) := by decide +kernel
theorem dX6_parse_27 : decode cX6_parse 27 = .ok (.invokevirtual 32, 3) := by decide +kernel
theorem dX6_parse_30 : decode cX6_parse 30 = .ok (.aload_n 0, 1) := by decide +kernel
theorem dX6_parse_31 : decode cX6_parse 31 = .ok (.getfield 35, 3) := by decide +kernel
theorem dX6_parse_34 : decode cX6_parse 34 = .ok (.ireturn, 1) := by decide +kernel
theorem dX6_next_0 : decode cX6_next 0 = .ok (.aload_n 0, 1) := by decide +kernel
theorem dX6_next_1 : decode cX6_next 1 = .ok (.getfield 35, 3) := by decide +kernel
theorem dX6_next_4 : decode cX6_next 4 = .ok (.ifCond .ne 17, 3) := by decide +kernel
theorem dX6_next_7 : decode cX6_next 7 = .ok (.aload_n 0, 1) := by decide +kernel
theorem dX6_next_8 : decode cX6_next 8 = .ok (.getfield 9, 3) := by decide +kernel
theorem dX6_next_11 : decode cX6_next 11 = .ok (.aload_n 0, 1) := by decide +kernel
theorem dX6_next_12 : decode cX6_next 12 = .ok (.getfield 22, 3) := by decide +kernel
theorem dX6_next_15 : decode cX6_next 15 = .ok (.invokevirtual 38, 3) := by decide +kernel
theorem dX6_next_18 : decode cX6_next 18 = .ok (.goto 4, 3) := by decide +kernel
theorem dX6_next_21 : decode cX6_next 21 = .ok (.iconst (-1), 1) := by decide +kernel
theorem dX6_next_22 : decode cX6_next 22 = .ok (.ireturn, 1) := by decide +kernel
theorem dX6_fail_0 : decode cX6_fail 0 = .ok (.aload_n 0, 1) := by decide +kernel
theorem dX6_fail_1 : decode cX6_fail 1 = .ok (.getfield 35, 3) := by decide +kernel
theorem dX6_fail_4 : decode cX6_fail 4 = .ok (.ifCond .ne 16, 3) := by decide +kernel
theorem dX6_fail_7 : decode cX6_fail 7 = .ok (.aload_n 0, 1) := by decide +kernel
theorem dX6_fail_8 : decode cX6_fail 8 = .ok (.bipush 100, 2) := by decide +kernel
theorem dX6_fail_10 : decode cX6_fail 10 = .ok (.iload_n 1, 1) := by decide +kernel
theorem dX6_fail_11 : decode cX6_fail 11 = .ok (.imul, 1) := by decide +kernel
theorem dX6_fail_12 : decode cX6_fail 12 = .ok (.aload_n 0, 1) := by decide +kernel
theorem dX6_fail_13 : decode cX6_fail 13 = .ok (.getfield 22, 3) := by decide +kernel
theorem dX6_fail_16 : decode cX6_fail 16 = .ok (.iadd, 1) := by decide +kernel
theorem dX6_fail_17 : decode cX6_fail 17 = .ok (.putfield 35, 3) := by decide +kernel
theorem dX6_fail_20 : decode cX6_fail 20 = .ok (.return_, 1) := by decide +kernel
theorem dX6_pass_0 : decode cX6_pass 0 = .ok (.aload_n 0, 1) := by decide +kernel
theorem dX6_pass_1 : decode cX6_pass 1 = .ok (.iload_n 1, 1) := by decide +kernel
theorem dX6_pass_2 : decode cX6_pass 2 = .ok (.iload_n 1, 1) := by decide +kernel
theorem dX6_pass_3 : decode cX6_pass 3 = .ok (.invokevirtual 42, 3) := by decide +kernel
theorem dX6_pass_6 : decode cX6_pass 6 = .ok (.pop, 1) := by decide +kernel
theorem dX6_pass_7 : decode cX6_pass 7 = .ok (.return_, 1) := by decide +kernel
theorem dX6_passWithin_0 : decode cX6_passWithin 0 = .ok (.aload_n 0, 1) := by decide +kernel
theorem dX6_passWithin_1 : decode cX6_passWithin 1 = .ok (.invokevirtual 46, 3) := by decide +kernel
theorem dX6_passWithin_4 : decode cX6_passWithin 4 = .ok (.istore_n 3, 1) := by decide +kernel
theorem dX6_passWithin_5 : decode cX6_passWithin 5 = .ok (.iload_n 3, 1) := by decide +kernel
theorem dX6_passWithin_6 : decode cX6_passWithin 6 = .ok (.iload_n 1, 1) := by decide +kernel
theorem dX6_passWithin_7 : decode cX6_passWithin 7 = .ok (.if_icmp .lt 8, 3) := by decide +kernel
theorem dX6_passWithin_10 : decode cX6_passWithin 10 = .ok (.iload_n 3, 1) := by decide +kernel
theorem dX6_passWithin_11 : decode cX6_passWithin 11 = .ok (.iload_n 2, 1) := by decide +kernel
theorem dX6_passWithin_12 : decode cX6_passWithin 12 = .ok (.if_icmp .le 10, 3) := by decide +kernel
theorem dX6_passWithin_15 : decode cX6_passWithin 15 = .ok (.aload_n 0, 1) := by decide +kernel
theorem dX6_passWithin_16 : decode cX6_passWithin 16 = .ok (.iconst 1, 1) := by decide +kernel
theorem dX6_passWithin_17 : decode cX6_passWithin 17 = .ok (.invokevirtual 32, 3) := by decide +kernel
theorem dX6_passWithin_20 : decode cX6_passWithin 20 = .ok (.iload_n 1, 1) := by decide +kernel
theorem dX6_passWithin_21 : decode cX6_passWithin 21 = .ok (.ireturn, 1) := by decide +kernel
theorem dX6_passWithin_22 : decode cX6_passWithin 22 = .ok (.aload_n 0, 1) := by decide +kernel
theorem dX6_passWithin_23 : decode cX6_passWithin 23 = .ok (.dup, 1) := by decide +kernel
theorem dX6_passWithin_24 : decode cX6_passWithin 24 = .ok (.getfield 22, 3) := by decide +kernel
theorem dX6_passWithin_27 : decode cX6_passWithin 27 = .ok (.iconst 1, 1) := by decide +kernel
theorem dX6_passWithin_28 : decode cX6_passWithin 28 = .ok (.iadd, 1) := by decide +kernel
theorem dX6_passWithin_29 : decode cX6_passWithin 29 = .ok (.putfield 22, 3) := by decide +kernel
theorem dX6_passWithin_32 : decode cX6_passWithin 32 = .ok (.iload_n 3, 1) := by decide +kernel
theorem dX6_passWithin_33 : decode cX6_passWithin 33 = .ok (.ireturn, 1) := by decide +kernel
theorem dX6_readSum_0 : decode cX6_readSum 0 = .ok (.aload_n 0, 1) := by decide +kernel
theorem dX6_readSum_1 : decode cX6_readSum 1 = .ok (.iload_n 1, 1) := by decide +kernel
theorem dX6_readSum_2 : decode cX6_readSum 2 = .ok (.invokevirtual 49, 3) := by decide +kernel
theorem dX6_readSum_5 : decode cX6_readSum 5 = .ok (.iconst 0, 1) := by decide +kernel
theorem dX6_readSum_6 : decode cX6_readSum 6 = .ok (.istore_n 2, 1) := by decide +kernel
theorem dX6_readSum_7 : decode cX6_readSum 7 = .ok (.iload_n 2, 1) := by decide +kernel
theorem dX6_readSum_8 : decode cX6_readSum 8 = .ok (.bipush 40, 2) := by decide +kernel
theorem dX6_readSum_10 : decode cX6_readSum 10 = .ok (.if_icmp .ge 64, 3) := by decide +kernel
theorem dX6_readSum_13 : decode cX6_readSum 13 = .ok (.aload_n 0, 1) := by decide +kernel
theorem dX6_readSum_14 : decode cX6_readSum 14 = .ok (.invokevirtual 46, 3) := by decide +kernel
theorem dX6_readSum_17 : decode cX6_readSum 17 = .ok (.bipush 43, 2) := by decide +kernel
theorem dX6_readSum_19 : decode cX6_readSum 19 = .ok (.if_icmp .eq 12, 3) := by decide +kernel
theorem dX6_readSum_22 : decode cX6_readSum 22 = .ok (.aload_n 0, 1) := by decide +kernel
theorem dX6_readSum_23 : decode cX6_readSum 23 = .ok (.invokevirtual 46, 3) := by decide +kernel
theorem dX6_readSum_26 : decode cX6_readSum 26 = .ok (.bipush 45, 2) := by decide +kernel
theorem dX6_readSum_28 : decode cX6_readSum 28 = .ok (.if_icmp .ne 46, 3) := by decide +kernel
theorem dX6_readSum_31 : decode cX6_readSum 31 = .ok (.aload_n 0, 1) := by decide +kernel
theorem dX6_readSum_32 : decode cX6_readSum 32 = .ok (.getfield 22, 3) := by decide +kernel
theorem dX6_readSum_35 : decode cX6_readSum 35 = .ok (.istore_n 3, 1) := by decide +kernel
theorem dX6_readSum_36 : decode cX6_readSum 36 = .ok (.aload_n 0, 1) := by decide +kernel
theorem dX6_readSum_37 : decode cX6_readSum 37 = .ok (.invokevirtual 46, 3) := by decide +kernel
theorem dX6_readSum_40 : decode cX6_readSum 40 = .ok (.istore 4, 2) := by decide +kernel
theorem dX6_readSum_42 : decode cX6_readSum 42 = .ok (.aload_n 0, 1) := by decide +kernel
theorem dX6_readSum_43 : decode cX6_readSum 43 = .ok (.dup, 1) := by decide +kernel
theorem dX6_readSum_44 : decode cX6_readSum 44 = .ok (.getfield 22, 3) := by decide +kernel
theorem dX6_readSum_47 : decode cX6_readSum 47 = .ok (.iconst 1, 1) := by decide +kernel
theorem dX6_readSum_48 : decode cX6_readSum 48 = .ok (.iadd, 1) := by decide +kernel
theorem dX6_readSum_49 : decode cX6_readSum 49 = .ok (.putfield 22, 3) := by decide +kernel
theorem dX6_readSum_52 : decode cX6_readSum 52 = .ok (.aload_n 0, 1) := by decide +kernel
theorem dX6_readSum_53 : decode cX6_readSum 53 = .ok (.iload_n 1, 1) := by decide +kernel
theorem dX6_readSum_54 : decode cX6_readSum 54 = .ok (.invokevirtual 49, 3) := by decide +kernel
theorem dX6_readSum_57 : decode cX6_readSum 57 = .ok (.aload_n 0, 1) := by decide +kernel
theorem dX6_readSum_58 : decode cX6_readSum 58 = .ok (.getfield 9, 3) := by decide +kernel
theorem dX6_readSum_61 : decode cX6_readSum 61 = .ok (.iload_n 3, 1) := by decide +kernel
theorem dX6_readSum_62 : decode cX6_readSum 62 = .ok (.iload 4, 2) := by decide +kernel
theorem dX6_readSum_64 : decode cX6_readSum 64 = .ok (.iconst 0, 1) := by decide +kernel
theorem dX6_readSum_65 : decode cX6_readSum 65 = .ok (.invokevirtual 52, 3) := by decide +kernel
theorem dX6_readSum_68 : decode cX6_readSum 68 = .ok (.iinc 2 1, 3) := by decide +kernel
theorem dX6_readSum_71 : decode cX6_readSum 71 = .ok (.goto (-64), 3) := by decide +kernel
theorem dX6_readSum_74 : decode cX6_readSum 74 = .ok (.return_, 1) := by decide +kernel
theorem dX6_readProduct_0 : decode cX6_readProduct 0 = .ok (.aload_n 0, 1) := by decide +kernel
theorem dX6_readProduct_1 : decode cX6_readProduct 1 = .ok (.iload_n 1, 1) := by decide +kernel
theorem dX6_readProduct_2 : decode cX6_readProduct 2 = .ok (.invokevirtual 56, 3) := by decide +kernel
theorem dX6_readProduct_5 : decode cX6_readProduct 5 = .ok (.iconst 0, 1) := by decide +kernel
theorem dX6_readProduct_6 : decode cX6_readProduct 6 = .ok (.istore_n 2, 1) := by decide +kernel
theorem dX6_readProduct_7 : decode cX6_readProduct 7 = .ok (.iload_n 2, 1) := by decide +kernel
theorem dX6_readProduct_8 : decode cX6_readProduct 8 = .ok (.bipush 40, 2) := by decide +kernel
theorem dX6_readProduct_10 : decode cX6_readProduct 10 = .ok (.if_icmp .ge 64, 3) := by decide +kernel
theorem dX6_readProduct_13 : decode cX6_readProduct 13 = .ok (.aload_n 0, 1) := by decide +kernel
theorem dX6_readProduct_14 : decode cX6_readProduct 14 = .ok (.invokevirtual 46, 3) := by decide +kernel
theorem dX6_readProduct_17 : decode cX6_readProduct 17 = .ok (.bipush 42, 2) := by decide +kernel
theorem dX6_readProduct_19 : decode cX6_readProduct 19 = .ok (.if_icmp .eq 12, 3) := by decide +kernel
theorem dX6_readProduct_22 : decode cX6_readProduct 22 = .ok (.aload_n 0, 1) := by decide +kernel
theorem dX6_readProduct_23 : decode cX6_readProduct 23 = .ok (.invokevirtual 46, 3) := by decide +kernel
theorem dX6_readProduct_26 : decode cX6_readProduct 26 = .ok (.bipush 47, 2) := by decide +kernel
theorem dX6_readProduct_28 : decode cX6_readProduct 28 = .ok (.if_icmp .ne 46, 3) := by decide +kernel
theorem dX6_readProduct_31 : decode cX6_readProduct 31 = .ok (.aload_n 0, 1) := by decide +kernel
theorem dX6_readProduct_32 : decode cX6_readProduct 32 = .ok (.getfield 22, 3) := by decide +kernel
theorem dX6_readProduct_35 : decode cX6_readProduct 35 = .ok (.istore_n 3, 1) := by decide +kernel
theorem dX6_readProduct_36 : decode cX6_readProduct 36 = .ok (.aload_n 0, 1) := by decide +kernel
theorem dX6_readProduct_37 : decode cX6_readProduct 37 = .ok (.invokevirtual 46, 3) := by decide +kernel
theorem dX6_readProduct_40 : decode cX6_readProduct 40 = .ok (.istore 4, 2) := by decide +kernel
theorem dX6_readProduct_42 : decode cX6_readProduct 42 = .ok (.aload_n 0, 1) := by decide +kernel
theorem dX6_readProduct_43 : decode cX6_readProduct 43 = .ok (.dup, 1) := by decide +kernel
theorem dX6_readProduct_44 : decode cX6_readProduct 44 = .ok (.getfield 22, 3) := by decide +kernel
theorem dX6_readProduct_47 : decode cX6_readProduct 47 = .ok (.iconst 1, 1) := by decide +kernel
theorem dX6_readProduct_48 : decode cX6_readProduct 48 = .ok (.iadd, 1) := by decide +kernel
theorem dX6_readProduct_49 : decode cX6_readProduct 49 = .ok (.putfield 22, 3) := by decide +kernel
theorem dX6_readProduct_52 : decode cX6_readProduct 52 = .ok (.aload_n 0, 1) := by decide +kernel
theorem dX6_readProduct_53 : decode cX6_readProduct 53 = .ok (.iload_n 1, 1) := by decide +kernel
theorem dX6_readProduct_54 : decode cX6_readProduct 54 = .ok (.invokevirtual 56, 3) := by decide +kernel
theorem dX6_readProduct_57 : decode cX6_readProduct 57 = .ok (.aload_n 0, 1) := by decide +kernel
theorem dX6_readProduct_58 : decode cX6_readProduct 58 = .ok (.getfield 9, 3) := by decide +kernel
theorem dX6_readProduct_61 : decode cX6_readProduct 61 = .ok (.iload_n 3, 1) := by decide +kernel
theorem dX6_readProduct_62 : decode cX6_readProduct 62 = .ok (.iload 4, 2) := by decide +kernel
theorem dX6_readProduct_64 : decode cX6_readProduct 64 = .ok (.iconst 0, 1) := by decide +kernel
theorem dX6_readProduct_65 : decode cX6_readProduct 65 = .ok (.invokevirtual 52, 3) := by decide +kernel
theorem dX6_readProduct_68 : decode cX6_readProduct 68 = .ok (.iinc 2 1, 3) := by decide +kernel
theorem dX6_readProduct_71 : decode cX6_readProduct 71 = .ok (.goto (-64), 3) := by decide +kernel
theorem dX6_readProduct_74 : decode cX6_readProduct 74 = .ok (.return_, 1) := by decide +kernel
theorem dX6_readFactor_0 : decode cX6_readFactor 0 = .ok (.aload_n 0, 1) := by decide +kernel
theorem dX6_readFactor_1 : decode cX6_readFactor 1 = .ok (.invokevirtual 46, 3) := by decide +kernel
theorem dX6_readFactor_4 : decode cX6_readFactor 4 = .ok (.istore_n 2, 1) := by decide +kernel
theorem dX6_readFactor_5 : decode cX6_readFactor 5 = .ok (.iload_n 1, 1) := by decide +kernel
theorem dX6_readFactor_6 : decode cX6_readFactor 6 = .ok (.bipush 6, 2) := by decide +kernel
theorem dX6_readFactor_8 : decode cX6_readFactor 8 = .ok (.if_icmp .lt 35, 3) := by decide +kernel
theorem dX6_readFactor_11 : decode cX6_readFactor 11 = .ok (.iload_n 2, 1) := by decide +kernel
theorem dX6_readFactor_12 : decode cX6_readFactor 12 = .ok (.bipush 45, 2) := by decide +kernel
theorem dX6_readFactor_14 : decode cX6_readFactor 14 = .ok (.if_icmp .eq 21, 3) := by decide +kernel
theorem dX6_readFactor_17 : decode cX6_readFactor 17 = .ok (.iload_n 2, 1) := by decide +kernel
theorem dX6_readFactor_18 : decode cX6_readFactor 18 = .ok (.bipush 40, 2) := by decide +kernel
theorem dX6_readFactor_20 : decode cX6_readFactor 20 = .ok (.if_icmp .eq 15, 3) := by decide +kernel
theorem dX6_readFactor_23 : decode cX6_readFactor 23 = .ok (.iload_n 2, 1) := by decide +kernel
theorem dX6_readFactor_24 : decode cX6_readFactor 24 = .ok (.bipush 83, 2) := by decide +kernel
theorem dX6_readFactor_26 : decode cX6_readFactor 26 = .ok (.if_icmp .eq 9, 3) := by decide +kernel
theorem dX6_readFactor_29 : decode cX6_readFactor 29 = .ok (.iload_n 2, 1) := by decide +kernel
theorem dX6_readFactor_30 : decode cX6_readFactor 30 = .ok (.bipush 77, 2) := by decide +kernel
theorem dX6_readFactor_32 : decode cX6_readFactor 32 = .ok (.if_icmp .ne 11, 3) := by decide +kernel
theorem dX6_readFactor_35 : decode cX6_readFactor 35 = .ok (.aload_n 0, 1) := by decide +kernel
theorem dX6_readFactor_36 : decode cX6_readFactor 36 = .ok (.iconst 2, 1) := by decide +kernel
theorem dX6_readFactor_37 : decode cX6_readFactor 37 = .ok (.invokevirtual 32, 3) := by decide +kernel
theorem dX6_readFactor_40 : decode cX6_readFactor 40 = .ok (.goto 95, 3) := by decide +kernel
theorem dX6_readFactor_43 : decode cX6_readFactor 43 = .ok (.iload_n 2, 1) := by decide +kernel
theorem dX6_readFactor_44 : decode cX6_readFactor 44 = .ok (.bipush 45, 2) := by decide +kernel
theorem dX6_readFactor_46 : decode cX6_readFactor 46 = .ok (.if_icmp .ne 13, 3) := by decide +kernel
theorem dX6_readFactor_49 : decode cX6_readFactor 49 = .ok (.aload_n 0, 1) := by decide +kernel
theorem dX6_readFactor_50 : decode cX6_readFactor 50 = .ok (.iload_n 1, 1) := by decide +kernel
theorem dX6_readFactor_51 : decode cX6_readFactor 51 = .ok (.iconst 1, 1) := by decide +kernel
theorem dX6_readFactor_52 : decode cX6_readFactor 52 = .ok (.iadd, 1) := by decide +kernel
theorem dX6_readFactor_53 : decode cX6_readFactor 53 = .ok (.invokevirtual 59, 3) := by decide +kernel
theorem dX6_readFactor_56 : decode cX6_readFactor 56 = .ok (.goto 79, 3) := by decide +kernel
theorem dX6_readFactor_59 : decode cX6_readFactor 59 = .ok (.iload_n 2, 1) := by decide +kernel
theorem dX6_readFactor_60 : decode cX6_readFactor 60 = .ok (.bipush 40, 2) := by decide +kernel
theorem dX6_readFactor_62 : decode cX6_readFactor 62 = .ok (.if_icmp .ne 25, 3) := by decide +kernel
theorem dX6_readFactor_65 : decode cX6_readFactor 65 = .ok (.aload_n 0, 1) := by decide +kernel
theorem dX6_readFactor_66 : decode cX6_readFactor 66 = .ok (.bipush 40, 2) := by decide +kernel
theorem dX6_readFactor_68 : decode cX6_readFactor 68 = .ok (.invokevirtual 15, 3) := by decide +kernel
theorem dX6_readFactor_71 : decode cX6_readFactor 71 = .ok (.aload_n 0, 1) := by decide +kernel
theorem dX6_readFactor_72 : decode cX6_readFactor 72 = .ok (.iload_n 1, 1) := by decide +kernel
theorem dX6_readFactor_73 : decode cX6_readFactor 73 = .ok (.iconst 1, 1) := by decide +kernel
theorem dX6_readFactor_74 : decode cX6_readFactor 74 = .ok (.iadd, 1) := by decide +kernel
theorem dX6_readFactor_75 : decode cX6_readFactor 75 = .ok (.invokevirtual 19, 3) := by decide +kernel
theorem dX6_readFactor_78 : decode cX6_readFactor 78 = .ok (.aload_n 0, 1) := by decide +kernel
theorem dX6_readFactor_79 : decode cX6_readFactor 79 = .ok (.bipush 41, 2) := by decide +kernel
theorem dX6_readFactor_81 : decode cX6_readFactor 81 = .ok (.invokevirtual 15, 3) := by decide +kernel
theorem dX6_readFactor_84 : decode cX6_readFactor 84 = .ok (.goto 51, 3) := by decide +kernel
theorem dX6_readFactor_87 : decode cX6_readFactor 87 = .ok (.iload_n 2, 1) := by decide +kernel
theorem dX6_readFactor_88 : decode cX6_readFactor 88 = .ok (.bipush 83, 2) := by decide +kernel
theorem dX6_readFactor_90 : decode cX6_readFactor 90 = .ok (.if_icmp .ne 10, 3) := by decide +kernel
theorem dX6_readFactor_93 : decode cX6_readFactor 93 = .ok (.aload_n 0, 1) := by decide +kernel
theorem dX6_readFactor_94 : decode cX6_readFactor 94 = .ok (.invokevirtual 62, 3) := by decide +kernel
theorem dX6_readFactor_97 : decode cX6_readFactor 97 = .ok (.goto 38, 3) := by decide +kernel
theorem dX6_readFactor_100 : decode cX6_readFactor 100 = .ok (.iload_n 2, 1) := by decide +kernel
theorem dX6_readFactor_101 : decode cX6_readFactor 101 = .ok (.bipush 77, 2) := by decide +kernel
theorem dX6_readFactor_103 : decode cX6_readFactor 103 = .ok (.if_icmp .ne 13, 3) := by decide +kernel
theorem dX6_readFactor_106 : decode cX6_readFactor 106 = .ok (.aload_n 0, 1) := by decide +kernel
theorem dX6_readFactor_107 : decode cX6_readFactor 107 = .ok (.iload_n 1, 1) := by decide +kernel
theorem dX6_readFactor_108 : decode cX6_readFactor 108 = .ok (.iconst 1, 1) := by decide +kernel
theorem dX6_readFactor_109 : decode cX6_readFactor 109 = .ok (.iadd, 1) := by decide +kernel
theorem dX6_readFactor_110 : decode cX6_readFactor 110 = .ok (.invokevirtual 65, 3) := by decide +kernel
theorem dX6_readFactor_113 : decode cX6_readFactor 113 = .ok (.goto 22, 3) := by decide +kernel
theorem dX6_readFactor_116 : decode cX6_readFactor 116 = .ok (.iload_n 2, 1) := by decide +kernel
theorem dX6_readFactor_117 : decode cX6_readFactor 117 = .ok (.invokestatic 68, 3) := by decide +kernel
theorem dX6_readFactor_120 : decode cX6_readFactor 120 = .ok (.ifCond .eq 10, 3) := by decide +kernel
theorem dX6_readFactor_123 : decode cX6_readFactor 123 = .ok (.aload_n 0, 1) := by decide +kernel
theorem dX6_readFactor_124 : decode cX6_readFactor 124 = .ok (.invokevirtual 72, 3) := by decide +kernel
theorem dX6_readFactor_127 : decode cX6_readFactor 127 = .ok (.goto 8, 3) := by decide +kernel
theorem dX6_readFactor_130 : decode cX6_readFactor 130 = .ok (.aload_n 0, 1) := by decide +kernel
theorem dX6_readFactor_131 : decode cX6_readFactor 131 = .ok (.iconst 2, 1) := by decide +kernel
theorem dX6_readFactor_132 : decode cX6_readFactor 132 = .ok (.invokevirtual 75, 3) := by decide +kernel
theorem dX6_readFactor_135 : decode cX6_readFactor 135 = .ok (.return_, 1) := by decide +kernel
theorem dX6_readNegative_0 : decode cX6_readNegative 0 = .ok (.aload_n 0, 1) := by decide +kernel
theorem dX6_readNegative_1 : decode cX6_readNegative 1 = .ok (.getfield 22, 3) := by decide +kernel
theorem dX6_readNegative_4 : decode cX6_readNegative 4 = .ok (.istore_n 2, 1) := by decide +kernel
theorem dX6_readNegative_5 : decode cX6_readNegative 5 = .ok (.aload_n 0, 1) := by decide +kernel
theorem dX6_readNegative_6 : decode cX6_readNegative 6 = .ok (.bipush 45, 2) := by decide +kernel
theorem dX6_readNegative_8 : decode cX6_readNegative 8 = .ok (.invokevirtual 15, 3) := by decide +kernel
theorem dX6_readNegative_11 : decode cX6_readNegative 11 = .ok (.aload_n 0, 1) := by decide +kernel
theorem dX6_readNegative_12 : decode cX6_readNegative 12 = .ok (.iload_n 1, 1) := by decide +kernel
theorem dX6_readNegative_13 : decode cX6_readNegative 13 = .ok (.invokevirtual 56, 3) := by decide +kernel
theorem dX6_readNegative_16 : decode cX6_readNegative 16 = .ok (.aload_n 0, 1) := by decide +kernel
theorem dX6_readNegative_17 : decode cX6_readNegative 17 = .ok (.getfield 9, 3) := by decide +kernel
theorem dX6_readNegative_20 : decode cX6_readNegative 20 = .ok (.iload_n 2, 1) := by decide +kernel
theorem dX6_readNegative_21 : decode cX6_readNegative 21 = .ok (.iconst 4, 1) := by decide +kernel
theorem dX6_readNegative_22 : decode cX6_readNegative 22 = .ok (.iconst 0, 1) := by decide +kernel
theorem dX6_readNegative_23 : decode cX6_readNegative 23 = .ok (.invokevirtual 52, 3) := by decide +kernel
theorem dX6_readNegative_26 : decode cX6_readNegative 26 = .ok (.return_, 1) := by decide +kernel
theorem dX6_readGreater_0 : decode cX6_readGreater 0 = .ok (.aload_n 0, 1) := by decide +kernel
theorem dX6_readGreater_1 : decode cX6_readGreater 1 = .ok (.getfield 22, 3) := by decide +kernel
theorem dX6_readGreater_4 : decode cX6_readGreater 4 = .ok (.istore_n 2, 1) := by decide +kernel
theorem dX6_readGreater_5 : decode cX6_readGreater 5 = .ok (.aload_n 0, 1) := by decide +kernel
theorem dX6_readGreater_6 : decode cX6_readGreater 6 = .ok (.bipush 77, 2) := by decide +kernel
theorem dX6_readGreater_8 : decode cX6_readGreater 8 = .ok (.invokevirtual 15, 3) := by decide +kernel
theorem dX6_readGreater_11 : decode cX6_readGreater 11 = .ok (.aload_n 0, 1) := by decide +kernel
theorem dX6_readGreater_12 : decode cX6_readGreater 12 = .ok (.bipush 40, 2) := by decide +kernel
theorem dX6_readGreater_14 : decode cX6_readGreater 14 = .ok (.invokevirtual 15, 3) := by decide +kernel
theorem dX6_readGreater_17 : decode cX6_readGreater 17 = .ok (.aload_n 0, 1) := by decide +kernel
theorem dX6_readGreater_18 : decode cX6_readGreater 18 = .ok (.iload_n 1, 1) := by decide +kernel
theorem dX6_readGreater_19 : decode cX6_readGreater 19 = .ok (.invokevirtual 19, 3) := by decide +kernel
theorem dX6_readGreater_22 : decode cX6_readGreater 22 = .ok (.aload_n 0, 1) := by decide +kernel
theorem dX6_readGreater_23 : decode cX6_readGreater 23 = .ok (.bipush 44, 2) := by decide +kernel
theorem dX6_readGreater_25 : decode cX6_readGreater 25 = .ok (.invokevirtual 15, 3) := by decide +kernel
theorem dX6_readGreater_28 : decode cX6_readGreater 28 = .ok (.aload_n 0, 1) := by decide +kernel
theorem dX6_readGreater_29 : decode cX6_readGreater 29 = .ok (.iload_n 1, 1) := by decide +kernel
theorem dX6_readGreater_30 : decode cX6_readGreater 30 = .ok (.invokevirtual 19, 3) := by decide +kernel
theorem dX6_readGreater_33 : decode cX6_readGreater 33 = .ok (.aload_n 0, 1) := by decide +kernel
theorem dX6_readGreater_34 : decode cX6_readGreater 34 = .ok (.bipush 41, 2) := by decide +kernel
theorem dX6_readGreater_36 : decode cX6_readGreater 36 = .ok (.invokevirtual 15, 3) := by decide +kernel
theorem dX6_readGreater_39 : decode cX6_readGreater 39 = .ok (.aload_n 0, 1) := by decide +kernel
theorem dX6_readGreater_40 : decode cX6_readGreater 40 = .ok (.getfield 9, 3) := by decide +kernel
theorem dX6_readGreater_43 : decode cX6_readGreater 43 = .ok (.iload_n 2, 1) := by decide +kernel
theorem dX6_readGreater_44 : decode cX6_readGreater 44 = .ok (.bipush 6, 2) := by decide +kernel
theorem dX6_readGreater_46 : decode cX6_readGreater 46 = .ok (.iconst 0, 1) := by decide +kernel
theorem dX6_readGreater_47 : decode cX6_readGreater 47 = .ok (.invokevirtual 52, 3) := by decide +kernel
theorem dX6_readGreater_50 : decode cX6_readGreater 50 = .ok (.return_, 1) := by decide +kernel
theorem dX6_readRectangle_0 : decode cX6_readRectangle 0 = .ok (.aload_n 0, 1) := by decide +kernel
theorem dX6_readRectangle_1 : decode cX6_readRectangle 1 = .ok (.getfield 22, 3) := by decide +kernel
theorem dX6_readRectangle_4 : decode cX6_readRectangle 4 = .ok (.istore_n 1, 1) := by decide +kernel
theorem dX6_readRectangle_5 : decode cX6_readRectangle 5 = .ok (.aload_n 0, 1) := by decide +kernel
theorem dX6_readRectangle_6 : decode cX6_readRectangle 6 = .ok (.bipush 83, 2) := by decide +kernel
theorem dX6_readRectangle_8 : decode cX6_readRectangle 8 = .ok (.invokevirtual 15, 3) := by decide +kernel
theorem dX6_readRectangle_11 : decode cX6_readRectangle 11 = .ok (.aload_n 0, 1) := by decide +kernel
theorem dX6_readRectangle_12 : decode cX6_readRectangle 12 = .ok (.bipush 40, 2) := by decide +kernel
theorem dX6_readRectangle_14 : decode cX6_readRectangle 14 = .ok (.invokevirtual 15, 3) := by decide +kernel
theorem dX6_readRectangle_17 : decode cX6_readRectangle 17 = .ok (.aload_n 0, 1) := by decide +kernel
theorem dX6_readRectangle_18 : decode cX6_readRectangle 18 = .ok (.iconst 3, 1) := by decide +kernel
theorem dX6_readRectangle_19 : decode cX6_readRectangle 19 = .ok (.invokevirtual 75, 3) := by decide +kernel
theorem dX6_readRectangle_22 : decode cX6_readRectangle 22 = .ok (.aload_n 0, 1) := by decide +kernel
theorem dX6_readRectangle_23 : decode cX6_readRectangle 23 = .ok (.bipush 58, 2) := by decide +kernel
theorem dX6_readRectangle_25 : decode cX6_readRectangle 25 = .ok (.invokevirtual 15, 3) := by decide +kernel
theorem dX6_readRectangle_28 : decode cX6_readRectangle 28 = .ok (.aload_n 0, 1) := by decide +kernel
theorem dX6_readRectangle_29 : decode cX6_readRectangle 29 = .ok (.iconst 3, 1) := by decide +kernel
theorem dX6_readRectangle_30 : decode cX6_readRectangle 30 = .ok (.invokevirtual 75, 3) := by decide +kernel
theorem dX6_readRectangle_33 : decode cX6_readRectangle 33 = .ok (.aload_n 0, 1) := by decide +kernel
theorem dX6_readRectangle_34 : decode cX6_readRectangle 34 = .ok (.bipush 41, 2) := by decide +kernel
theorem dX6_readRectangle_36 : decode cX6_readRectangle 36 = .ok (.invokevirtual 15, 3) := by decide +kernel
theorem dX6_readRectangle_39 : decode cX6_readRectangle 39 = .ok (.aload_n 0, 1) := by decide +kernel
theorem dX6_readRectangle_40 : decode cX6_readRectangle 40 = .ok (.getfield 9, 3) := by decide +kernel
theorem dX6_readRectangle_43 : decode cX6_readRectangle 43 = .ok (.iload_n 1, 1) := by decide +kernel
theorem dX6_readRectangle_44 : decode cX6_readRectangle 44 = .ok (.iconst 5, 1) := by decide +kernel
theorem dX6_readRectangle_45 : decode cX6_readRectangle 45 = .ok (.iconst 0, 1) := by decide +kernel
theorem dX6_readRectangle_46 : decode cX6_readRectangle 46 = .ok (.invokevirtual 52, 3) := by decide +kernel
theorem dX6_readRectangle_49 : decode cX6_readRectangle 49 = .ok (.return_, 1) := by decide +kernel
theorem dX6_readNumber_0 : decode cX6_readNumber 0 = .ok (.aload_n 0, 1) := by decide +kernel
theorem dX6_readNumber_1 : decode cX6_readNumber 1 = .ok (.getfield 22, 3) := by decide +kernel
theorem dX6_readNumber_4 : decode cX6_readNumber 4 = .ok (.istore_n 1, 1) := by decide +kernel
theorem dX6_readNumber_5 : decode cX6_readNumber 5 = .ok (.iconst 0, 1) := by decide +kernel
theorem dX6_readNumber_6 : decode cX6_readNumber 6 = .ok (.istore_n 2, 1) := by decide +kernel
theorem dX6_readNumber_7 : decode cX6_readNumber 7 = .ok (.iconst 0, 1) := by decide +kernel
theorem dX6_readNumber_8 : decode cX6_readNumber 8 = .ok (.istore_n 3, 1) := by decide +kernel
theorem dX6_readNumber_9 : decode cX6_readNumber 9 = .ok (.iload_n 3, 1) := by decide +kernel
theorem dX6_readNumber_10 : decode cX6_readNumber 10 = .ok (.iconst 4, 1) := by decide +kernel
theorem dX6_readNumber_11 : decode cX6_readNumber 11 = .ok (.if_icmp .ge 42, 3) := by decide +kernel
theorem dX6_readNumber_14 : decode cX6_readNumber 14 = .ok (.aload_n 0, 1) := by decide +kernel
theorem dX6_readNumber_15 : decode cX6_readNumber 15 = .ok (.invokevirtual 46, 3) := by decide +kernel
theorem dX6_readNumber_18 : decode cX6_readNumber 18 = .ok (.invokestatic 68, 3) := by decide +kernel
theorem dX6_readNumber_21 : decode cX6_readNumber 21 = .ok (.ifCond .eq 32, 3) := by decide +kernel
theorem dX6_readNumber_24 : decode cX6_readNumber 24 = .ok (.bipush 10, 2) := by decide +kernel
theorem dX6_readNumber_26 : decode cX6_readNumber 26 = .ok (.iload_n 2, 1) := by decide +kernel
theorem dX6_readNumber_27 : decode cX6_readNumber 27 = .ok (.imul, 1) := by decide +kernel
theorem dX6_readNumber_28 : decode cX6_readNumber 28 = .ok (.aload_n 0, 1) := by decide +kernel
theorem dX6_readNumber_29 : decode cX6_readNumber 29 = .ok (.invokevirtual 46, 3) := by decide +kernel
theorem dX6_readNumber_32 : decode cX6_readNumber 32 = .ok (.iadd, 1) := by decide +kernel
theorem dX6_readNumber_33 : decode cX6_readNumber 33 = .ok (.bipush 48, 2) := by decide +kernel
theorem dX6_readNumber_35 : decode cX6_readNumber 35 = .ok (.isub, 1) := by decide +kernel
theorem dX6_readNumber_36 : decode cX6_readNumber 36 = .ok (.istore_n 2, 1) := by decide +kernel
theorem dX6_readNumber_37 : decode cX6_readNumber 37 = .ok (.aload_n 0, 1) := by decide +kernel
theorem dX6_readNumber_38 : decode cX6_readNumber 38 = .ok (.dup, 1) := by decide +kernel
theorem dX6_readNumber_39 : decode cX6_readNumber 39 = .ok (.getfield 22, 3) := by decide +kernel
theorem dX6_readNumber_42 : decode cX6_readNumber 42 = .ok (.iconst 1, 1) := by decide +kernel
theorem dX6_readNumber_43 : decode cX6_readNumber 43 = .ok (.iadd, 1) := by decide +kernel
theorem dX6_readNumber_44 : decode cX6_readNumber 44 = .ok (.putfield 22, 3) := by decide +kernel
theorem dX6_readNumber_47 : decode cX6_readNumber 47 = .ok (.iinc 3 1, 3) := by decide +kernel
theorem dX6_readNumber_50 : decode cX6_readNumber 50 = .ok (.goto (-41), 3) := by decide +kernel
theorem dX6_readNumber_53 : decode cX6_readNumber 53 = .ok (.aload_n 0, 1) := by decide +kernel
theorem dX6_readNumber_54 : decode cX6_readNumber 54 = .ok (.getfield 9, 3) := by decide +kernel
theorem dX6_readNumber_57 : decode cX6_readNumber 57 = .ok (.iload_n 1, 1) := by decide +kernel
theorem dX6_readNumber_58 : decode cX6_readNumber 58 = .ok (.iconst 1, 1) := by decide +kernel
theorem dX6_readNumber_59 : decode cX6_readNumber 59 = .ok (.iload_n 2, 1) := by decide +kernel
theorem dX6_readNumber_60 : decode cX6_readNumber 60 = .ok (.invokevirtual 52, 3) := by decide +kernel
theorem dX6_readNumber_63 : decode cX6_readNumber 63 = .ok (.return_, 1) := by decide +kernel
theorem dX6_readCell_0 : decode cX6_readCell 0 = .ok (.aload_n 0, 1) := by decide +kernel
theorem dX6_readCell_1 : decode cX6_readCell 1 = .ok (.getfield 22, 3) := by decide +kernel
theorem dX6_readCell_4 : decode cX6_readCell 4 = .ok (.istore_n 2, 1) := by decide +kernel
theorem dX6_readCell_5 : decode cX6_readCell 5 = .ok (.aload_n 0, 1) := by decide +kernel
theorem dX6_readCell_6 : decode cX6_readCell 6 = .ok (.bipush 65, 2) := by decide +kernel
theorem dX6_readCell_8 : decode cX6_readCell 8 = .ok (.bipush 72, 2) := by decide +kernel
theorem dX6_readCell_10 : decode cX6_readCell 10 = .ok (.invokevirtual 42, 3) := by decide +kernel
theorem dX6_readCell_13 : decode cX6_readCell 13 = .ok (.bipush 65, 2) := by decide +kernel
theorem dX6_readCell_15 : decode cX6_readCell 15 = .ok (.isub, 1) := by decide +kernel
theorem dX6_readCell_16 : decode cX6_readCell 16 = .ok (.istore_n 3, 1) := by decide +kernel
theorem dX6_readCell_17 : decode cX6_readCell 17 = .ok (.aload_n 0, 1) := by decide +kernel
theorem dX6_readCell_18 : decode cX6_readCell 18 = .ok (.bipush 49, 2) := by decide +kernel
theorem dX6_readCell_20 : decode cX6_readCell 20 = .ok (.bipush 56, 2) := by decide +kernel
theorem dX6_readCell_22 : decode cX6_readCell 22 = .ok (.invokevirtual 42, 3) := by decide +kernel
theorem dX6_readCell_25 : decode cX6_readCell 25 = .ok (.bipush 49, 2) := by decide +kernel
theorem dX6_readCell_27 : decode cX6_readCell 27 = .ok (.isub, 1) := by decide +kernel
theorem dX6_readCell_28 : decode cX6_readCell 28 = .ok (.istore 4, 2) := by decide +kernel
theorem dX6_readCell_30 : decode cX6_readCell 30 = .ok (.aload_n 0, 1) := by decide +kernel
theorem dX6_readCell_31 : decode cX6_readCell 31 = .ok (.getfield 9, 3) := by decide +kernel
theorem dX6_readCell_34 : decode cX6_readCell 34 = .ok (.iload_n 2, 1) := by decide +kernel
theorem dX6_readCell_35 : decode cX6_readCell 35 = .ok (.iload_n 1, 1) := by decide +kernel
theorem dX6_readCell_36 : decode cX6_readCell 36 = .ok (.bipush 8, 2) := by decide +kernel
theorem dX6_readCell_38 : decode cX6_readCell 38 = .ok (.iload 4, 2) := by decide +kernel
theorem dX6_readCell_40 : decode cX6_readCell 40 = .ok (.imul, 1) := by decide +kernel
theorem dX6_readCell_41 : decode cX6_readCell 41 = .ok (.iload_n 3, 1) := by decide +kernel
theorem dX6_readCell_42 : decode cX6_readCell 42 = .ok (.iadd, 1) := by decide +kernel
theorem dX6_readCell_43 : decode cX6_readCell 43 = .ok (.invokevirtual 52, 3) := by decide +kernel
theorem dX6_readCell_46 : decode cX6_readCell 46 = .ok (.return_, 1) := by decide +kernel
theorem dX6_isDigit_0 : decode cX6_isDigit 0 = .ok (.iload_n 0, 1) := by decide +kernel
theorem dX6_isDigit_1 : decode cX6_isDigit 1 = .ok (.bipush 48, 2) := by decide +kernel
theorem dX6_isDigit_3 : decode cX6_isDigit 3 = .ok (.if_icmp .lt 13, 3) := by decide +kernel
theorem dX6_isDigit_6 : decode cX6_isDigit 6 = .ok (.iload_n 0, 1) := by decide +kernel
theorem dX6_isDigit_7 : decode cX6_isDigit 7 = .ok (.bipush 57, 2) := by decide +kernel
theorem dX6_isDigit_9 : decode cX6_isDigit 9 = .ok (.if_icmp .gt 7, 3) := by decide +kernel
theorem dX6_isDigit_12 : decode cX6_isDigit 12 = .ok (.iconst 1, 1) := by decide +kernel
theorem dX6_isDigit_13 : decode cX6_isDigit 13 = .ok (.goto 4, 3) := by decide +kernel
theorem dX6_isDigit_16 : decode cX6_isDigit 16 = .ok (.iconst 0, 1) := by decide +kernel
theorem dX6_isDigit_17 : decode cX6_isDigit 17 = .ok (.ireturn, 1) := by decide +kernel
theorem dX7_init_0 : decode cX7_init 0 = .ok (.aload_n 0, 1) := by decide +kernel
theorem dX7_init_1 : decode cX7_init 1 = .ok (.invokespecial 3, 3) := by decide +kernel
theorem dX7_init_4 : decode cX7_init 4 = .ok (.aload_n 0, 1) := by decide +kernel
theorem dX7_init_5 : decode cX7_init 5 = .ok (.new 9, 3) := by decide +kernel
theorem dX7_init_8 : decode cX7_init 8 = .ok (.dup, 1) := by decide +kernel
theorem dX7_init_9 : decode cX7_init 9 = .ok (.invokespecial 11, 3) := by decide +kernel
theorem dX7_init_12 : decode cX7_init 12 = .ok (.putfield 12, 3) := by decide +kernel
theorem dX7_init_15 : decode cX7_init 15 = .ok (.aload_n 0, 1) := by decide +kernel
theorem dX7_init_16 : decode cX7_init 16 = .ok (.bipush 64, 2) := by decide +kernel
theorem dX7_init_18 : decode cX7_init 18 = .ok (.newarray .int, 2) := by decide +kernel
theorem dX7_init_20 : decode cX7_init 20 = .ok (.putfield 18, 3) := by decide +kernel
theorem dX7_init_23 : decode cX7_init 23 = .ok (.aload_n 0, 1) := by decide +kernel
theorem dX7_init_24 : decode cX7_init 24 = .ok (.bipush 64, 2) := by decide +kernel
theorem dX7_init_26 : decode cX7_init 26 = .ok (.newarray .int, 2) := by decide +kernel
theorem dX7_init_28 : decode cX7_init 28 = .ok (.putfield 22, 3) := by decide +kernel
theorem dX7_init_31 : decode cX7_init 31 = .ok (.aload_n 0, 1) := by decide +kernel
theorem dX7_init_32 : decode cX7_init 32 = .ok (.bipush 64, 2) := by decide +kernel
theorem dX7_init_34 : decode cX7_init 34 = .ok (.anewarray 25, 3) := by decide +kernel
theorem dX7_init_37 : decode cX7_init 37 = .ok (.putfield 27, 3) := by decide +kernel
theorem dX7_init_40 : decode cX7_init 40 = .ok (.aload_n 0, 1) := by decide +kernel
theorem dX7_init_41 : decode cX7_init 41 = .ok (.bipush 64, 2) := by decide +kernel
theorem dX7_init_43 : decode cX7_init 43 = .ok (.newarray .long, 2) := by decide +kernel
theorem dX7_init_45 : decode cX7_init 45 = .ok (.putfield 31, 3) := by decide +kernel
theorem dX7_init_48 : decode cX7_init 48 = .ok (.return_, 1) := by decide +kernel
theorem dX7_empty_0 : decode cX7_empty 0 = .ok (.aload_n 0, 1) := by decide +kernel
theorem dX7_empty_1 : decode cX7_empty 1 = .ok (.iload_n 1, 1) := by decide +kernel
theorem dX7_empty_2 : decode cX7_empty 2 = .ok (.iconst 0, 1) := by decide +kernel
theorem dX7_empty_3 : decode cX7_empty 3 = .ok (.iconst 0, 1) := by decide +kernel
theorem dX7_empty_4 : decode cX7_empty 4 = .ok (.aconst_null, 1) := by decide +kernel
theorem dX7_empty_5 : decode cX7_empty 5 = .ok (.lconst 0, 1) := by decide +kernel
theorem dX7_empty_6 : decode cX7_empty 6 = .ok (.invokevirtual 35, 3) := by decide +kernel
theorem dX7_empty_9 : decode cX7_empty 9 = .ok (.return_, 1) := by decide +kernel
theorem dX7_putNumber_0 : decode cX7_putNumber 0 = .ok (.aload_n 0, 1) := by decide +kernel
theorem dX7_putNumber_1 : decode cX7_putNumber 1 = .ok (.iload_n 1, 1) := by decide +kernel
theorem dX7_putNumber_2 : decode cX7_putNumber 2 = .ok (.iconst 1, 1) := by decide +kernel
theorem dX7_putNumber_3 : decode cX7_putNumber 3 = .ok (.iload_n 2, 1) := by decide +kernel
theorem dX7_putNumber_4 : decode cX7_putNumber 4 = .ok (.aconst_null, 1) := by decide +kernel
theorem dX7_putNumber_5 : decode cX7_putNumber 5 = .ok (.lconst 0, 1) := by decide +kernel
theorem dX7_putNumber_6 : decode cX7_putNumber 6 = .ok (.invokevirtual 35, 3) := by decide +kernel
theorem dX7_putNumber_9 : decode cX7_putNumber 9 = .ok (.return_, 1) := by decide +kernel
theorem dX7_putFormula_0 : decode cX7_putFormula 0 = .ok (.aload_n 0, 1) := by decide +kernel
theorem dX7_putFormula_1 : decode cX7_putFormula 1 = .ok (.iload_n 1, 1) := by decide +kernel
theorem dX7_putFormula_2 : decode cX7_putFormula 2 = .ok (.iconst 2, 1) := by decide +kernel
theorem dX7_putFormula_3 : decode cX7_putFormula 3 = .ok (.iconst 0, 1) := by decide +kernel
theorem dX7_putFormula_4 : decode cX7_putFormula 4 = .ok (.aload_n 2, 1) := by decide +kernel
theorem dX7_putFormula_5 : decode cX7_putFormula 5 = .ok (.aload_n 2, 1) := by decide +kernel
theorem dX7_putFormula_6 : decode cX7_putFormula 6 = .ok (.aload_n 0, 1) := by decide +kernel
theorem dX7_putFormula_7 : decode cX7_putFormula 7 = .ok (.getfield 12, 3) := by decide +kernel
theorem dX7_putFormula_10 : decode cX7_putFormula 10 = .ok (.invokevirtual 39, 3) := by decide +kernel
theorem dX7_putFormula_13 : decode cX7_putFormula 13 = .ok (.invokevirtual 35, 3) := by decide +kernel
theorem dX7_putFormula_16 : decode cX7_putFormula 16 = .ok (.return_, 1) := by decide +kernel
theorem dX7_put_0 : decode cX7_put 0 = .ok (.iload_n 1, 1) := by decide +kernel
theorem dX7_put_1 : decode cX7_put 1 = .ok (.invokestatic 42, 3) := by decide +kernel
theorem dX7_put_4 : decode cX7_put 4 = .ok (.ifCond .eq 67, 3) := by decide +kernel
theorem dX7_put_7 : decode cX7_put 7 = .ok (.aload_n 0, 1) := by decide +kernel
theorem dX7_put_8 : decode cX7_put 8 = .ok (.getfield 18, 3) := by decide +kernel
theorem dX7_put_11 : decode cX7_put 11 = .ok (.iload_n 1, 1) := by decide +kernel
theorem dX7_put_12 : decode cX7_put 12 = .ok (.iload_n 2, 1) := by decide +kernel
theorem dX7_put_13 : decode cX7_put 13 = .ok (.iastore, 1) := by decide +kernel
theorem dX7_put_14 : decode cX7_put 14 = .ok (.aload_n 0, 1) := by decide +kernel
theorem dX7_put_15 : decode cX7_put 15 = .ok (.getfield 22, 3) := by decide +kernel
theorem dX7_put_18 : decode cX7_put 18 = .ok (.iload_n 1, 1) := by decide +kernel
theorem dX7_put_19 : decode cX7_put 19 = .ok (.iload_n 3, 1) := by decide +kernel
theorem dX7_put_20 : decode cX7_put 20 = .ok (.iastore, 1) := by decide +kernel
theorem dX7_put_21 : decode cX7_put 21 = .ok (.aload_n 0, 1) := by decide +kernel
theorem dX7_put_22 : decode cX7_put 22 = .ok (.getfield 27, 3) := by decide +kernel
theorem dX7_put_25 : decode cX7_put 25 = .ok (.iload_n 1, 1) := by decide +kernel
theorem dX7_put_26 : decode cX7_put 26 = .ok (.aload 4, 2) := by decide +kernel
theorem dX7_put_28 : decode cX7_put 28 = .ok (.aastore, 1) := by decide +kernel
theorem dX7_put_29 : decode cX7_put 29 = .ok (.aload_n 0, 1) := by decide +kernel
theorem dX7_put_30 : decode cX7_put 30 = .ok (.getfield 31, 3) := by decide +kernel
theorem dX7_put_33 : decode cX7_put 33 = .ok (.iload_n 1, 1) := by decide +kernel
theorem dX7_put_34 : decode cX7_put 34 = .ok (.lload 5, 2) := by decide +kernel
theorem dX7_put_36 : decode cX7_put 36 = .ok (.lastore, 1) := by decide +kernel
theorem dX7_put_37 : decode cX7_put 37 = .ok (.aload_n 0, 1) := by decide +kernel
theorem dX7_put_38 : decode cX7_put 38 = .ok (.iload_n 2, 1) := by decide +kernel
theorem dX7_put_39 : decode cX7_put 39 = .ok (.iconst 2, 1) := by decide +kernel
theorem dX7_put_40 : decode cX7_put 40 = .ok (.if_icmp .ne 15, 3) := by decide +kernel
theorem dX7_put_43 : decode cX7_put 43 = .ok (.aload_n 0, 1) := by decide +kernel
theorem dX7_put_44 : decode cX7_put 44 = .ok (.getfield 46, 3) := by decide +kernel
theorem dX7_put_47 : decode cX7_put 47 = .ok (.iload_n 1, 1) := by decide +kernel
theorem dX7_put_48 : decode cX7_put 48 = .ok (.invokestatic 50, 3) := by decide +kernel
theorem dX7_put_51 : decode cX7_put 51 = .ok (.lor, 1) := by decide +kernel
theorem dX7_put_52 : decode cX7_put 52 = .ok (.goto 16, 3) := by decide +kernel
theorem dX7_put_55 : decode cX7_put 55 = .ok (.aload_n 0, 1) := by decide +kernel
theorem dX7_put_56 : decode cX7_put 56 = .ok (.getfield 46, 3) := by decide +kernel
theorem dX7_put_59 : decode cX7_put 59 = .ok (.iload_n 1, 1) := by decide +kernel
theorem dX7_put_60 : decode cX7_put 60 = .ok (.invokestatic 50, 3) := by decide +kernel
theorem dX7_put_63 : decode cX7_put 63 = .ok (.ldc2_w 54, 3) := by decide +kernel
theorem dX7_put_66 : decode cX7_put 66 = .ok (.lxor, 1) := by decide +kernel
theorem dX7_put_67 : decode cX7_put 67 = .ok (.land, 1) := by decide +kernel
theorem dX7_put_68 : decode cX7_put 68 = .ok (.putfield 46, 3) := by decide +kernel
theorem dX7_put_71 : decode cX7_put 71 = .ok (.return_, 1) := by decide +kernel
theorem dX7_reckoned_0 : decode cX7_reckoned 0 = .ok (.aload_n 0, 1) := by decide +kernel
theorem dX7_reckoned_1 : decode cX7_reckoned 1 = .ok (.getfield 46, 3) := by decide +kernel
theorem dX7_reckoned_4 : decode cX7_reckoned 4 = .ok (.lreturn, 1) := by decide +kernel
theorem dX7_heldAt_0 : decode cX7_heldAt 0 = .ok (.iload_n 1, 1) := by decide +kernel
theorem dX7_heldAt_1 : decode cX7_heldAt 1 = .ok (.invokestatic 42, 3) := by decide +kernel
theorem dX7_heldAt_4 : decode cX7_heldAt 4 = .ok (.ifCond .eq 12, 3) := by decide +kernel
theorem dX7_heldAt_7 : decode cX7_heldAt 7 = .ok (.aload_n 0, 1) := by decide +kernel
theorem dX7_heldAt_8 : decode cX7_heldAt 8 = .ok (.getfield 18, 3) := by decide +kernel
theorem dX7_heldAt_11 : decode cX7_heldAt 11 = .ok (.iload_n 1, 1) := by decide +kernel
theorem dX7_heldAt_12 : decode cX7_heldAt 12 = .ok (.iaload, 1) := by decide +kernel
theorem dX7_heldAt_13 : decode cX7_heldAt 13 = .ok (.goto 4, 3) := by decide +kernel
theorem dX7_heldAt_16 : decode cX7_heldAt 16 = .ok (.iconst 0, 1) := by decide +kernel
theorem dX7_heldAt_17 : decode cX7_heldAt 17 = .ok (.ireturn, 1) := by decide +kernel
theorem dX7_numberAt_0 : decode cX7_numberAt 0 = .ok (.iload_n 1, 1) := by decide +kernel
theorem dX7_numberAt_1 : decode cX7_numberAt 1 = .ok (.invokestatic 42, 3) := by decide +kernel
theorem dX7_numberAt_4 : decode cX7_numberAt 4 = .ok (.ifCond .eq 12, 3) := by decide +kernel
theorem dX7_numberAt_7 : decode cX7_numberAt 7 = .ok (.aload_n 0, 1) := by decide +kernel
theorem dX7_numberAt_8 : decode cX7_numberAt 8 = .ok (.getfield 22, 3) := by decide +kernel
theorem dX7_numberAt_11 : decode cX7_numberAt 11 = .ok (.iload_n 1, 1) := by decide +kernel
theorem dX7_numberAt_12 : decode cX7_numberAt 12 = .ok (.iaload, 1) := by decide +kernel
theorem dX7_numberAt_13 : decode cX7_numberAt 13 = .ok (.goto 4, 3) := by decide +kernel
theorem dX7_numberAt_16 : decode cX7_numberAt 16 = .ok (.iconst 0, 1) := by decide +kernel
theorem dX7_numberAt_17 : decode cX7_numberAt 17 = .ok (.ireturn, 1) := by decide +kernel
theorem dX7_formulaAt_0 : decode cX7_formulaAt 0 = .ok (.iload_n 1, 1) := by decide +kernel
theorem dX7_formulaAt_1 : decode cX7_formulaAt 1 = .ok (.invokestatic 42, 3) := by decide +kernel
theorem dX7_formulaAt_4 : decode cX7_formulaAt 4 = .ok (.ifCond .eq 12, 3) := by decide +kernel
theorem dX7_formulaAt_7 : decode cX7_formulaAt 7 = .ok (.aload_n 0, 1) := by decide +kernel
theorem dX7_formulaAt_8 : decode cX7_formulaAt 8 = .ok (.getfield 27, 3) := by decide +kernel
theorem dX7_formulaAt_11 : decode cX7_formulaAt 11 = .ok (.iload_n 1, 1) := by decide +kernel
theorem dX7_formulaAt_12 : decode cX7_formulaAt 12 = .ok (.aaload, 1) := by decide +kernel
theorem dX7_formulaAt_13 : decode cX7_formulaAt 13 = .ok (.goto 4, 3) := by decide +kernel
theorem dX7_formulaAt_16 : decode cX7_formulaAt 16 = .ok (.aconst_null, 1) := by decide +kernel
theorem dX7_formulaAt_17 : decode cX7_formulaAt 17 = .ok (.areturn, 1) := by decide +kernel
theorem dX7_needsAt_0 : decode cX7_needsAt 0 = .ok (.iload_n 1, 1) := by decide +kernel
theorem dX7_needsAt_1 : decode cX7_needsAt 1 = .ok (.invokestatic 42, 3) := by decide +kernel
theorem dX7_needsAt_4 : decode cX7_needsAt 4 = .ok (.ifCond .eq 12, 3) := by decide +kernel
theorem dX7_needsAt_7 : decode cX7_needsAt 7 = .ok (.aload_n 0, 1) := by decide +kernel
theorem dX7_needsAt_8 : decode cX7_needsAt 8 = .ok (.getfield 31, 3) := by decide +kernel
theorem dX7_needsAt_11 : decode cX7_needsAt 11 = .ok (.iload_n 1, 1) := by decide +kernel
theorem dX7_needsAt_12 : decode cX7_needsAt 12 = .ok (.laload, 1) := by decide +kernel
theorem dX7_needsAt_13 : decode cX7_needsAt 13 = .ok (.goto 4, 3) := by decide +kernel
theorem dX7_needsAt_16 : decode cX7_needsAt 16 = .ok (.lconst 0, 1) := by decide +kernel
theorem dX7_needsAt_17 : decode cX7_needsAt 17 = .ok (.lreturn, 1) := by decide +kernel
theorem dX8_init_0 : decode cX8_init 0 = .ok (.aload_n 0, 1) := by decide +kernel
theorem dX8_init_1 : decode cX8_init 1 = .ok (.invokespecial 3, 3) := by decide +kernel
theorem dX8_init_4 : decode cX8_init 4 = .ok (.aload_n 0, 1) := by decide +kernel
theorem dX8_init_5 : decode cX8_init 5 = .ok (.bipush 60, 2) := by decide +kernel
theorem dX8_init_7 : decode cX8_init 7 = .ok (.newarray .int, 2) := by decide +kernel
theorem dX8_init_9 : decode cX8_init 9 = .ok (.putfield 9, 3) := by decide +kernel
theorem dX8_init_12 : decode cX8_init 12 = .ok (.return_, 1) := by decide +kernel
theorem dX8_length_0 : decode cX8_length 0 = .ok (.aload_n 0, 1) := by decide +kernel
theorem dX8_length_1 : decode cX8_length 1 = .ok (.getfield 15, 3) := by decide +kernel
theorem dX8_length_4 : decode cX8_length 4 = .ok (.ireturn, 1) := by decide +kernel
theorem dX8_hasRoom_0 : decode cX8_hasRoom 0 = .ok (.aload_n 0, 1) := by decide +kernel
theorem dX8_hasRoom_1 : decode cX8_hasRoom 1 = .ok (.getfield 15, 3) := by decide +kernel
theorem dX8_hasRoom_4 : decode cX8_hasRoom 4 = .ok (.bipush 20, 2) := by decide +kernel
theorem dX8_hasRoom_6 : decode cX8_hasRoom 6 = .ok (.iadd, 1) := by decide +kernel
theorem dX8_hasRoom_7 : decode cX8_hasRoom 7 = .ok (.bipush 60, 2) := by decide +kernel
theorem dX8_hasRoom_9 : decode cX8_hasRoom 9 = .ok (.if_icmp .gt 7, 3) := by decide +kernel
theorem dX8_hasRoom_12 : decode cX8_hasRoom 12 = .ok (.iconst 1, 1) := by decide +kernel
theorem dX8_hasRoom_13 : decode cX8_hasRoom 13 = .ok (.goto 4, 3) := by decide +kernel
theorem dX8_hasRoom_16 : decode cX8_hasRoom 16 = .ok (.iconst 0, 1) := by decide +kernel
theorem dX8_hasRoom_17 : decode cX8_hasRoom 17 = .ok (.ireturn, 1) := by decide +kernel
theorem dX8_append_0 : decode cX8_append 0 = .ok (.bipush 24, 2) := by decide +kernel
theorem dX8_append_2 : decode cX8_append 2 = .ok (.istore_n 2, 1) := by decide +kernel
theorem dX8_append_3 : decode cX8_append 3 = .ok (.iload_n 2, 1) := by decide +kernel
theorem dX8_append_4 : decode cX8_append 4 = .ok (.ifCond .lt 54, 3) := by decide +kernel
theorem dX8_append_7 : decode cX8_append 7 = .ok (.aload_n 0, 1) := by decide +kernel
theorem dX8_append_8 : decode cX8_append 8 = .ok (.getfield 15, 3) := by decide +kernel
theorem dX8_append_11 : decode cX8_append 11 = .ok (.ifCond .lt 41, 3) := by decide +kernel
theorem dX8_append_14 : decode cX8_append 14 = .ok (.aload_n 0, 1) := by decide +kernel
theorem dX8_append_15 : decode cX8_append 15 = .ok (.getfield 15, 3) := by decide +kernel
theorem dX8_append_18 : decode cX8_append 18 = .ok (.aload_n 0, 1) := by decide +kernel
theorem dX8_append_19 : decode cX8_append 19 = .ok (.getfield 9, 3) := by decide +kernel
theorem dX8_append_22 : decode cX8_append 22 = .ok (.arraylength, 1) := by decide +kernel
theorem dX8_append_23 : decode cX8_append 23 = .ok (.if_icmp .ge 29, 3) := by decide +kernel
theorem dX8_append_26 : decode cX8_append 26 = .ok (.aload_n 0, 1) := by decide +kernel
theorem dX8_append_27 : decode cX8_append 27 = .ok (.getfield 9, 3) := by decide +kernel
theorem dX8_append_30 : decode cX8_append 30 = .ok (.aload_n 0, 1) := by decide +kernel
theorem dX8_append_31 : decode cX8_append 31 = .ok (.getfield 15, 3) := by decide +kernel
theorem dX8_append_34 : decode cX8_append 34 = .ok (.iload_n 1, 1) := by decide +kernel
theorem dX8_append_35 : decode cX8_append 35 = .ok (.iload_n 2, 1) := by decide +kernel
theorem dX8_append_36 : decode cX8_append 36 = .ok (.iushr, 1) := by decide +kernel
theorem dX8_append_37 : decode cX8_append 37 = .ok (.sipush 255, 3) := by decide +kernel
theorem dX8_append_40 : decode cX8_append 40 = .ok (.iand, 1) := by decide +kernel
theorem dX8_append_41 : decode cX8_append 41 = .ok (.iastore, 1) := by decide +kernel
theorem dX8_append_42 : decode cX8_append 42 = .ok (.aload_n 0, 1) := by decide +kernel
theorem dX8_append_43 : decode cX8_append 43 = .ok (.dup, 1) := by decide +kernel
theorem dX8_append_44 : decode cX8_append 44 = .ok (.getfield 15, 3) := by decide +kernel
theorem dX8_append_47 : decode cX8_append 47 = .ok (.iconst 1, 1) := by decide +kernel
theorem dX8_append_48 : decode cX8_append 48 = .ok (.iadd, 1) := by decide +kernel
theorem dX8_append_49 : decode cX8_append 49 = .ok (.putfield 15, 3) := by decide +kernel
theorem dX8_append_52 : decode cX8_append 52 = .ok (.iinc 2 (-8), 3) := by decide +kernel
theorem dX8_append_55 : decode cX8_append 55 = .ok (.goto (-52), 3) := by decide +kernel
theorem dX8_append_58 : decode cX8_append 58 = .ok (.return_, 1) := by decide +kernel
theorem dX8_moveTo_0 : decode cX8_moveTo 0 = .ok (.iconst 0, 1) := by decide +kernel
theorem dX8_moveTo_1 : decode cX8_moveTo 1 = .ok (.istore_n 2, 1) := by decide +kernel
theorem dX8_moveTo_2 : decode cX8_moveTo 2 = .ok (.iload_n 2, 1) := by decide +kernel
theorem dX8_moveTo_3 : decode cX8_moveTo 3 = .ok (.aload_n 0, 1) := by decide +kernel
theorem dX8_moveTo_4 : decode cX8_moveTo 4 = .ok (.getfield 15, 3) := by decide +kernel
theorem dX8_moveTo_7 : decode cX8_moveTo 7 = .ok (.if_icmp .ge 29, 3) := by decide +kernel
theorem dX8_moveTo_10 : decode cX8_moveTo 10 = .ok (.iload_n 2, 1) := by decide +kernel
theorem dX8_moveTo_11 : decode cX8_moveTo 11 = .ok (.aload_n 0, 1) := by decide +kernel
theorem dX8_moveTo_12 : decode cX8_moveTo 12 = .ok (.getfield 9, 3) := by decide +kernel
theorem dX8_moveTo_15 : decode cX8_moveTo 15 = .ok (.arraylength, 1) := by decide +kernel
theorem dX8_moveTo_16 : decode cX8_moveTo 16 = .ok (.if_icmp .ge 20, 3) := by decide +kernel
theorem dX8_moveTo_19 : decode cX8_moveTo 19 = .ok (.aload_n 1, 1) := by decide +kernel
theorem dX8_moveTo_20 : decode cX8_moveTo 20 = .ok (.iload_n 2, 1) := by decide +kernel
theorem dX8_moveTo_21 : decode cX8_moveTo 21 = .ok (.aload_n 0, 1) := by decide +kernel
theorem dX8_moveTo_22 : decode cX8_moveTo 22 = .ok (.getfield 9, 3) := by decide +kernel
theorem dX8_moveTo_25 : decode cX8_moveTo 25 = .ok (.iload_n 2, 1) := by decide +kernel
theorem dX8_moveTo_26 : decode cX8_moveTo 26 = .ok (.iaload, 1) := by decide +kernel
theorem dX8_moveTo_27 : decode cX8_moveTo 27 = .ok (.invokevirtual 19, 3) := by decide +kernel
theorem dX8_moveTo_30 : decode cX8_moveTo 30 = .ok (.iinc 2 1, 3) := by decide +kernel
theorem dX8_moveTo_33 : decode cX8_moveTo 33 = .ok (.goto (-31), 3) := by decide +kernel
theorem dX8_moveTo_36 : decode cX8_moveTo 36 = .ok (.aload_n 0, 1) := by decide +kernel
theorem dX8_moveTo_37 : decode cX8_moveTo 37 = .ok (.iconst 0, 1) := by decide +kernel
theorem dX8_moveTo_38 : decode cX8_moveTo 38 = .ok (.putfield 15, 3) := by decide +kernel
theorem dX8_moveTo_41 : decode cX8_moveTo 41 = .ok (.return_, 1) := by decide +kernel
theorem dX9_init_0 : decode cX9_init 0 = .ok (.aload_n 0, 1) := by decide +kernel
theorem dX9_init_1 : decode cX9_init 1 = .ok (.invokespecial 1, 3) := by decide +kernel
theorem dX9_init_4 : decode cX9_init 4 = .ok (.aload_n 0, 1) := by decide +kernel
theorem dX9_init_5 : decode cX9_init 5 = .ok (.new 7, 3) := by decide +kernel
theorem dX9_init_8 : decode cX9_init 8 = .ok (.dup, 1) := by decide +kernel
theorem dX9_init_9 : decode cX9_init 9 = .ok (.invokespecial 9, 3) := by decide +kernel
theorem dX9_init_12 : decode cX9_init 12 = .ok (.putfield 10, 3) := by decide +kernel
theorem dX9_init_15 : decode cX9_init 15 = .ok (.aload_n 0, 1) := by decide +kernel
theorem dX9_init_16 : decode cX9_init 16 = .ok (.new 16, 3) := by decide +kernel
theorem dX9_init_19 : decode cX9_init 19 = .ok (.dup, 1) := by decide +kernel
theorem dX9_init_20 : decode cX9_init 20 = .ok (.invokespecial 18, 3) := by decide +kernel
theorem dX9_init_23 : decode cX9_init 23 = .ok (.putfield 19, 3) := by decide +kernel
theorem dX9_init_26 : decode cX9_init 26 = .ok (.aload_n 0, 1) := by decide +kernel
theorem dX9_init_27 : decode cX9_init 27 = .ok (.bipush 6, 2) := by decide +kernel
theorem dX9_init_29 : decode cX9_init 29 = .ok (.anewarray 23, 3) := by decide +kernel
theorem dX9_init_32 : decode cX9_init 32 = .ok (.putfield 25, 3) := by decide +kernel
theorem dX9_init_35 : decode cX9_init 35 = .ok (.iconst 0, 1) := by decide +kernel
theorem dX9_init_36 : decode cX9_init 36 = .ok (.istore_n 1, 1) := by decide +kernel
theorem dX9_init_37 : decode cX9_init 37 = .ok (.iload_n 1, 1) := by decide +kernel
theorem dX9_init_38 : decode cX9_init 38 = .ok (.bipush 6, 2) := by decide +kernel
theorem dX9_init_40 : decode cX9_init 40 = .ok (.if_icmp .ge 22, 3) := by decide +kernel
theorem dX9_init_43 : decode cX9_init 43 = .ok (.aload_n 0, 1) := by decide +kernel
theorem dX9_init_44 : decode cX9_init 44 = .ok (.getfield 25, 3) := by decide +kernel
theorem dX9_init_47 : decode cX9_init 47 = .ok (.iload_n 1, 1) := by decide +kernel
theorem dX9_init_48 : decode cX9_init 48 = .ok (.new 23, 3) := by decide +kernel
theorem dX9_init_51 : decode cX9_init 51 = .ok (.dup, 1) := by decide +kernel
theorem dX9_init_52 : decode cX9_init 52 = .ok (.invokespecial 29, 3) := by decide +kernel
theorem dX9_init_55 : decode cX9_init 55 = .ok (.aastore, 1) := by decide +kernel
theorem dX9_init_56 : decode cX9_init 56 = .ok (.iinc 1 1, 3) := by decide +kernel
theorem dX9_init_59 : decode cX9_init 59 = .ok (.goto (-22), 3) := by decide +kernel
theorem dX9_init_62 : decode cX9_init 62 = .ok (.new 30, 3) := by decide +kernel
theorem dX9_init_65 : decode cX9_init 65 = .ok (.dup, 1) := by decide +kernel
theorem dX9_init_66 : decode cX9_init 66 = .ok (.invokespecial 32, 3) := by decide +kernel
theorem dX9_init_69 : decode cX9_init 69 = .ok (.astore_n 1, 1) := by decide +kernel
theorem dX9_init_70 : decode cX9_init 70 = .ok (.aload_n 0, 1) := by decide +kernel
theorem dX9_init_71 : decode cX9_init 71 = .ok (.new 33, 3) := by decide +kernel
theorem dX9_init_74 : decode cX9_init 74 = .ok (.dup, 1) := by decide +kernel
theorem dX9_init_75 : decode cX9_init 75 = .ok (.aload_n 0, 1) := by decide +kernel
theorem dX9_init_76 : decode cX9_init 76 = .ok (.getfield 19, 3) := by decide +kernel
theorem dX9_init_79 : decode cX9_init 79 = .ok (.aload_n 1, 1) := by decide +kernel
theorem dX9_init_80 : decode cX9_init 80 = .ok (.invokespecial 35, 3) := by decide +kernel
theorem dX9_init_83 : decode cX9_init 83 = .ok (.putfield 38, 3) := by decide +kernel
theorem dX9_init_86 : decode cX9_init 86 = .ok (.aload_n 0, 1) := by decide +kernel
theorem dX9_init_87 : decode cX9_init 87 = .ok (.new 33, 3) := by decide +kernel
theorem dX9_init_90 : decode cX9_init 90 = .ok (.dup, 1) := by decide +kernel
theorem dX9_init_91 : decode cX9_init 91 = .ok (.aload_n 0, 1) := by decide +kernel
theorem dX9_init_92 : decode cX9_init 92 = .ok (.getfield 19, 3) := by decide +kernel
theorem dX9_init_95 : decode cX9_init 95 = .ok (.aload_n 1, 1) := by decide +kernel
theorem dX9_init_96 : decode cX9_init 96 = .ok (.invokespecial 35, 3) := by decide +kernel
theorem dX9_init_99 : decode cX9_init 99 = .ok (.putfield 42, 3) := by decide +kernel
theorem dX9_init_102 : decode cX9_init 102 = .ok (.aload_n 0, 1) := by decide +kernel
theorem dX9_init_103 : decode cX9_init 103 = .ok (.new 33, 3) := by decide +kernel
theorem dX9_init_106 : decode cX9_init 106 = .ok (.dup, 1) := by decide +kernel
theorem dX9_init_107 : decode cX9_init 107 = .ok (.aload_n 0, 1) := by decide +kernel
theorem dX9_init_108 : decode cX9_init 108 = .ok (.getfield 19, 3) := by decide +kernel
theorem dX9_init_111 : decode cX9_init 111 = .ok (.aload_n 1, 1) := by decide +kernel
theorem dX9_init_112 : decode cX9_init 112 = .ok (.invokespecial 35, 3) := by decide +kernel
theorem dX9_init_115 : decode cX9_init 115 = .ok (.putfield 45, 3) := by decide +kernel
theorem dX9_init_118 : decode cX9_init 118 = .ok (.aload_n 0, 1) := by decide +kernel
theorem dX9_init_119 : decode cX9_init 119 = .ok (.new 48, 3) := by decide +kernel
theorem dX9_init_122 : decode cX9_init 122 = .ok (.dup, 1) := by decide +kernel
theorem dX9_init_123 : decode cX9_init 123 = .ok (.aload_n 0, 1) := by decide +kernel
theorem dX9_init_124 : decode cX9_init 124 = .ok (.getfield 19, 3) := by decide +kernel
theorem dX9_init_127 : decode cX9_init 127 = .ok (.aload_n 1, 1) := by decide +kernel
theorem dX9_init_128 : decode cX9_init 128 = .ok (.aload_n 0, 1) := by decide +kernel
theorem dX9_init_129 : decode cX9_init 129 = .ok (.getfield 38, 3) := by decide +kernel
theorem dX9_init_132 : decode cX9_init 132 = .ok (.aload_n 0, 1) := by decide +kernel
theorem dX9_init_133 : decode cX9_init 133 = .ok (.getfield 42, 3) := by decide +kernel
theorem dX9_init_136 : decode cX9_init 136 = .ok (.aload_n 0, 1) := by decide +kernel
theorem dX9_init_137 : decode cX9_init 137 = .ok (.getfield 45, 3) := by decide +kernel
theorem dX9_init_140 : decode cX9_init 140 = .ok (.invokespecial 50, 3) := by decide +kernel
theorem dX9_init_143 : decode cX9_init 143 = .ok (.putfield 53, 3) := by decide +kernel
theorem dX9_init_146 : decode cX9_init 146 = .ok (.return_, 1) := by decide +kernel
theorem dX9_feed_0 : decode cX9_feed 0 = .ok (.aload_n 0, 1) := by decide +kernel
theorem dX9_feed_1 : decode cX9_feed 1 = .ok (.getfield 10, 3) := by decide +kernel
theorem dX9_feed_4 : decode cX9_feed 4 = .ok (.invokevirtual 57, 3) := by decide +kernel
theorem dX9_feed_7 : decode cX9_feed 7 = .ok (.ifCond .ne 5, 3) := by decide +kernel
theorem dX9_feed_10 : decode cX9_feed 10 = .ok (.iconst (-1), 1) := by decide +kernel
theorem dX9_feed_11 : decode cX9_feed 11 = .ok (.ireturn, 1) := by decide +kernel
theorem dX9_feed_12 : decode cX9_feed 12 = .ok (.aload_n 0, 1) := by decide +kernel
theorem dX9_feed_13 : decode cX9_feed 13 = .ok (.getfield 10, 3) := by decide +kernel
theorem dX9_feed_16 : decode cX9_feed 16 = .ok (.iload_n 1, 1) := by decide +kernel
theorem dX9_feed_17 : decode cX9_feed 17 = .ok (.invokevirtual 61, 3) := by decide +kernel
theorem dX9_feed_20 : decode cX9_feed 20 = .ok (.aload_n 0, 1) := by decide +kernel
theorem dX9_feed_21 : decode cX9_feed 21 = .ok (.getfield 10, 3) := by decide +kernel
theorem dX9_feed_24 : decode cX9_feed 24 = .ok (.iload_n 2, 1) := by decide +kernel
theorem dX9_feed_25 : decode cX9_feed 25 = .ok (.invokevirtual 61, 3) := by decide +kernel
theorem dX9_feed_28 : decode cX9_feed 28 = .ok (.aload_n 0, 1) := by decide +kernel
theorem dX9_feed_29 : decode cX9_feed 29 = .ok (.getfield 10, 3) := by decide +kernel
theorem dX9_feed_32 : decode cX9_feed 32 = .ok (.iload_n 3, 1) := by decide +kernel
theorem dX9_feed_33 : decode cX9_feed 33 = .ok (.invokevirtual 61, 3) := by decide +kernel
theorem dX9_feed_36 : decode cX9_feed 36 = .ok (.aload_n 0, 1) := by decide +kernel
theorem dX9_feed_37 : decode cX9_feed 37 = .ok (.getfield 10, 3) := by decide +kernel
theorem dX9_feed_40 : decode cX9_feed 40 = .ok (.iload 4, 2) := by decide +kernel
theorem dX9_feed_42 : decode cX9_feed 42 = .ok (.invokevirtual 61, 3) := by decide +kernel
theorem dX9_feed_45 : decode cX9_feed 45 = .ok (.aload_n 0, 1) := by decide +kernel
theorem dX9_feed_46 : decode cX9_feed 46 = .ok (.getfield 10, 3) := by decide +kernel
theorem dX9_feed_49 : decode cX9_feed 49 = .ok (.iload 5, 2) := by decide +kernel
theorem dX9_feed_51 : decode cX9_feed 51 = .ok (.invokevirtual 61, 3) := by decide +kernel
theorem dX9_feed_54 : decode cX9_feed 54 = .ok (.aload_n 0, 1) := by decide +kernel
theorem dX9_feed_55 : decode cX9_feed 55 = .ok (.getfield 10, 3) := by decide +kernel
theorem dX9_feed_58 : decode cX9_feed 58 = .ok (.invokevirtual 65, 3) := by decide +kernel
theorem dX9_feed_61 : decode cX9_feed 61 = .ok (.ireturn, 1) := by decide +kernel
theorem dX9_number_0 : decode cX9_number 0 = .ok (.aload_n 0, 1) := by decide +kernel
theorem dX9_number_1 : decode cX9_number 1 = .ok (.iload_n 1, 1) := by decide +kernel
theorem dX9_number_2 : decode cX9_number 2 = .ok (.invokevirtual 69, 3) := by decide +kernel
theorem dX9_number_5 : decode cX9_number 5 = .ok (.astore 4, 2) := by decide +kernel
theorem dX9_number_7 : decode cX9_number 7 = .ok (.aload 4, 2) := by decide +kernel
theorem dX9_number_9 : decode cX9_number 9 = .ok (.ifnull 17, 3) := by decide +kernel
theorem dX9_number_12 : decode cX9_number 12 = .ok (.iload_n 2, 1) := by decide +kernel
theorem dX9_number_13 : decode cX9_number 13 = .ok (.invokestatic 73, 3) := by decide +kernel
theorem dX9_number_16 : decode cX9_number 16 = .ok (.ifCond .eq 10, 3) := by decide +kernel
theorem dX9_number_19 : decode cX9_number 19 = .ok (.iload_n 3, 1) := by decide +kernel
theorem dX9_number_20 : decode cX9_number 20 = .ok (.invokestatic 77, 3) := by decide +kernel
theorem dX9_number_23 : decode cX9_number 23 = .ok (.ifCond .ne 5, 3) := by decide +kernel
theorem dX9_number_26 : decode cX9_number 26 = .ok (.iconst 0, 1) := by decide +kernel
theorem dX9_number_27 : decode cX9_number 27 = .ok (.ireturn, 1) := by decide +kernel
theorem dX9_number_28 : decode cX9_number 28 = .ok (.aload 4, 2) := by decide +kernel
theorem dX9_number_30 : decode cX9_number 30 = .ok (.iload_n 2, 1) := by decide +kernel
theorem dX9_number_31 : decode cX9_number 31 = .ok (.iload_n 3, 1) := by decide +kernel
theorem dX9_number_32 : decode cX9_number 32 = .ok (.invokevirtual 80, 3) := by decide +kernel
theorem dX9_number_35 : decode cX9_number 35 = .ok (.iconst 1, 1) := by decide +kernel
theorem dX9_number_36 : decode cX9_number 36 = .ok (.ireturn, 1) := by decide +kernel
theorem dX9_formula_0 : decode cX9_formula 0 = .ok (.aload_n 0, 1) := by decide +kernel
theorem dX9_formula_1 : decode cX9_formula 1 = .ok (.iload_n 1, 1) := by decide +kernel
theorem dX9_formula_2 : decode cX9_formula 2 = .ok (.invokevirtual 69, 3) := by decide +kernel
theorem dX9_formula_5 : decode cX9_formula 5 = .ok (.astore 4, 2) := by decide +kernel
theorem dX9_formula_7 : decode cX9_formula 7 = .ok (.aload 4, 2) := by decide +kernel
theorem dX9_formula_9 : decode cX9_formula 9 = .ok (.ifnull 31, 3) := by decide +kernel
theorem dX9_formula_12 : decode cX9_formula 12 = .ok (.iload_n 2, 1) := by decide +kernel
theorem dX9_formula_13 : decode cX9_formula 13 = .ok (.invokestatic 73, 3) := by decide +kernel
theorem dX9_formula_16 : decode cX9_formula 16 = .ok (.ifCond .eq 24, 3) := by decide +kernel
theorem dX9_formula_19 : decode cX9_formula 19 = .ok (.iload_n 3, 1) := by decide +kernel
theorem dX9_formula_20 : decode cX9_formula 20 = .ok (.ifCond .lt 20, 3) := by decide +kernel
theorem dX9_formula_23 : decode cX9_formula 23 = .ok (.iload_n 3, 1) := by decide +kernel
theorem dX9_formula_24 : decode cX9_formula 24 = .ok (.bipush 40, 2) := by decide +kernel
theorem dX9_formula_26 : decode cX9_formula 26 = .ok (.if_icmp .gt 14, 3) := by decide +kernel
theorem dX9_formula_29 : decode cX9_formula 29 = .ok (.iload_n 3, 1) := by decide +kernel
theorem dX9_formula_30 : decode cX9_formula 30 = .ok (.aload_n 0, 1) := by decide +kernel
theorem dX9_formula_31 : decode cX9_formula 31 = .ok (.getfield 10, 3) := by decide +kernel
theorem dX9_formula_34 : decode cX9_formula 34 = .ok (.invokevirtual 65, 3) := by decide +kernel
theorem dX9_formula_37 : decode cX9_formula 37 = .ok (.if_icmp .le 5, 3) := by decide +kernel
theorem dX9_formula_40 : decode cX9_formula 40 = .ok (.iconst (-1), 1) := by decide +kernel
theorem dX9_formula_41 : decode cX9_formula 41 = .ok (.ireturn, 1) := by decide +kernel
theorem dX9_formula_42 : decode cX9_formula 42 = .ok (.new 84, 3) := by decide +kernel
theorem dX9_formula_45 : decode cX9_formula 45 = .ok (.dup, 1) := by decide +kernel
theorem dX9_formula_46 : decode cX9_formula 46 = .ok (.iload_n 3, 1) := by decide +kernel
theorem dX9_formula_47 : decode cX9_formula 47 = .ok (.invokespecial 86, 3) := by decide +kernel
theorem dX9_formula_50 : decode cX9_formula 50 = .ok (.astore 5, 2) := by decide +kernel
theorem dX9_formula_52 : decode cX9_formula 52 = .ok (.aload_n 0, 1) := by decide +kernel
theorem dX9_formula_53 : decode cX9_formula 53 = .ok (.getfield 10, 3) := by decide +kernel
theorem dX9_formula_56 : decode cX9_formula 56 = .ok (.aload 5, 2) := by decide +kernel
theorem dX9_formula_58 : decode cX9_formula 58 = .ok (.invokevirtual 88, 3) := by decide +kernel
theorem dX9_formula_61 : decode cX9_formula 61 = .ok (.new 92, 3) := by decide +kernel
theorem dX9_formula_64 : decode cX9_formula 64 = .ok (.dup, 1) := by decide +kernel
theorem dX9_formula_65 : decode cX9_formula 65 = .ok (.aload 5, 2) := by decide +kernel
theorem dX9_formula_67 : decode cX9_formula 67 = .ok (.invokespecial 94, 3) := by decide +kernel
theorem dX9_formula_70 : decode cX9_formula 70 = .ok (.invokevirtual 96, 3) := by decide +kernel
theorem dX9_formula_73 : decode cX9_formula 73 = .ok (.istore 6, 2) := by decide +kernel
theorem dX9_formula_75 : decode cX9_formula 75 = .ok (.iload 6, 2) := by decide +kernel
theorem dX9_formula_77 : decode cX9_formula 77 = .ok (.ifCond .ne 11, 3) := by decide +kernel
theorem dX9_formula_80 : decode cX9_formula 80 = .ok (.aload 4, 2) := by decide +kernel
theorem dX9_formula_82 : decode cX9_formula 82 = .ok (.iload_n 2, 1) := by decide +kernel
theorem dX9_formula_83 : decode cX9_formula 83 = .ok (.aload 5, 2) := by decide +kernel
theorem dX9_formula_85 : decode cX9_formula 85 = .ok (.invokevirtual 99, 3) := by decide +kernel
theorem dX9_formula_88 : decode cX9_formula 88 = .ok (.iload 6, 2) := by decide +kernel
theorem dX9_formula_90 : decode cX9_formula 90 = .ok (.ireturn, 1) := by decide +kernel
theorem dX9_clear_0 : decode cX9_clear 0 = .ok (.aload_n 0, 1) := by decide +kernel
theorem dX9_clear_1 : decode cX9_clear 1 = .ok (.iload_n 1, 1) := by decide +kernel
theorem dX9_clear_2 : decode cX9_clear 2 = .ok (.invokevirtual 69, 3) := by decide +kernel
theorem dX9_clear_5 : decode cX9_clear 5 = .ok (.astore_n 3, 1) := by decide +kernel
theorem dX9_clear_6 : decode cX9_clear 6 = .ok (.aload_n 3, 1) := by decide +kernel
theorem dX9_clear_7 : decode cX9_clear 7 = .ok (.ifnull 11, 3) := by decide +kernel
theorem dX9_clear_10 : decode cX9_clear 10 = .ok (.aload_n 3, 1) := by decide +kernel
theorem dX9_clear_11 : decode cX9_clear 11 = .ok (.iload_n 2, 1) := by decide +kernel
theorem dX9_clear_12 : decode cX9_clear 12 = .ok (.invokevirtual 103, 3) := by decide +kernel
theorem dX9_clear_15 : decode cX9_clear 15 = .ok (.ifCond .ne 5, 3) := by decide +kernel
theorem dX9_clear_18 : decode cX9_clear 18 = .ok (.iconst 0, 1) := by decide +kernel
theorem dX9_clear_19 : decode cX9_clear 19 = .ok (.ireturn, 1) := by decide +kernel
theorem dX9_clear_20 : decode cX9_clear 20 = .ok (.aload_n 3, 1) := by decide +kernel
theorem dX9_clear_21 : decode cX9_clear 21 = .ok (.iload_n 2, 1) := by decide +kernel
theorem dX9_clear_22 : decode cX9_clear 22 = .ok (.invokevirtual 107, 3) := by decide +kernel
theorem dX9_clear_25 : decode cX9_clear 25 = .ok (.iconst 1, 1) := by decide +kernel
theorem dX9_clear_26 : decode cX9_clear 26 = .ok (.ireturn, 1) := by decide +kernel
theorem dX9_input_0 : decode cX9_input 0 = .ok (.iload_n 1, 1) := by decide +kernel
theorem dX9_input_1 : decode cX9_input 1 = .ok (.invokestatic 73, 3) := by decide +kernel
theorem dX9_input_4 : decode cX9_input 4 = .ok (.ifCond .eq 37, 3) := by decide +kernel
theorem dX9_input_7 : decode cX9_input 7 = .ok (.aload_n 0, 1) := by decide +kernel
theorem dX9_input_8 : decode cX9_input 8 = .ok (.getfield 19, 3) := by decide +kernel
theorem dX9_input_11 : decode cX9_input 11 = .ok (.iload_n 1, 1) := by decide +kernel
theorem dX9_input_12 : decode cX9_input 12 = .ok (.invokevirtual 110, 3) := by decide +kernel
theorem dX9_input_15 : decode cX9_input 15 = .ok (.ifCond .ne 26, 3) := by decide +kernel
theorem dX9_input_18 : decode cX9_input 18 = .ok (.aload_n 0, 1) := by decide +kernel
theorem dX9_input_19 : decode cX9_input 19 = .ok (.getfield 19, 3) := by decide +kernel
theorem dX9_input_22 : decode cX9_input 22 = .ok (.iload_n 1, 1) := by decide +kernel
theorem dX9_input_23 : decode cX9_input 23 = .ok (.invokevirtual 113, 3) := by decide +kernel
theorem dX9_input_26 : decode cX9_input 26 = .ok (.ifCond .ne 15, 3) := by decide +kernel
theorem dX9_input_29 : decode cX9_input 29 = .ok (.aload_n 0, 1) := by decide +kernel
theorem dX9_input_30 : decode cX9_input 30 = .ok (.getfield 19, 3) := by decide +kernel
theorem dX9_input_33 : decode cX9_input 33 = .ok (.invokevirtual 116, 3) := by decide +kernel
theorem dX9_input_36 : decode cX9_input 36 = .ok (.bipush 8, 2) := by decide +kernel
theorem dX9_input_38 : decode cX9_input 38 = .ok (.if_icmp .lt 5, 3) := by decide +kernel
theorem dX9_input_41 : decode cX9_input 41 = .ok (.iconst 0, 1) := by decide +kernel
theorem dX9_input_42 : decode cX9_input 42 = .ok (.ireturn, 1) := by decide +kernel
theorem dX9_input_43 : decode cX9_input 43 = .ok (.aload_n 0, 1) := by decide +kernel
theorem dX9_input_44 : decode cX9_input 44 = .ok (.getfield 19, 3) := by decide +kernel
theorem dX9_input_47 : decode cX9_input 47 = .ok (.iload_n 1, 1) := by decide +kernel
theorem dX9_input_48 : decode cX9_input 48 = .ok (.invokevirtual 119, 3) := by decide +kernel
theorem dX9_input_51 : decode cX9_input 51 = .ok (.iconst 1, 1) := by decide +kernel
theorem dX9_input_52 : decode cX9_input 52 = .ok (.ireturn, 1) := by decide +kernel
theorem dX9_wants_0 : decode cX9_wants 0 = .ok (.iload_n 1, 1) := by decide +kernel
theorem dX9_wants_1 : decode cX9_wants 1 = .ok (.invokestatic 73, 3) := by decide +kernel
theorem dX9_wants_4 : decode cX9_wants 4 = .ok (.ifCond .eq 25, 3) := by decide +kernel
theorem dX9_wants_7 : decode cX9_wants 7 = .ok (.iload_n 2, 1) := by decide +kernel
theorem dX9_wants_8 : decode cX9_wants 8 = .ok (.iconst 1, 1) := by decide +kernel
theorem dX9_wants_9 : decode cX9_wants 9 = .ok (.if_icmp .lt 20, 3) := by decide +kernel
theorem dX9_wants_12 : decode cX9_wants 12 = .ok (.iload_n 2, 1) := by decide +kernel
theorem dX9_wants_13 : decode cX9_wants 13 = .ok (.bipush 100, 2) := by decide +kernel
theorem dX9_wants_15 : decode cX9_wants 15 = .ok (.if_icmp .gt 14, 3) := by decide +kernel
theorem dX9_wants_18 : decode cX9_wants 18 = .ok (.aload_n 0, 1) := by decide +kernel
theorem dX9_wants_19 : decode cX9_wants 19 = .ok (.getfield 19, 3) := by decide +kernel
theorem dX9_wants_22 : decode cX9_wants 22 = .ok (.iload_n 1, 1) := by decide +kernel
theorem dX9_wants_23 : decode cX9_wants 23 = .ok (.invokevirtual 110, 3) := by decide +kernel
theorem dX9_wants_26 : decode cX9_wants 26 = .ok (.ifCond .eq 5, 3) := by decide +kernel
theorem dX9_wants_29 : decode cX9_wants 29 = .ok (.iconst 0, 1) := by decide +kernel
theorem dX9_wants_30 : decode cX9_wants 30 = .ok (.ireturn, 1) := by decide +kernel
theorem dX9_wants_31 : decode cX9_wants 31 = .ok (.aload_n 0, 1) := by decide +kernel
theorem dX9_wants_32 : decode cX9_wants 32 = .ok (.getfield 19, 3) := by decide +kernel
theorem dX9_wants_35 : decode cX9_wants 35 = .ok (.iload_n 1, 1) := by decide +kernel
theorem dX9_wants_36 : decode cX9_wants 36 = .ok (.invokevirtual 113, 3) := by decide +kernel
theorem dX9_wants_39 : decode cX9_wants 39 = .ok (.ifCond .ne 17, 3) := by decide +kernel
theorem dX9_wants_42 : decode cX9_wants 42 = .ok (.aload_n 0, 1) := by decide +kernel
theorem dX9_wants_43 : decode cX9_wants 43 = .ok (.getfield 19, 3) := by decide +kernel
theorem dX9_wants_46 : decode cX9_wants 46 = .ok (.invokevirtual 122, 3) := by decide +kernel
theorem dX9_wants_49 : decode cX9_wants 49 = .ok (.bipush 16, 2) := by decide +kernel
theorem dX9_wants_51 : decode cX9_wants 51 = .ok (.if_icmp .lt 5, 3) := by decide +kernel
theorem dX9_wants_54 : decode cX9_wants 54 = .ok (.iconst 0, 1) := by decide +kernel
theorem dX9_wants_55 : decode cX9_wants 55 = .ok (.ireturn, 1) := by decide +kernel
theorem dX9_wants_56 : decode cX9_wants 56 = .ok (.aload_n 0, 1) := by decide +kernel
theorem dX9_wants_57 : decode cX9_wants 57 = .ok (.getfield 19, 3) := by decide +kernel
theorem dX9_wants_60 : decode cX9_wants 60 = .ok (.iload_n 1, 1) := by decide +kernel
theorem dX9_wants_61 : decode cX9_wants 61 = .ok (.iload_n 2, 1) := by decide +kernel
theorem dX9_wants_62 : decode cX9_wants 62 = .ok (.invokevirtual 125, 3) := by decide +kernel
theorem dX9_wants_65 : decode cX9_wants 65 = .ok (.iconst 1, 1) := by decide +kernel
theorem dX9_wants_66 : decode cX9_wants 66 = .ok (.ireturn, 1) := by decide +kernel
theorem dX9_world_0 : decode cX9_world 0 = .ok (.aload_n 0, 1) := by decide +kernel
theorem dX9_world_1 : decode cX9_world 1 = .ok (.getfield 19, 3) := by decide +kernel
theorem dX9_world_4 : decode cX9_world 4 = .ok (.invokevirtual 128, 3) := by decide +kernel
theorem dX9_world_7 : decode cX9_world 7 = .ok (.bipush 6, 2) := by decide +kernel
theorem dX9_world_9 : decode cX9_world 9 = .ok (.if_icmp .ge 13, 3) := by decide +kernel
theorem dX9_world_12 : decode cX9_world 12 = .ok (.aload_n 0, 1) := by decide +kernel
theorem dX9_world_13 : decode cX9_world 13 = .ok (.getfield 19, 3) := by decide +kernel
theorem dX9_world_16 : decode cX9_world 16 = .ok (.invokevirtual 131, 3) := by decide +kernel
theorem dX9_world_19 : decode cX9_world 19 = .ok (.goto 4, 3) := by decide +kernel
theorem dX9_world_22 : decode cX9_world 22 = .ok (.iconst (-1), 1) := by decide +kernel
theorem dX9_world_23 : decode cX9_world 23 = .ok (.ireturn, 1) := by decide +kernel
theorem dX9_give_0 : decode cX9_give 0 = .ok (.aload_n 0, 1) := by decide +kernel
theorem dX9_give_1 : decode cX9_give 1 = .ok (.getfield 19, 3) := by decide +kernel
theorem dX9_give_4 : decode cX9_give 4 = .ok (.iload_n 1, 1) := by decide +kernel
theorem dX9_give_5 : decode cX9_give 5 = .ok (.invokevirtual 134, 3) := by decide +kernel
theorem dX9_give_8 : decode cX9_give 8 = .ok (.ifCond .eq 21, 3) := by decide +kernel
theorem dX9_give_11 : decode cX9_give 11 = .ok (.aload_n 0, 1) := by decide +kernel
theorem dX9_give_12 : decode cX9_give 12 = .ok (.getfield 19, 3) := by decide +kernel
theorem dX9_give_15 : decode cX9_give 15 = .ok (.iload_n 2, 1) := by decide +kernel
theorem dX9_give_16 : decode cX9_give 16 = .ok (.invokevirtual 110, 3) := by decide +kernel
theorem dX9_give_19 : decode cX9_give 19 = .ok (.ifCond .eq 10, 3) := by decide +kernel
theorem dX9_give_22 : decode cX9_give 22 = .ok (.iload_n 3, 1) := by decide +kernel
theorem dX9_give_23 : decode cX9_give 23 = .ok (.invokestatic 77, 3) := by decide +kernel
theorem dX9_give_26 : decode cX9_give 26 = .ok (.ifCond .ne 5, 3) := by decide +kernel
theorem dX9_give_29 : decode cX9_give 29 = .ok (.iconst 0, 1) := by decide +kernel
theorem dX9_give_30 : decode cX9_give 30 = .ok (.ireturn, 1) := by decide +kernel
theorem dX9_give_31 : decode cX9_give 31 = .ok (.aload_n 0, 1) := by decide +kernel
theorem dX9_give_32 : decode cX9_give 32 = .ok (.getfield 19, 3) := by decide +kernel
theorem dX9_give_35 : decode cX9_give 35 = .ok (.iload_n 1, 1) := by decide +kernel
theorem dX9_give_36 : decode cX9_give 36 = .ok (.iload_n 2, 1) := by decide +kernel
theorem dX9_give_37 : decode cX9_give 37 = .ok (.iload_n 3, 1) := by decide +kernel
theorem dX9_give_38 : decode cX9_give 38 = .ok (.invokevirtual 137, 3) := by decide +kernel
theorem dX9_give_41 : decode cX9_give 41 = .ok (.iconst 1, 1) := by decide +kernel
theorem dX9_give_42 : decode cX9_give 42 = .ok (.ireturn, 1) := by decide +kernel
theorem dX9_value_0 : decode cX9_value 0 = .ok (.aload_n 0, 1) := by decide +kernel
theorem dX9_value_1 : decode cX9_value 1 = .ok (.iload_n 1, 1) := by decide +kernel
theorem dX9_value_2 : decode cX9_value 2 = .ok (.iload_n 2, 1) := by decide +kernel
theorem dX9_value_3 : decode cX9_value 3 = .ok (.iload_n 3, 1) := by decide +kernel
theorem dX9_value_4 : decode cX9_value 4 = .ok (.invokevirtual 141, 3) := by decide +kernel
theorem dX9_value_7 : decode cX9_value 7 = .ok (.ifCond .eq 15, 3) := by decide +kernel
theorem dX9_value_10 : decode cX9_value 10 = .ok (.aload_n 0, 1) := by decide +kernel
theorem dX9_value_11 : decode cX9_value 11 = .ok (.getfield 42, 3) := by decide +kernel
theorem dX9_value_14 : decode cX9_value 14 = .ok (.iload_n 3, 1) := by decide +kernel
theorem dX9_value_15 : decode cX9_value 15 = .ok (.iload_n 2, 1) := by decide +kernel
theorem dX9_value_16 : decode cX9_value 16 = .ok (.invokevirtual 145, 3) := by decide +kernel
theorem dX9_value_19 : decode cX9_value 19 = .ok (.goto 6, 3) := by decide +kernel
theorem dX9_value_22 : decode cX9_value 22 = .ok (.ldc2_w 149, 3) := by decide +kernel
theorem dX9_value_25 : decode cX9_value 25 = .ok (.lreturn, 1) := by decide +kernel
theorem dX9_error_0 : decode cX9_error 0 = .ok (.aload_n 0, 1) := by decide +kernel
theorem dX9_error_1 : decode cX9_error 1 = .ok (.iload_n 1, 1) := by decide +kernel
theorem dX9_error_2 : decode cX9_error 2 = .ok (.iload_n 2, 1) := by decide +kernel
theorem dX9_error_3 : decode cX9_error 3 = .ok (.iload_n 3, 1) := by decide +kernel
theorem dX9_error_4 : decode cX9_error 4 = .ok (.invokevirtual 141, 3) := by decide +kernel
theorem dX9_error_7 : decode cX9_error 7 = .ok (.ifCond .eq 15, 3) := by decide +kernel
theorem dX9_error_10 : decode cX9_error 10 = .ok (.aload_n 0, 1) := by decide +kernel
theorem dX9_error_11 : decode cX9_error 11 = .ok (.getfield 42, 3) := by decide +kernel
theorem dX9_error_14 : decode cX9_error 14 = .ok (.iload_n 3, 1) := by decide +kernel
theorem dX9_error_15 : decode cX9_error 15 = .ok (.iload_n 2, 1) := by decide +kernel
theorem dX9_error_16 : decode cX9_error 16 = .ok (.invokevirtual 151, 3) := by decide +kernel
theorem dX9_error_19 : decode cX9_error 19 = .ok (.goto 4, 3) := by decide +kernel
theorem dX9_error_22 : decode cX9_error 22 = .ok (.iconst (-1), 1) := by decide +kernel
theorem dX9_error_23 : decode cX9_error 23 = .ok (.ireturn, 1) := by decide +kernel
theorem dX9_right_0 : decode cX9_right 0 = .ok (.aload_n 0, 1) := by decide +kernel
theorem dX9_right_1 : decode cX9_right 1 = .ok (.iload_n 1, 1) := by decide +kernel
theorem dX9_right_2 : decode cX9_right 2 = .ok (.iload_n 2, 1) := by decide +kernel
theorem dX9_right_3 : decode cX9_right 3 = .ok (.iload_n 3, 1) := by decide +kernel
theorem dX9_right_4 : decode cX9_right 4 = .ok (.invokevirtual 155, 3) := by decide +kernel
theorem dX9_right_7 : decode cX9_right 7 = .ok (.ifCond .eq 15, 3) := by decide +kernel
theorem dX9_right_10 : decode cX9_right 10 = .ok (.aload_n 0, 1) := by decide +kernel
theorem dX9_right_11 : decode cX9_right 11 = .ok (.getfield 45, 3) := by decide +kernel
theorem dX9_right_14 : decode cX9_right 14 = .ok (.iload_n 3, 1) := by decide +kernel
theorem dX9_right_15 : decode cX9_right 15 = .ok (.iload_n 2, 1) := by decide +kernel
theorem dX9_right_16 : decode cX9_right 16 = .ok (.invokevirtual 145, 3) := by decide +kernel
theorem dX9_right_19 : decode cX9_right 19 = .ok (.goto 6, 3) := by decide +kernel
theorem dX9_right_22 : decode cX9_right 22 = .ok (.ldc2_w 149, 3) := by decide +kernel
theorem dX9_right_25 : decode cX9_right 25 = .ok (.lreturn, 1) := by decide +kernel
theorem dX9_rightError_0 : decode cX9_rightError 0 = .ok (.aload_n 0, 1) := by decide +kernel
theorem dX9_rightError_1 : decode cX9_rightError 1 = .ok (.iload_n 1, 1) := by decide +kernel
theorem dX9_rightError_2 : decode cX9_rightError 2 = .ok (.iload_n 2, 1) := by decide +kernel
theorem dX9_rightError_3 : decode cX9_rightError 3 = .ok (.iload_n 3, 1) := by decide +kernel
theorem dX9_rightError_4 : decode cX9_rightError 4 = .ok (.invokevirtual 155, 3) := by decide +kernel
theorem dX9_rightError_7 : decode cX9_rightError 7 = .ok (.ifCond .eq 15, 3) := by decide +kernel
theorem dX9_rightError_10 : decode cX9_rightError 10 = .ok (.aload_n 0, 1) := by decide +kernel
theorem dX9_rightError_11 : decode cX9_rightError 11 = .ok (.getfield 45, 3) := by decide +kernel
theorem dX9_rightError_14 : decode cX9_rightError 14 = .ok (.iload_n 3, 1) := by decide +kernel
theorem dX9_rightError_15 : decode cX9_rightError 15 = .ok (.iload_n 2, 1) := by decide +kernel
theorem dX9_rightError_16 : decode cX9_rightError 16 = .ok (.invokevirtual 151, 3) := by decide +kernel
theorem dX9_rightError_19 : decode cX9_rightError 19 = .ok (.goto 4, 3) := by decide +kernel
theorem dX9_rightError_22 : decode cX9_rightError 22 = .ok (.iconst (-1), 1) := by decide +kernel
theorem dX9_rightError_23 : decode cX9_rightError 23 = .ok (.ireturn, 1) := by decide +kernel
theorem dX9_kind_0 : decode cX9_kind 0 = .ok (.aload_n 0, 1) := by decide +kernel
theorem dX9_kind_1 : decode cX9_kind 1 = .ok (.iload_n 1, 1) := by decide +kernel
theorem dX9_kind_2 : decode cX9_kind 2 = .ok (.invokevirtual 158, 3) := by decide +kernel
theorem dX9_kind_5 : decode cX9_kind 5 = .ok (.astore_n 3, 1) := by decide +kernel
theorem dX9_kind_6 : decode cX9_kind 6 = .ok (.aload_n 3, 1) := by decide +kernel
theorem dX9_kind_7 : decode cX9_kind 7 = .ok (.ifnull 14, 3) := by decide +kernel
theorem dX9_kind_10 : decode cX9_kind 10 = .ok (.aload_n 0, 1) := by decide +kernel
theorem dX9_kind_11 : decode cX9_kind 11 = .ok (.getfield 19, 3) := by decide +kernel
theorem dX9_kind_14 : decode cX9_kind 14 = .ok (.iload_n 2, 1) := by decide +kernel
theorem dX9_kind_15 : decode cX9_kind 15 = .ok (.invokevirtual 113, 3) := by decide +kernel
theorem dX9_kind_18 : decode cX9_kind 18 = .ok (.ifCond .ne 5, 3) := by decide +kernel
theorem dX9_kind_21 : decode cX9_kind 21 = .ok (.iconst (-1), 1) := by decide +kernel
theorem dX9_kind_22 : decode cX9_kind 22 = .ok (.ireturn, 1) := by decide +kernel
theorem dX9_kind_23 : decode cX9_kind 23 = .ok (.aload_n 0, 1) := by decide +kernel
theorem dX9_kind_24 : decode cX9_kind 24 = .ok (.getfield 53, 3) := by decide +kernel
theorem dX9_kind_27 : decode cX9_kind 27 = .ok (.aload_n 0, 1) := by decide +kernel
theorem dX9_kind_28 : decode cX9_kind 28 = .ok (.iconst 0, 1) := by decide +kernel
theorem dX9_kind_29 : decode cX9_kind 29 = .ok (.invokevirtual 69, 3) := by decide +kernel
theorem dX9_kind_32 : decode cX9_kind 32 = .ok (.aload_n 3, 1) := by decide +kernel
theorem dX9_kind_33 : decode cX9_kind 33 = .ok (.invokevirtual 161, 3) := by decide +kernel
theorem dX9_kind_36 : decode cX9_kind 36 = .ok (.aload_n 0, 1) := by decide +kernel
theorem dX9_kind_37 : decode cX9_kind 37 = .ok (.getfield 53, 3) := by decide +kernel
theorem dX9_kind_40 : decode cX9_kind 40 = .ok (.aload_n 3, 1) := by decide +kernel
theorem dX9_kind_41 : decode cX9_kind 41 = .ok (.iload_n 2, 1) := by decide +kernel
theorem dX9_kind_42 : decode cX9_kind 42 = .ok (.invokevirtual 165, 3) := by decide +kernel
theorem dX9_kind_45 : decode cX9_kind 45 = .ok (.ireturn, 1) := by decide +kernel
theorem dX9_points_0 : decode cX9_points 0 = .ok (.aload_n 0, 1) := by decide +kernel
theorem dX9_points_1 : decode cX9_points 1 = .ok (.iload_n 1, 1) := by decide +kernel
theorem dX9_points_2 : decode cX9_points 2 = .ok (.invokevirtual 158, 3) := by decide +kernel
theorem dX9_points_5 : decode cX9_points 5 = .ok (.astore_n 3, 1) := by decide +kernel
theorem dX9_points_6 : decode cX9_points 6 = .ok (.aload_n 3, 1) := by decide +kernel
theorem dX9_points_7 : decode cX9_points 7 = .ok (.ifnull 19, 3) := by decide +kernel
theorem dX9_points_10 : decode cX9_points 10 = .ok (.iload_n 2, 1) := by decide +kernel
theorem dX9_points_11 : decode cX9_points 11 = .ok (.iconst (-1), 1) := by decide +kernel
theorem dX9_points_12 : decode cX9_points 12 = .ok (.if_icmp .eq 16, 3) := by decide +kernel
theorem dX9_points_15 : decode cX9_points 15 = .ok (.aload_n 0, 1) := by decide +kernel
theorem dX9_points_16 : decode cX9_points 16 = .ok (.getfield 19, 3) := by decide +kernel
theorem dX9_points_19 : decode cX9_points 19 = .ok (.iload_n 2, 1) := by decide +kernel
theorem dX9_points_20 : decode cX9_points 20 = .ok (.invokevirtual 113, 3) := by decide +kernel
theorem dX9_points_23 : decode cX9_points 23 = .ok (.ifCond .ne 5, 3) := by decide +kernel
theorem dX9_points_26 : decode cX9_points 26 = .ok (.iconst (-1), 1) := by decide +kernel
theorem dX9_points_27 : decode cX9_points 27 = .ok (.ireturn, 1) := by decide +kernel
theorem dX9_points_28 : decode cX9_points 28 = .ok (.aload_n 0, 1) := by decide +kernel
theorem dX9_points_29 : decode cX9_points 29 = .ok (.getfield 53, 3) := by decide +kernel
theorem dX9_points_32 : decode cX9_points 32 = .ok (.aload_n 0, 1) := by decide +kernel
theorem dX9_points_33 : decode cX9_points 33 = .ok (.iconst 0, 1) := by decide +kernel
theorem dX9_points_34 : decode cX9_points 34 = .ok (.invokevirtual 69, 3) := by decide +kernel
theorem dX9_points_37 : decode cX9_points 37 = .ok (.aload_n 3, 1) := by decide +kernel
theorem dX9_points_38 : decode cX9_points 38 = .ok (.invokevirtual 161, 3) := by decide +kernel
theorem dX9_points_41 : decode cX9_points 41 = .ok (.iconst 0, 1) := by decide +kernel
theorem dX9_points_42 : decode cX9_points 42 = .ok (.istore 4, 2) := by decide +kernel
theorem dX9_points_44 : decode cX9_points 44 = .ok (.iconst 0, 1) := by decide +kernel
theorem dX9_points_45 : decode cX9_points 45 = .ok (.istore 5, 2) := by decide +kernel
theorem dX9_points_47 : decode cX9_points 47 = .ok (.iload 5, 2) := by decide +kernel
theorem dX9_points_49 : decode cX9_points 49 = .ok (.bipush 64, 2) := by decide +kernel
theorem dX9_points_51 : decode cX9_points 51 = .ok (.if_icmp .ge 59, 3) := by decide +kernel
theorem dX9_points_54 : decode cX9_points 54 = .ok (.aload_n 0, 1) := by decide +kernel
theorem dX9_points_55 : decode cX9_points 55 = .ok (.getfield 19, 3) := by decide +kernel
theorem dX9_points_58 : decode cX9_points 58 = .ok (.iload 5, 2) := by decide +kernel
theorem dX9_points_60 : decode cX9_points 60 = .ok (.invokevirtual 113, 3) := by decide +kernel
theorem dX9_points_63 : decode cX9_points 63 = .ok (.ifCond .eq 41, 3) := by decide +kernel
theorem dX9_points_66 : decode cX9_points 66 = .ok (.iload_n 2, 1) := by decide +kernel
theorem dX9_points_67 : decode cX9_points 67 = .ok (.iconst (-1), 1) := by decide +kernel
theorem dX9_points_68 : decode cX9_points 68 = .ok (.if_icmp .eq 9, 3) := by decide +kernel
theorem dX9_points_71 : decode cX9_points 71 = .ok (.iload_n 2, 1) := by decide +kernel
theorem dX9_points_72 : decode cX9_points 72 = .ok (.iload 5, 2) := by decide +kernel
theorem dX9_points_74 : decode cX9_points 74 = .ok (.if_icmp .ne 30, 3) := by decide +kernel
theorem dX9_points_77 : decode cX9_points 77 = .ok (.iload 4, 2) := by decide +kernel
theorem dX9_points_79 : decode cX9_points 79 = .ok (.aload_n 0, 1) := by decide +kernel
theorem dX9_points_80 : decode cX9_points 80 = .ok (.getfield 53, 3) := by decide +kernel
theorem dX9_points_83 : decode cX9_points 83 = .ok (.aload_n 3, 1) := by decide +kernel
theorem dX9_points_84 : decode cX9_points 84 = .ok (.iload 5, 2) := by decide +kernel
theorem dX9_points_86 : decode cX9_points 86 = .ok (.invokevirtual 165, 3) := by decide +kernel
theorem dX9_points_89 : decode cX9_points 89 = .ok (.aload_n 0, 1) := by decide +kernel
theorem dX9_points_90 : decode cX9_points 90 = .ok (.getfield 19, 3) := by decide +kernel
theorem dX9_points_93 : decode cX9_points 93 = .ok (.iload 5, 2) := by decide +kernel
theorem dX9_points_95 : decode cX9_points 95 = .ok (.invokevirtual 168, 3) := by decide +kernel
theorem dX9_points_98 : decode cX9_points 98 = .ok (.invokestatic 171, 3) := by decide +kernel
theorem dX9_points_101 : decode cX9_points 101 = .ok (.iadd, 1) := by decide +kernel
theorem dX9_points_102 : decode cX9_points 102 = .ok (.istore 4, 2) := by decide +kernel
theorem dX9_points_104 : decode cX9_points 104 = .ok (.iinc 5 1, 3) := by decide +kernel
theorem dX9_points_107 : decode cX9_points 107 = .ok (.goto (-60), 3) := by decide +kernel
theorem dX9_points_110 : decode cX9_points 110 = .ok (.iload 4, 2) := by decide +kernel
theorem dX9_points_112 : decode cX9_points 112 = .ok (.ireturn, 1) := by decide +kernel
theorem dX9_slip_0 : decode cX9_slip 0 = .ok (.aload_n 0, 1) := by decide +kernel
theorem dX9_slip_1 : decode cX9_slip 1 = .ok (.iload_n 1, 1) := by decide +kernel
theorem dX9_slip_2 : decode cX9_slip 2 = .ok (.invokevirtual 158, 3) := by decide +kernel
theorem dX9_slip_5 : decode cX9_slip 5 = .ok (.astore 4, 2) := by decide +kernel
theorem dX9_slip_7 : decode cX9_slip 7 = .ok (.aload 4, 2) := by decide +kernel
theorem dX9_slip_9 : decode cX9_slip 9 = .ok (.ifnull 23, 3) := by decide +kernel
theorem dX9_slip_12 : decode cX9_slip 12 = .ok (.aload_n 0, 1) := by decide +kernel
theorem dX9_slip_13 : decode cX9_slip 13 = .ok (.getfield 19, 3) := by decide +kernel
theorem dX9_slip_16 : decode cX9_slip 16 = .ok (.iload_n 2, 1) := by decide +kernel
theorem dX9_slip_17 : decode cX9_slip 17 = .ok (.invokevirtual 113, 3) := by decide +kernel
theorem dX9_slip_20 : decode cX9_slip 20 = .ok (.ifCond .eq 12, 3) := by decide +kernel
theorem dX9_slip_23 : decode cX9_slip 23 = .ok (.iload_n 3, 1) := by decide +kernel
theorem dX9_slip_24 : decode cX9_slip 24 = .ok (.ifCond .lt 8, 3) := by decide +kernel
theorem dX9_slip_27 : decode cX9_slip 27 = .ok (.iload_n 3, 1) := by decide +kernel
theorem dX9_slip_28 : decode cX9_slip 28 = .ok (.iconst 1, 1) := by decide +kernel
theorem dX9_slip_29 : decode cX9_slip 29 = .ok (.if_icmp .le 5, 3) := by decide +kernel
theorem dX9_slip_32 : decode cX9_slip 32 = .ok (.iconst (-1), 1) := by decide +kernel
theorem dX9_slip_33 : decode cX9_slip 33 = .ok (.ireturn, 1) := by decide +kernel
theorem dX9_slip_34 : decode cX9_slip 34 = .ok (.aload_n 0, 1) := by decide +kernel
theorem dX9_slip_35 : decode cX9_slip 35 = .ok (.getfield 53, 3) := by decide +kernel
theorem dX9_slip_38 : decode cX9_slip 38 = .ok (.aload_n 0, 1) := by decide +kernel
theorem dX9_slip_39 : decode cX9_slip 39 = .ok (.iconst 0, 1) := by decide +kernel
theorem dX9_slip_40 : decode cX9_slip 40 = .ok (.invokevirtual 69, 3) := by decide +kernel
theorem dX9_slip_43 : decode cX9_slip 43 = .ok (.aload 4, 2) := by decide +kernel
theorem dX9_slip_45 : decode cX9_slip 45 = .ok (.invokevirtual 161, 3) := by decide +kernel
theorem dX9_slip_48 : decode cX9_slip 48 = .ok (.aload_n 0, 1) := by decide +kernel
theorem dX9_slip_49 : decode cX9_slip 49 = .ok (.getfield 53, 3) := by decide +kernel
theorem dX9_slip_52 : decode cX9_slip 52 = .ok (.aload 4, 2) := by decide +kernel
theorem dX9_slip_54 : decode cX9_slip 54 = .ok (.iload_n 2, 1) := by decide +kernel
theorem dX9_slip_55 : decode cX9_slip 55 = .ok (.invokevirtual 165, 3) := by decide +kernel
theorem dX9_slip_58 : decode cX9_slip 58 = .ok (.iconst 4, 1) := by decide +kernel
theorem dX9_slip_59 : decode cX9_slip 59 = .ok (.if_icmp .eq 5, 3) := by decide +kernel
theorem dX9_slip_62 : decode cX9_slip 62 = .ok (.iconst (-1), 1) := by decide +kernel
theorem dX9_slip_63 : decode cX9_slip 63 = .ok (.ireturn, 1) := by decide +kernel
theorem dX9_slip_64 : decode cX9_slip 64 = .ok (.iload_n 3, 1) := by decide +kernel
theorem dX9_slip_65 : decode cX9_slip 65 = .ok (.ifCond .ne 13, 3) := by decide +kernel
theorem dX9_slip_68 : decode cX9_slip 68 = .ok (.aload_n 0, 1) := by decide +kernel
theorem dX9_slip_69 : decode cX9_slip 69 = .ok (.getfield 53, 3) := by decide +kernel
theorem dX9_slip_72 : decode cX9_slip 72 = .ok (.invokevirtual 174, 3) := by decide +kernel
theorem dX9_slip_75 : decode cX9_slip 75 = .ok (.goto 10, 3) := by decide +kernel
theorem dX9_slip_78 : decode cX9_slip 78 = .ok (.aload_n 0, 1) := by decide +kernel
theorem dX9_slip_79 : decode cX9_slip 79 = .ok (.getfield 53, 3) := by decide +kernel
theorem dX9_slip_82 : decode cX9_slip 82 = .ok (.invokevirtual 177, 3) := by decide +kernel
theorem dX9_slip_85 : decode cX9_slip 85 = .ok (.ireturn, 1) := by decide +kernel
theorem dX9_fault_0 : decode cX9_fault 0 = .ok (.aload_n 0, 1) := by decide +kernel
theorem dX9_fault_1 : decode cX9_fault 1 = .ok (.iload_n 1, 1) := by decide +kernel
theorem dX9_fault_2 : decode cX9_fault 2 = .ok (.invokevirtual 158, 3) := by decide +kernel
theorem dX9_fault_5 : decode cX9_fault 5 = .ok (.astore_n 3, 1) := by decide +kernel
theorem dX9_fault_6 : decode cX9_fault 6 = .ok (.aload_n 3, 1) := by decide +kernel
theorem dX9_fault_7 : decode cX9_fault 7 = .ok (.ifnull 7, 3) := by decide +kernel
theorem dX9_fault_10 : decode cX9_fault 10 = .ok (.iload_n 2, 1) := by decide +kernel
theorem dX9_fault_11 : decode cX9_fault 11 = .ok (.ifCond .ge 5, 3) := by decide +kernel
theorem dX9_fault_14 : decode cX9_fault 14 = .ok (.iconst (-1), 1) := by decide +kernel
theorem dX9_fault_15 : decode cX9_fault 15 = .ok (.ireturn, 1) := by decide +kernel
theorem dX9_fault_16 : decode cX9_fault 16 = .ok (.aload_n 0, 1) := by decide +kernel
theorem dX9_fault_17 : decode cX9_fault 17 = .ok (.getfield 53, 3) := by decide +kernel
theorem dX9_fault_20 : decode cX9_fault 20 = .ok (.aload_n 0, 1) := by decide +kernel
theorem dX9_fault_21 : decode cX9_fault 21 = .ok (.iconst 0, 1) := by decide +kernel
theorem dX9_fault_22 : decode cX9_fault 22 = .ok (.invokevirtual 69, 3) := by decide +kernel
theorem dX9_fault_25 : decode cX9_fault 25 = .ok (.aload_n 3, 1) := by decide +kernel
theorem dX9_fault_26 : decode cX9_fault 26 = .ok (.invokevirtual 161, 3) := by decide +kernel
theorem dX9_fault_29 : decode cX9_fault 29 = .ok (.iconst 0, 1) := by decide +kernel
theorem dX9_fault_30 : decode cX9_fault 30 = .ok (.istore 4, 2) := by decide +kernel
theorem dX9_fault_32 : decode cX9_fault 32 = .ok (.iconst 0, 1) := by decide +kernel
theorem dX9_fault_33 : decode cX9_fault 33 = .ok (.istore 5, 2) := by decide +kernel
theorem dX9_fault_35 : decode cX9_fault 35 = .ok (.iload 5, 2) := by decide +kernel
theorem dX9_fault_37 : decode cX9_fault 37 = .ok (.bipush 64, 2) := by decide +kernel
theorem dX9_fault_39 : decode cX9_fault 39 = .ok (.if_icmp .ge 49, 3) := by decide +kernel
theorem dX9_fault_42 : decode cX9_fault 42 = .ok (.aload_n 0, 1) := by decide +kernel
theorem dX9_fault_43 : decode cX9_fault 43 = .ok (.getfield 19, 3) := by decide +kernel
theorem dX9_fault_46 : decode cX9_fault 46 = .ok (.iload 5, 2) := by decide +kernel
theorem dX9_fault_48 : decode cX9_fault 48 = .ok (.invokevirtual 113, 3) := by decide +kernel
theorem dX9_fault_51 : decode cX9_fault 51 = .ok (.ifCond .eq 31, 3) := by decide +kernel
theorem dX9_fault_54 : decode cX9_fault 54 = .ok (.aload_n 0, 1) := by decide +kernel
theorem dX9_fault_55 : decode cX9_fault 55 = .ok (.getfield 53, 3) := by decide +kernel
theorem dX9_fault_58 : decode cX9_fault 58 = .ok (.aload_n 3, 1) := by decide +kernel
theorem dX9_fault_59 : decode cX9_fault 59 = .ok (.iload 5, 2) := by decide +kernel
theorem dX9_fault_61 : decode cX9_fault 61 = .ok (.invokevirtual 165, 3) := by decide +kernel
theorem dX9_fault_64 : decode cX9_fault 64 = .ok (.invokestatic 180, 3) := by decide +kernel
theorem dX9_fault_67 : decode cX9_fault 67 = .ok (.ifCond .eq 15, 3) := by decide +kernel
theorem dX9_fault_70 : decode cX9_fault 70 = .ok (.iload 4, 2) := by decide +kernel
theorem dX9_fault_72 : decode cX9_fault 72 = .ok (.iload_n 2, 1) := by decide +kernel
theorem dX9_fault_73 : decode cX9_fault 73 = .ok (.if_icmp .ne 6, 3) := by decide +kernel
theorem dX9_fault_76 : decode cX9_fault 76 = .ok (.iload 5, 2) := by decide +kernel
theorem dX9_fault_78 : decode cX9_fault 78 = .ok (.ireturn, 1) := by decide +kernel
theorem dX9_fault_79 : decode cX9_fault 79 = .ok (.iinc 4 1, 3) := by decide +kernel
theorem dX9_fault_82 : decode cX9_fault 82 = .ok (.iinc 5 1, 3) := by decide +kernel
theorem dX9_fault_85 : decode cX9_fault 85 = .ok (.goto (-50), 3) := by decide +kernel
theorem dX9_fault_88 : decode cX9_fault 88 = .ok (.iconst (-1), 1) := by decide +kernel
theorem dX9_fault_89 : decode cX9_fault 89 = .ok (.ireturn, 1) := by decide +kernel
theorem dX9_copied_0 : decode cX9_copied 0 = .ok (.aload_n 0, 1) := by decide +kernel
theorem dX9_copied_1 : decode cX9_copied 1 = .ok (.iload_n 1, 1) := by decide +kernel
theorem dX9_copied_2 : decode cX9_copied 2 = .ok (.invokevirtual 158, 3) := by decide +kernel
theorem dX9_copied_5 : decode cX9_copied 5 = .ok (.astore 4, 2) := by decide +kernel
theorem dX9_copied_7 : decode cX9_copied 7 = .ok (.aload_n 0, 1) := by decide +kernel
theorem dX9_copied_8 : decode cX9_copied 8 = .ok (.iload_n 2, 1) := by decide +kernel
theorem dX9_copied_9 : decode cX9_copied 9 = .ok (.invokevirtual 158, 3) := by decide +kernel
theorem dX9_copied_12 : decode cX9_copied 12 = .ok (.astore 5, 2) := by decide +kernel
theorem dX9_copied_14 : decode cX9_copied 14 = .ok (.aload 4, 2) := by decide +kernel
theorem dX9_copied_16 : decode cX9_copied 16 = .ok (.ifnull 17, 3) := by decide +kernel
theorem dX9_copied_19 : decode cX9_copied 19 = .ok (.aload 5, 2) := by decide +kernel
theorem dX9_copied_21 : decode cX9_copied 21 = .ok (.ifnull 12, 3) := by decide +kernel
theorem dX9_copied_24 : decode cX9_copied 24 = .ok (.iload_n 1, 1) := by decide +kernel
theorem dX9_copied_25 : decode cX9_copied 25 = .ok (.iload_n 2, 1) := by decide +kernel
theorem dX9_copied_26 : decode cX9_copied 26 = .ok (.if_icmp .eq 7, 3) := by decide +kernel
theorem dX9_copied_29 : decode cX9_copied 29 = .ok (.iload_n 3, 1) := by decide +kernel
theorem dX9_copied_30 : decode cX9_copied 30 = .ok (.ifCond .ge 5, 3) := by decide +kernel
theorem dX9_copied_33 : decode cX9_copied 33 = .ok (.iconst (-1), 1) := by decide +kernel
theorem dX9_copied_34 : decode cX9_copied 34 = .ok (.ireturn, 1) := by decide +kernel
theorem dX9_copied_35 : decode cX9_copied 35 = .ok (.iconst 0, 1) := by decide +kernel
theorem dX9_copied_36 : decode cX9_copied 36 = .ok (.istore 6, 2) := by decide +kernel
theorem dX9_copied_38 : decode cX9_copied 38 = .ok (.iconst 0, 1) := by decide +kernel
theorem dX9_copied_39 : decode cX9_copied 39 = .ok (.istore 7, 2) := by decide +kernel
theorem dX9_copied_41 : decode cX9_copied 41 = .ok (.iload 7, 2) := by decide +kernel
theorem dX9_copied_43 : decode cX9_copied 43 = .ok (.bipush 64, 2) := by decide +kernel
theorem dX9_copied_45 : decode cX9_copied 45 = .ok (.if_icmp .ge 46, 3) := by decide +kernel
theorem dX9_copied_48 : decode cX9_copied 48 = .ok (.aload_n 0, 1) := by decide +kernel
theorem dX9_copied_49 : decode cX9_copied 49 = .ok (.getfield 19, 3) := by decide +kernel
theorem dX9_copied_52 : decode cX9_copied 52 = .ok (.iload 7, 2) := by decide +kernel
theorem dX9_copied_54 : decode cX9_copied 54 = .ok (.invokevirtual 110, 3) := by decide +kernel
theorem dX9_copied_57 : decode cX9_copied 57 = .ok (.ifCond .ne 28, 3) := by decide +kernel
theorem dX9_copied_60 : decode cX9_copied 60 = .ok (.aload_n 0, 1) := by decide +kernel
theorem dX9_copied_61 : decode cX9_copied 61 = .ok (.aload 4, 2) := by decide +kernel
theorem dX9_copied_63 : decode cX9_copied 63 = .ok (.aload 5, 2) := by decide +kernel
theorem dX9_copied_65 : decode cX9_copied 65 = .ok (.iload 7, 2) := by decide +kernel
theorem dX9_copied_67 : decode cX9_copied 67 = .ok (.invokevirtual 183, 3) := by decide +kernel
theorem dX9_copied_70 : decode cX9_copied 70 = .ok (.ifCond .eq 15, 3) := by decide +kernel
theorem dX9_copied_73 : decode cX9_copied 73 = .ok (.iload 6, 2) := by decide +kernel
theorem dX9_copied_75 : decode cX9_copied 75 = .ok (.iload_n 3, 1) := by decide +kernel
theorem dX9_copied_76 : decode cX9_copied 76 = .ok (.if_icmp .ne 6, 3) := by decide +kernel
theorem dX9_copied_79 : decode cX9_copied 79 = .ok (.iload 7, 2) := by decide +kernel
theorem dX9_copied_81 : decode cX9_copied 81 = .ok (.ireturn, 1) := by decide +kernel
theorem dX9_copied_82 : decode cX9_copied 82 = .ok (.iinc 6 1, 3) := by decide +kernel
theorem dX9_copied_85 : decode cX9_copied 85 = .ok (.iinc 7 1, 3) := by decide +kernel
theorem dX9_copied_88 : decode cX9_copied 88 = .ok (.goto (-47), 3) := by decide +kernel
theorem dX9_copied_91 : decode cX9_copied 91 = .ok (.iconst (-1), 1) := by decide +kernel
theorem dX9_copied_92 : decode cX9_copied 92 = .ok (.ireturn, 1) := by decide +kernel
theorem dX9_look_0 : decode cX9_look 0 = .ok (.aload_n 0, 1) := by decide +kernel
theorem dX9_look_1 : decode cX9_look 1 = .ok (.iload_n 1, 1) := by decide +kernel
theorem dX9_look_2 : decode cX9_look 2 = .ok (.invokevirtual 69, 3) := by decide +kernel
theorem dX9_look_5 : decode cX9_look 5 = .ok (.astore 4, 2) := by decide +kernel
theorem dX9_look_7 : decode cX9_look 7 = .ok (.aload 4, 2) := by decide +kernel
theorem dX9_look_9 : decode cX9_look 9 = .ok (.ifnull 10, 3) := by decide +kernel
theorem dX9_look_12 : decode cX9_look 12 = .ok (.iload_n 2, 1) := by decide +kernel
theorem dX9_look_13 : decode cX9_look 13 = .ok (.invokestatic 73, 3) := by decide +kernel
theorem dX9_look_16 : decode cX9_look 16 = .ok (.ifCond .ne 5, 3) := by decide +kernel
theorem dX9_look_19 : decode cX9_look 19 = .ok (.iconst (-1), 1) := by decide +kernel
theorem dX9_look_20 : decode cX9_look 20 = .ok (.ireturn, 1) := by decide +kernel
theorem dX9_look_21 : decode cX9_look 21 = .ok (.iload_n 3, 1) := by decide +kernel
theorem dX9_look_22 : decode cX9_look 22 = .ok (.ifCond .ne 10, 3) := by decide +kernel
theorem dX9_look_25 : decode cX9_look 25 = .ok (.aload 4, 2) := by decide +kernel
theorem dX9_look_27 : decode cX9_look 27 = .ok (.iload_n 2, 1) := by decide +kernel
theorem dX9_look_28 : decode cX9_look 28 = .ok (.invokevirtual 103, 3) := by decide +kernel
theorem dX9_look_31 : decode cX9_look 31 = .ok (.ireturn, 1) := by decide +kernel
theorem dX9_look_32 : decode cX9_look 32 = .ok (.iload_n 3, 1) := by decide +kernel
theorem dX9_look_33 : decode cX9_look 33 = .ok (.iconst 2, 1) := by decide +kernel
theorem dX9_look_34 : decode cX9_look 34 = .ok (.if_icmp .ne 11, 3) := by decide +kernel
theorem dX9_look_37 : decode cX9_look 37 = .ok (.aload_n 0, 1) := by decide +kernel
theorem dX9_look_38 : decode cX9_look 38 = .ok (.aload 4, 2) := by decide +kernel
theorem dX9_look_40 : decode cX9_look 40 = .ok (.iload_n 2, 1) := by decide +kernel
theorem dX9_look_41 : decode cX9_look 41 = .ok (.invokevirtual 187, 3) := by decide +kernel
theorem dX9_look_44 : decode cX9_look 44 = .ok (.ireturn, 1) := by decide +kernel
theorem dX9_look_45 : decode cX9_look 45 = .ok (.aload 4, 2) := by decide +kernel
theorem dX9_look_47 : decode cX9_look 47 = .ok (.iload_n 2, 1) := by decide +kernel
theorem dX9_look_48 : decode cX9_look 48 = .ok (.invokevirtual 190, 3) := by decide +kernel
theorem dX9_look_51 : decode cX9_look 51 = .ok (.astore 5, 2) := by decide +kernel
theorem dX9_look_53 : decode cX9_look 53 = .ok (.iload_n 3, 1) := by decide +kernel
theorem dX9_look_54 : decode cX9_look 54 = .ok (.iconst 1, 1) := by decide +kernel
theorem dX9_look_55 : decode cX9_look 55 = .ok (.if_icmp .ne 23, 3) := by decide +kernel
theorem dX9_look_58 : decode cX9_look 58 = .ok (.aload 5, 2) := by decide +kernel
theorem dX9_look_60 : decode cX9_look 60 = .ok (.ifnull 11, 3) := by decide +kernel
theorem dX9_look_63 : decode cX9_look 63 = .ok (.aload 5, 2) := by decide +kernel
theorem dX9_look_65 : decode cX9_look 65 = .ok (.invokevirtual 194, 3) := by decide +kernel
theorem dX9_look_68 : decode cX9_look 68 = .ok (.goto 9, 3) := by decide +kernel
theorem dX9_look_71 : decode cX9_look 71 = .ok (.aload 4, 2) := by decide +kernel
theorem dX9_look_73 : decode cX9_look 73 = .ok (.iload_n 2, 1) := by decide +kernel
theorem dX9_look_74 : decode cX9_look 74 = .ok (.invokevirtual 195, 3) := by decide +kernel
theorem dX9_look_77 : decode cX9_look 77 = .ok (.ireturn, 1) := by decide +kernel
theorem dX9_look_78 : decode cX9_look 78 = .ok (.aload 5, 2) := by decide +kernel
theorem dX9_look_80 : decode cX9_look 80 = .ok (.ifnull 21, 3) := by decide +kernel
theorem dX9_look_83 : decode cX9_look 83 = .ok (.iload_n 3, 1) := by decide +kernel
theorem dX9_look_84 : decode cX9_look 84 = .ok (.bipush 10, 2) := by decide +kernel
theorem dX9_look_86 : decode cX9_look 86 = .ok (.if_icmp .lt 15, 3) := by decide +kernel
theorem dX9_look_89 : decode cX9_look 89 = .ok (.aload 5, 2) := by decide +kernel
theorem dX9_look_91 : decode cX9_look 91 = .ok (.iload_n 3, 1) := by decide +kernel
theorem dX9_look_92 : decode cX9_look 92 = .ok (.bipush 10, 2) := by decide +kernel
theorem dX9_look_94 : decode cX9_look 94 = .ok (.isub, 1) := by decide +kernel
theorem dX9_look_95 : decode cX9_look 95 = .ok (.invokevirtual 198, 3) := by decide +kernel
theorem dX9_look_98 : decode cX9_look 98 = .ok (.goto 4, 3) := by decide +kernel
theorem dX9_look_101 : decode cX9_look 101 = .ok (.iconst (-1), 1) := by decide +kernel
theorem dX9_look_102 : decode cX9_look 102 = .ok (.ireturn, 1) := by decide +kernel
theorem dX9_count_0 : decode cX9_count 0 = .ok (.iload_n 1, 1) := by decide +kernel
theorem dX9_count_1 : decode cX9_count 1 = .ok (.bipush 100, 2) := by decide +kernel
theorem dX9_count_3 : decode cX9_count 3 = .ok (.if_icmp .lt 22, 3) := by decide +kernel
theorem dX9_count_6 : decode cX9_count 6 = .ok (.iload_n 1, 1) := by decide +kernel
theorem dX9_count_7 : decode cX9_count 7 = .ok (.sipush 164, 3) := by decide +kernel
theorem dX9_count_10 : decode cX9_count 10 = .ok (.if_icmp .ge 15, 3) := by decide +kernel
theorem dX9_count_13 : decode cX9_count 13 = .ok (.aload_n 0, 1) := by decide +kernel
theorem dX9_count_14 : decode cX9_count 14 = .ok (.getfield 19, 3) := by decide +kernel
theorem dX9_count_17 : decode cX9_count 17 = .ok (.iload_n 1, 1) := by decide +kernel
theorem dX9_count_18 : decode cX9_count 18 = .ok (.bipush 100, 2) := by decide +kernel
theorem dX9_count_20 : decode cX9_count 20 = .ok (.isub, 1) := by decide +kernel
theorem dX9_count_21 : decode cX9_count 21 = .ok (.invokevirtual 168, 3) := by decide +kernel
theorem dX9_count_24 : decode cX9_count 24 = .ok (.ireturn, 1) := by decide +kernel
theorem dX9_count_25 : decode cX9_count 25 = .ok (.iload_n 1, 1) := by decide +kernel
theorem dX9_count_26 : decode cX9_count 26 = .ok (.tableswitch 74 0 4 #[34, 42, 50, 58, 66], 34) := by decide +kernel
theorem dX9_count_60 : decode cX9_count 60 = .ok (.aload_n 0, 1) := by decide +kernel
theorem dX9_count_61 : decode cX9_count 61 = .ok (.getfield 19, 3) := by decide +kernel
theorem dX9_count_64 : decode cX9_count 64 = .ok (.invokevirtual 116, 3) := by decide +kernel
theorem dX9_count_67 : decode cX9_count 67 = .ok (.ireturn, 1) := by decide +kernel
theorem dX9_count_68 : decode cX9_count 68 = .ok (.aload_n 0, 1) := by decide +kernel
theorem dX9_count_69 : decode cX9_count 69 = .ok (.getfield 19, 3) := by decide +kernel
theorem dX9_count_72 : decode cX9_count 72 = .ok (.invokevirtual 122, 3) := by decide +kernel
theorem dX9_count_75 : decode cX9_count 75 = .ok (.ireturn, 1) := by decide +kernel
theorem dX9_count_76 : decode cX9_count 76 = .ok (.aload_n 0, 1) := by decide +kernel
theorem dX9_count_77 : decode cX9_count 77 = .ok (.getfield 19, 3) := by decide +kernel
theorem dX9_count_80 : decode cX9_count 80 = .ok (.invokevirtual 128, 3) := by decide +kernel
theorem dX9_count_83 : decode cX9_count 83 = .ok (.ireturn, 1) := by decide +kernel
theorem dX9_count_84 : decode cX9_count 84 = .ok (.aload_n 0, 1) := by decide +kernel
theorem dX9_count_85 : decode cX9_count 85 = .ok (.getfield 19, 3) := by decide +kernel
theorem dX9_count_88 : decode cX9_count 88 = .ok (.invokevirtual 201, 3) := by decide +kernel
theorem dX9_count_91 : decode cX9_count 91 = .ok (.ireturn, 1) := by decide +kernel
theorem dX9_count_92 : decode cX9_count 92 = .ok (.aload_n 0, 1) := by decide +kernel
theorem dX9_count_93 : decode cX9_count 93 = .ok (.getfield 10, 3) := by decide +kernel
theorem dX9_count_96 : decode cX9_count 96 = .ok (.invokevirtual 65, 3) := by decide +kernel
theorem dX9_count_99 : decode cX9_count 99 = .ok (.ireturn, 1) := by decide +kernel
theorem dX9_count_100 : decode cX9_count 100 = .ok (.iconst (-1), 1) := by decide +kernel
theorem dX9_count_101 : decode cX9_count 101 = .ok (.ireturn, 1) := by decide +kernel
theorem dX9_sheetAt_0 : decode cX9_sheetAt 0 = .ok (.iload_n 1, 1) := by decide +kernel
theorem dX9_sheetAt_1 : decode cX9_sheetAt 1 = .ok (.ifCond .lt 21, 3) := by decide +kernel
theorem dX9_sheetAt_4 : decode cX9_sheetAt 4 = .ok (.iload_n 1, 1) := by decide +kernel
theorem dX9_sheetAt_5 : decode cX9_sheetAt 5 = .ok (.aload_n 0, 1) := by decide +kernel
theorem dX9_sheetAt_6 : decode cX9_sheetAt 6 = .ok (.getfield 25, 3) := by decide +kernel
theorem dX9_sheetAt_9 : decode cX9_sheetAt 9 = .ok (.arraylength, 1) := by decide +kernel
theorem dX9_sheetAt_10 : decode cX9_sheetAt 10 = .ok (.if_icmp .ge 12, 3) := by decide +kernel
theorem dX9_sheetAt_13 : decode cX9_sheetAt 13 = .ok (.aload_n 0, 1) := by decide +kernel
theorem dX9_sheetAt_14 : decode cX9_sheetAt 14 = .ok (.getfield 25, 3) := by decide +kernel
theorem dX9_sheetAt_17 : decode cX9_sheetAt 17 = .ok (.iload_n 1, 1) := by decide +kernel
theorem dX9_sheetAt_18 : decode cX9_sheetAt 18 = .ok (.aaload, 1) := by decide +kernel
theorem dX9_sheetAt_19 : decode cX9_sheetAt 19 = .ok (.goto 4, 3) := by decide +kernel
theorem dX9_sheetAt_22 : decode cX9_sheetAt 22 = .ok (.aconst_null, 1) := by decide +kernel
theorem dX9_sheetAt_23 : decode cX9_sheetAt 23 = .ok (.areturn, 1) := by decide +kernel
theorem dX9_pupilAt_0 : decode cX9_pupilAt 0 = .ok (.iload_n 1, 1) := by decide +kernel
theorem dX9_pupilAt_1 : decode cX9_pupilAt 1 = .ok (.ifCond .ne 7, 3) := by decide +kernel
theorem dX9_pupilAt_4 : decode cX9_pupilAt 4 = .ok (.aconst_null, 1) := by decide +kernel
theorem dX9_pupilAt_5 : decode cX9_pupilAt 5 = .ok (.goto 8, 3) := by decide +kernel
theorem dX9_pupilAt_8 : decode cX9_pupilAt 8 = .ok (.aload_n 0, 1) := by decide +kernel
theorem dX9_pupilAt_9 : decode cX9_pupilAt 9 = .ok (.iload_n 1, 1) := by decide +kernel
theorem dX9_pupilAt_10 : decode cX9_pupilAt 10 = .ok (.invokevirtual 69, 3) := by decide +kernel
theorem dX9_pupilAt_13 : decode cX9_pupilAt 13 = .ok (.areturn, 1) := by decide +kernel
theorem dX9_reckonsOwn_0 : decode cX9_reckonsOwn 0 = .ok (.aload_n 0, 1) := by decide +kernel
theorem dX9_reckonsOwn_1 : decode cX9_reckonsOwn 1 = .ok (.iload_n 1, 1) := by decide +kernel
theorem dX9_reckonsOwn_2 : decode cX9_reckonsOwn 2 = .ok (.invokevirtual 69, 3) := by decide +kernel
theorem dX9_reckonsOwn_5 : decode cX9_reckonsOwn 5 = .ok (.astore 4, 2) := by decide +kernel
theorem dX9_reckonsOwn_7 : decode cX9_reckonsOwn 7 = .ok (.aload 4, 2) := by decide +kernel
theorem dX9_reckonsOwn_9 : decode cX9_reckonsOwn 9 = .ok (.ifnull 21, 3) := by decide +kernel
theorem dX9_reckonsOwn_12 : decode cX9_reckonsOwn 12 = .ok (.iload_n 2, 1) := by decide +kernel
theorem dX9_reckonsOwn_13 : decode cX9_reckonsOwn 13 = .ok (.invokestatic 73, 3) := by decide +kernel
theorem dX9_reckonsOwn_16 : decode cX9_reckonsOwn 16 = .ok (.ifCond .eq 14, 3) := by decide +kernel
theorem dX9_reckonsOwn_19 : decode cX9_reckonsOwn 19 = .ok (.aload_n 0, 1) := by decide +kernel
theorem dX9_reckonsOwn_20 : decode cX9_reckonsOwn 20 = .ok (.getfield 19, 3) := by decide +kernel
theorem dX9_reckonsOwn_23 : decode cX9_reckonsOwn 23 = .ok (.iload_n 3, 1) := by decide +kernel
theorem dX9_reckonsOwn_24 : decode cX9_reckonsOwn 24 = .ok (.invokevirtual 134, 3) := by decide +kernel
theorem dX9_reckonsOwn_27 : decode cX9_reckonsOwn 27 = .ok (.ifCond .ne 5, 3) := by decide +kernel
theorem dX9_reckonsOwn_30 : decode cX9_reckonsOwn 30 = .ok (.iconst 0, 1) := by decide +kernel
theorem dX9_reckonsOwn_31 : decode cX9_reckonsOwn 31 = .ok (.ireturn, 1) := by decide +kernel
theorem dX9_reckonsOwn_32 : decode cX9_reckonsOwn 32 = .ok (.aload_n 0, 1) := by decide +kernel
theorem dX9_reckonsOwn_33 : decode cX9_reckonsOwn 33 = .ok (.getfield 42, 3) := by decide +kernel
theorem dX9_reckonsOwn_36 : decode cX9_reckonsOwn 36 = .ok (.aload 4, 2) := by decide +kernel
theorem dX9_reckonsOwn_38 : decode cX9_reckonsOwn 38 = .ok (.invokevirtual 204, 3) := by decide +kernel
theorem dX9_reckonsOwn_41 : decode cX9_reckonsOwn 41 = .ok (.iconst 1, 1) := by decide +kernel
theorem dX9_reckonsOwn_42 : decode cX9_reckonsOwn 42 = .ok (.ireturn, 1) := by decide +kernel
theorem dX9_reckonsRight_0 : decode cX9_reckonsRight 0 = .ok (.aload_n 0, 1) := by decide +kernel
theorem dX9_reckonsRight_1 : decode cX9_reckonsRight 1 = .ok (.iload_n 1, 1) := by decide +kernel
theorem dX9_reckonsRight_2 : decode cX9_reckonsRight 2 = .ok (.invokevirtual 69, 3) := by decide +kernel
theorem dX9_reckonsRight_5 : decode cX9_reckonsRight 5 = .ok (.astore 4, 2) := by decide +kernel
theorem dX9_reckonsRight_7 : decode cX9_reckonsRight 7 = .ok (.aload_n 0, 1) := by decide +kernel
theorem dX9_reckonsRight_8 : decode cX9_reckonsRight 8 = .ok (.iconst 0, 1) := by decide +kernel
theorem dX9_reckonsRight_9 : decode cX9_reckonsRight 9 = .ok (.invokevirtual 69, 3) := by decide +kernel
theorem dX9_reckonsRight_12 : decode cX9_reckonsRight 12 = .ok (.astore 5, 2) := by decide +kernel
theorem dX9_reckonsRight_14 : decode cX9_reckonsRight 14 = .ok (.aload 4, 2) := by decide +kernel
theorem dX9_reckonsRight_16 : decode cX9_reckonsRight 16 = .ok (.ifnull 26, 3) := by decide +kernel
theorem dX9_reckonsRight_19 : decode cX9_reckonsRight 19 = .ok (.aload 5, 2) := by decide +kernel
theorem dX9_reckonsRight_21 : decode cX9_reckonsRight 21 = .ok (.ifnull 21, 3) := by decide +kernel
theorem dX9_reckonsRight_24 : decode cX9_reckonsRight 24 = .ok (.iload_n 2, 1) := by decide +kernel
theorem dX9_reckonsRight_25 : decode cX9_reckonsRight 25 = .ok (.invokestatic 73, 3) := by decide +kernel
theorem dX9_reckonsRight_28 : decode cX9_reckonsRight 28 = .ok (.ifCond .eq 14, 3) := by decide +kernel
theorem dX9_reckonsRight_31 : decode cX9_reckonsRight 31 = .ok (.aload_n 0, 1) := by decide +kernel
theorem dX9_reckonsRight_32 : decode cX9_reckonsRight 32 = .ok (.getfield 19, 3) := by decide +kernel
theorem dX9_reckonsRight_35 : decode cX9_reckonsRight 35 = .ok (.iload_n 3, 1) := by decide +kernel
theorem dX9_reckonsRight_36 : decode cX9_reckonsRight 36 = .ok (.invokevirtual 134, 3) := by decide +kernel
theorem dX9_reckonsRight_39 : decode cX9_reckonsRight 39 = .ok (.ifCond .ne 5, 3) := by decide +kernel
theorem dX9_reckonsRight_42 : decode cX9_reckonsRight 42 = .ok (.iconst 0, 1) := by decide +kernel
theorem dX9_reckonsRight_43 : decode cX9_reckonsRight 43 = .ok (.ireturn, 1) := by decide +kernel
theorem dX9_reckonsRight_44 : decode cX9_reckonsRight 44 = .ok (.aload_n 0, 1) := by decide +kernel
theorem dX9_reckonsRight_45 : decode cX9_reckonsRight 45 = .ok (.getfield 38, 3) := by decide +kernel
theorem dX9_reckonsRight_48 : decode cX9_reckonsRight 48 = .ok (.aload 5, 2) := by decide +kernel
theorem dX9_reckonsRight_50 : decode cX9_reckonsRight 50 = .ok (.invokevirtual 204, 3) := by decide +kernel
theorem dX9_reckonsRight_53 : decode cX9_reckonsRight 53 = .ok (.aload_n 0, 1) := by decide +kernel
theorem dX9_reckonsRight_54 : decode cX9_reckonsRight 54 = .ok (.getfield 45, 3) := by decide +kernel
theorem dX9_reckonsRight_57 : decode cX9_reckonsRight 57 = .ok (.aload 4, 2) := by decide +kernel
theorem dX9_reckonsRight_59 : decode cX9_reckonsRight 59 = .ok (.iload_n 2, 1) := by decide +kernel
theorem dX9_reckonsRight_60 : decode cX9_reckonsRight 60 = .ok (.aload_n 0, 1) := by decide +kernel
theorem dX9_reckonsRight_61 : decode cX9_reckonsRight 61 = .ok (.getfield 38, 3) := by decide +kernel
theorem dX9_reckonsRight_64 : decode cX9_reckonsRight 64 = .ok (.invokevirtual 208, 3) := by decide +kernel
theorem dX9_reckonsRight_67 : decode cX9_reckonsRight 67 = .ok (.iconst 1, 1) := by decide +kernel
theorem dX9_reckonsRight_68 : decode cX9_reckonsRight 68 = .ok (.ireturn, 1) := by decide +kernel
theorem dX9_isShared_0 : decode cX9_isShared 0 = .ok (.aload_n 0, 1) := by decide +kernel
theorem dX9_isShared_1 : decode cX9_isShared 1 = .ok (.iconst 0, 1) := by decide +kernel
theorem dX9_isShared_2 : decode cX9_isShared 2 = .ok (.invokevirtual 69, 3) := by decide +kernel
theorem dX9_isShared_5 : decode cX9_isShared 5 = .ok (.astore 4, 2) := by decide +kernel
theorem dX9_isShared_7 : decode cX9_isShared 7 = .ok (.aload_n 1, 1) := by decide +kernel
theorem dX9_isShared_8 : decode cX9_isShared 8 = .ok (.iload_n 3, 1) := by decide +kernel
theorem dX9_isShared_9 : decode cX9_isShared 9 = .ok (.invokevirtual 190, 3) := by decide +kernel
theorem dX9_isShared_12 : decode cX9_isShared 12 = .ok (.astore 5, 2) := by decide +kernel
theorem dX9_isShared_14 : decode cX9_isShared 14 = .ok (.aload 4, 2) := by decide +kernel
theorem dX9_isShared_16 : decode cX9_isShared 16 = .ok (.ifnull 21, 3) := by decide +kernel
theorem dX9_isShared_19 : decode cX9_isShared 19 = .ok (.aload 5, 2) := by decide +kernel
theorem dX9_isShared_21 : decode cX9_isShared 21 = .ok (.ifnull 16, 3) := by decide +kernel
theorem dX9_isShared_24 : decode cX9_isShared 24 = .ok (.aload 5, 2) := by decide +kernel
theorem dX9_isShared_26 : decode cX9_isShared 26 = .ok (.aload_n 2, 1) := by decide +kernel
theorem dX9_isShared_27 : decode cX9_isShared 27 = .ok (.iload_n 3, 1) := by decide +kernel
theorem dX9_isShared_28 : decode cX9_isShared 28 = .ok (.invokevirtual 190, 3) := by decide +kernel
theorem dX9_isShared_31 : decode cX9_isShared 31 = .ok (.invokevirtual 212, 3) := by decide +kernel
theorem dX9_isShared_34 : decode cX9_isShared 34 = .ok (.ifCond .ne 5, 3) := by decide +kernel
theorem dX9_isShared_37 : decode cX9_isShared 37 = .ok (.iconst 0, 1) := by decide +kernel
theorem dX9_isShared_38 : decode cX9_isShared 38 = .ok (.ireturn, 1) := by decide +kernel
theorem dX9_isShared_39 : decode cX9_isShared 39 = .ok (.aload 5, 2) := by decide +kernel
theorem dX9_isShared_41 : decode cX9_isShared 41 = .ok (.aload 4, 2) := by decide +kernel
theorem dX9_isShared_43 : decode cX9_isShared 43 = .ok (.iload_n 3, 1) := by decide +kernel
theorem dX9_isShared_44 : decode cX9_isShared 44 = .ok (.invokevirtual 190, 3) := by decide +kernel
theorem dX9_isShared_47 : decode cX9_isShared 47 = .ok (.invokevirtual 212, 3) := by decide +kernel
theorem dX9_isShared_50 : decode cX9_isShared 50 = .ok (.ifCond .ne 7, 3) := by decide +kernel
theorem dX9_isShared_53 : decode cX9_isShared 53 = .ok (.iconst 1, 1) := by decide +kernel
theorem dX9_isShared_54 : decode cX9_isShared 54 = .ok (.goto 4, 3) := by decide +kernel
theorem dX9_isShared_57 : decode cX9_isShared 57 = .ok (.iconst 0, 1) := by decide +kernel
theorem dX9_isShared_58 : decode cX9_isShared 58 = .ok (.ireturn, 1) := by decide +kernel
theorem dX9_countComing_0 : decode cX9_countComing 0 = .ok (.lconst 0, 1) := by decide +kernel
theorem dX9_countComing_1 : decode cX9_countComing 1 = .ok (.lstore_n 3, 1) := by decide +kernel
theorem dX9_countComing_2 : decode cX9_countComing 2 = .ok (.iconst 0, 1) := by decide +kernel
theorem dX9_countComing_3 : decode cX9_countComing 3 = .ok (.istore 5, 2) := by decide +kernel
theorem dX9_countComing_5 : decode cX9_countComing 5 = .ok (.iload 5, 2) := by decide +kernel
theorem dX9_countComing_7 : decode cX9_countComing 7 = .ok (.bipush 64, 2) := by decide +kernel
theorem dX9_countComing_9 : decode cX9_countComing 9 = .ok (.if_icmp .ge 76, 3) := by decide +kernel
theorem dX9_countComing_12 : decode cX9_countComing 12 = .ok (.lload_n 3, 1) := by decide +kernel
theorem dX9_countComing_13 : decode cX9_countComing 13 = .ok (.lstore 6, 2) := by decide +kernel
theorem dX9_countComing_15 : decode cX9_countComing 15 = .ok (.iconst 0, 1) := by decide +kernel
theorem dX9_countComing_16 : decode cX9_countComing 16 = .ok (.istore 8, 2) := by decide +kernel
theorem dX9_countComing_18 : decode cX9_countComing 18 = .ok (.iload 8, 2) := by decide +kernel
theorem dX9_countComing_20 : decode cX9_countComing 20 = .ok (.bipush 64, 2) := by decide +kernel
theorem dX9_countComing_22 : decode cX9_countComing 22 = .ok (.if_icmp .ge 47, 3) := by decide +kernel
theorem dX9_countComing_25 : decode cX9_countComing 25 = .ok (.aload_n 0, 1) := by decide +kernel
theorem dX9_countComing_26 : decode cX9_countComing 26 = .ok (.getfield 19, 3) := by decide +kernel
theorem dX9_countComing_29 : decode cX9_countComing 29 = .ok (.iload 8, 2) := by decide +kernel
theorem dX9_countComing_31 : decode cX9_countComing 31 = .ok (.invokevirtual 110, 3) := by decide +kernel
theorem dX9_countComing_34 : decode cX9_countComing 34 = .ok (.ifCond .ne 29, 3) := by decide +kernel
theorem dX9_countComing_37 : decode cX9_countComing 37 = .ok (.aload_n 1, 1) := by decide +kernel
theorem dX9_countComing_38 : decode cX9_countComing 38 = .ok (.iload 8, 2) := by decide +kernel
theorem dX9_countComing_40 : decode cX9_countComing 40 = .ok (.invokevirtual 216, 3) := by decide +kernel
theorem dX9_countComing_43 : decode cX9_countComing 43 = .ok (.lload_n 3, 1) := by decide +kernel
theorem dX9_countComing_44 : decode cX9_countComing 44 = .ok (.iload_n 2, 1) := by decide +kernel
theorem dX9_countComing_45 : decode cX9_countComing 45 = .ok (.invokestatic 220, 3) := by decide +kernel
theorem dX9_countComing_48 : decode cX9_countComing 48 = .ok (.lor, 1) := by decide +kernel
theorem dX9_countComing_49 : decode cX9_countComing 49 = .ok (.land, 1) := by decide +kernel
theorem dX9_countComing_50 : decode cX9_countComing 50 = .ok (.lconst 0, 1) := by decide +kernel
theorem dX9_countComing_51 : decode cX9_countComing 51 = .ok (.lcmp, 1) := by decide +kernel
theorem dX9_countComing_52 : decode cX9_countComing 52 = .ok (.ifCond .eq 11, 3) := by decide +kernel
theorem dX9_countComing_55 : decode cX9_countComing 55 = .ok (.lload_n 3, 1) := by decide +kernel
theorem dX9_countComing_56 : decode cX9_countComing 56 = .ok (.iload 8, 2) := by decide +kernel
theorem dX9_countComing_58 : decode cX9_countComing 58 = .ok (.invokestatic 220, 3) := by decide +kernel
theorem dX9_countComing_61 : decode cX9_countComing 61 = .ok (.lor, 1) := by decide +kernel
theorem dX9_countComing_62 : decode cX9_countComing 62 = .ok (.lstore_n 3, 1) := by decide +kernel
theorem dX9_countComing_63 : decode cX9_countComing 63 = .ok (.iinc 8 1, 3) := by decide +kernel
theorem dX9_countComing_66 : decode cX9_countComing 66 = .ok (.goto (-48), 3) := by decide +kernel
theorem dX9_countComing_69 : decode cX9_countComing 69 = .ok (.lload_n 3, 1) := by decide +kernel
theorem dX9_countComing_70 : decode cX9_countComing 70 = .ok (.lload 6, 2) := by decide +kernel
theorem dX9_countComing_72 : decode cX9_countComing 72 = .ok (.lcmp, 1) := by decide +kernel
theorem dX9_countComing_73 : decode cX9_countComing 73 = .ok (.ifCond .ne 6, 3) := by decide +kernel
theorem dX9_countComing_76 : decode cX9_countComing 76 = .ok (.goto 9, 3) := by decide +kernel
theorem dX9_countComing_79 : decode cX9_countComing 79 = .ok (.iinc 5 1, 3) := by decide +kernel
theorem dX9_countComing_82 : decode cX9_countComing 82 = .ok (.goto (-77), 3) := by decide +kernel
theorem dX9_countComing_85 : decode cX9_countComing 85 = .ok (.lload_n 3, 1) := by decide +kernel
theorem dX9_countComing_86 : decode cX9_countComing 86 = .ok (.invokestatic 223, 3) := by decide +kernel
theorem dX9_countComing_89 : decode cX9_countComing 89 = .ok (.ireturn, 1) := by decide +kernel
theorem dX9_share_0 : decode cX9_share 0 = .ok (.iload_n 0, 1) := by decide +kernel
theorem dX9_share_1 : decode cX9_share 1 = .ok (.tableswitch 41 1 4 #[31, 37, 31, 33], 31) := by decide +kernel
theorem dX9_share_32 : decode cX9_share 32 = .ok (.iload_n 1, 1) := by decide +kernel
theorem dX9_share_33 : decode cX9_share 33 = .ok (.ireturn, 1) := by decide +kernel
theorem dX9_share_34 : decode cX9_share 34 = .ok (.iload_n 1, 1) := by decide +kernel
theorem dX9_share_35 : decode cX9_share 35 = .ok (.iconst 2, 1) := by decide +kernel
theorem dX9_share_36 : decode cX9_share 36 = .ok (.idiv, 1) := by decide +kernel
theorem dX9_share_37 : decode cX9_share 37 = .ok (.ireturn, 1) := by decide +kernel
theorem dX9_share_38 : decode cX9_share 38 = .ok (.iload_n 1, 1) := by decide +kernel
theorem dX9_share_39 : decode cX9_share 39 = .ok (.iconst 4, 1) := by decide +kernel
theorem dX9_share_40 : decode cX9_share 40 = .ok (.idiv, 1) := by decide +kernel
theorem dX9_share_41 : decode cX9_share 41 = .ok (.ireturn, 1) := by decide +kernel
theorem dX9_share_42 : decode cX9_share 42 = .ok (.iconst 0, 1) := by decide +kernel
theorem dX9_share_43 : decode cX9_share 43 = .ok (.ireturn, 1) := by decide +kernel
theorem dX9_isFaulty_0 : decode cX9_isFaulty 0 = .ok (.iload_n 0, 1) := by decide +kernel
theorem dX9_isFaulty_1 : decode cX9_isFaulty 1 = .ok (.iconst 1, 1) := by decide +kernel
theorem dX9_isFaulty_2 : decode cX9_isFaulty 2 = .ok (.if_icmp .eq 12, 3) := by decide +kernel
theorem dX9_isFaulty_5 : decode cX9_isFaulty 5 = .ok (.iload_n 0, 1) := by decide +kernel
theorem dX9_isFaulty_6 : decode cX9_isFaulty 6 = .ok (.iconst 3, 1) := by decide +kernel
theorem dX9_isFaulty_7 : decode cX9_isFaulty 7 = .ok (.if_icmp .eq 7, 3) := by decide +kernel
theorem dX9_isFaulty_10 : decode cX9_isFaulty 10 = .ok (.iconst 1, 1) := by decide +kernel
theorem dX9_isFaulty_11 : decode cX9_isFaulty 11 = .ok (.goto 4, 3) := by decide +kernel
theorem dX9_isFaulty_14 : decode cX9_isFaulty 14 = .ok (.iconst 0, 1) := by decide +kernel
theorem dX9_isFaulty_15 : decode cX9_isFaulty 15 = .ok (.ireturn, 1) := by decide +kernel
theorem dX9_isCell_0 : decode cX9_isCell 0 = .ok (.iload_n 0, 1) := by decide +kernel
theorem dX9_isCell_1 : decode cX9_isCell 1 = .ok (.ifCond .lt 13, 3) := by decide +kernel
theorem dX9_isCell_4 : decode cX9_isCell 4 = .ok (.iload_n 0, 1) := by decide +kernel
theorem dX9_isCell_5 : decode cX9_isCell 5 = .ok (.bipush 64, 2) := by decide +kernel
theorem dX9_isCell_7 : decode cX9_isCell 7 = .ok (.if_icmp .ge 7, 3) := by decide +kernel
theorem dX9_isCell_10 : decode cX9_isCell 10 = .ok (.iconst 1, 1) := by decide +kernel
theorem dX9_isCell_11 : decode cX9_isCell 11 = .ok (.goto 4, 3) := by decide +kernel
theorem dX9_isCell_14 : decode cX9_isCell 14 = .ok (.iconst 0, 1) := by decide +kernel
theorem dX9_isCell_15 : decode cX9_isCell 15 = .ok (.ireturn, 1) := by decide +kernel
theorem dX9_isNumber_0 : decode cX9_isNumber 0 = .ok (.iload_n 0, 1) := by decide +kernel
theorem dX9_isNumber_1 : decode cX9_isNumber 1 = .ok (.sipush (-9999), 3) := by decide +kernel
theorem dX9_isNumber_4 : decode cX9_isNumber 4 = .ok (.if_icmp .lt 14, 3) := by decide +kernel
theorem dX9_isNumber_7 : decode cX9_isNumber 7 = .ok (.iload_n 0, 1) := by decide +kernel
theorem dX9_isNumber_8 : decode cX9_isNumber 8 = .ok (.sipush 9999, 3) := by decide +kernel
theorem dX9_isNumber_11 : decode cX9_isNumber 11 = .ok (.if_icmp .gt 7, 3) := by decide +kernel
theorem dX9_isNumber_14 : decode cX9_isNumber 14 = .ok (.iconst 1, 1) := by decide +kernel
theorem dX9_isNumber_15 : decode cX9_isNumber 15 = .ok (.goto 4, 3) := by decide +kernel
theorem dX9_isNumber_18 : decode cX9_isNumber 18 = .ok (.iconst 0, 1) := by decide +kernel
theorem dX9_isNumber_19 : decode cX9_isNumber 19 = .ok (.ireturn, 1) := by decide +kernel
theorem dX9_isSign_0 : decode cX9_isSign 0 = .ok (.iload_n 0, 1) := by decide +kernel
theorem dX9_isSign_1 : decode cX9_isSign 1 = .ok (.bipush 43, 2) := by decide +kernel
theorem dX9_isSign_3 : decode cX9_isSign 3 = .ok (.if_icmp .eq 21, 3) := by decide +kernel
theorem dX9_isSign_6 : decode cX9_isSign 6 = .ok (.iload_n 0, 1) := by decide +kernel
theorem dX9_isSign_7 : decode cX9_isSign 7 = .ok (.bipush 45, 2) := by decide +kernel
theorem dX9_isSign_9 : decode cX9_isSign 9 = .ok (.if_icmp .eq 15, 3) := by decide +kernel
theorem dX9_isSign_12 : decode cX9_isSign 12 = .ok (.iload_n 0, 1) := by decide +kernel
theorem dX9_isSign_13 : decode cX9_isSign 13 = .ok (.bipush 42, 2) := by decide +kernel
theorem dX9_isSign_15 : decode cX9_isSign 15 = .ok (.if_icmp .eq 9, 3) := by decide +kernel
theorem dX9_isSign_18 : decode cX9_isSign 18 = .ok (.iload_n 0, 1) := by decide +kernel
theorem dX9_isSign_19 : decode cX9_isSign 19 = .ok (.bipush 47, 2) := by decide +kernel
theorem dX9_isSign_21 : decode cX9_isSign 21 = .ok (.if_icmp .ne 7, 3) := by decide +kernel
theorem dX9_isSign_24 : decode cX9_isSign 24 = .ok (.iconst 1, 1) := by decide +kernel
theorem dX9_isSign_25 : decode cX9_isSign 25 = .ok (.goto 4, 3) := by decide +kernel
theorem dX9_isSign_28 : decode cX9_isSign 28 = .ok (.iconst 0, 1) := by decide +kernel
theorem dX9_isSign_29 : decode cX9_isSign 29 = .ok (.ireturn, 1) := by decide +kernel
theorem dX9_bit_0 : decode cX9_bit 0 = .ok (.iload_n 0, 1) := by decide +kernel
theorem dX9_bit_1 : decode cX9_bit 1 = .ok (.ifCond .lt 15, 3) := by decide +kernel
theorem dX9_bit_4 : decode cX9_bit 4 = .ok (.iload_n 0, 1) := by decide +kernel
theorem dX9_bit_5 : decode cX9_bit 5 = .ok (.bipush 64, 2) := by decide +kernel
theorem dX9_bit_7 : decode cX9_bit 7 = .ok (.if_icmp .ge 9, 3) := by decide +kernel
theorem dX9_bit_10 : decode cX9_bit 10 = .ok (.lconst 1, 1) := by decide +kernel
theorem dX9_bit_11 : decode cX9_bit 11 = .ok (.iload_n 0, 1) := by decide +kernel
theorem dX9_bit_12 : decode cX9_bit 12 = .ok (.lshl, 1) := by decide +kernel
theorem dX9_bit_13 : decode cX9_bit 13 = .ok (.goto 4, 3) := by decide +kernel
theorem dX9_bit_16 : decode cX9_bit 16 = .ok (.lconst 0, 1) := by decide +kernel
theorem dX9_bit_17 : decode cX9_bit 17 = .ok (.lreturn, 1) := by decide +kernel
theorem dX9_rectangle_0 : decode cX9_rectangle 0 = .ok (.iload_n 0, 1) := by decide +kernel
theorem dX9_rectangle_1 : decode cX9_rectangle 1 = .ok (.bipush 8, 2) := by decide +kernel
theorem dX9_rectangle_3 : decode cX9_rectangle 3 = .ok (.irem, 1) := by decide +kernel
theorem dX9_rectangle_4 : decode cX9_rectangle 4 = .ok (.iload_n 1, 1) := by decide +kernel
theorem dX9_rectangle_5 : decode cX9_rectangle 5 = .ok (.bipush 8, 2) := by decide +kernel
theorem dX9_rectangle_7 : decode cX9_rectangle 7 = .ok (.irem, 1) := by decide +kernel
theorem dX9_rectangle_8 : decode cX9_rectangle 8 = .ok (.invokestatic 229, 3) := by decide +kernel
theorem dX9_rectangle_11 : decode cX9_rectangle 11 = .ok (.istore_n 2, 1) := by decide +kernel
theorem dX9_rectangle_12 : decode cX9_rectangle 12 = .ok (.iload_n 0, 1) := by decide +kernel
theorem dX9_rectangle_13 : decode cX9_rectangle 13 = .ok (.bipush 8, 2) := by decide +kernel
theorem dX9_rectangle_15 : decode cX9_rectangle 15 = .ok (.irem, 1) := by decide +kernel
theorem dX9_rectangle_16 : decode cX9_rectangle 16 = .ok (.iload_n 1, 1) := by decide +kernel
theorem dX9_rectangle_17 : decode cX9_rectangle 17 = .ok (.bipush 8, 2) := by decide +kernel
theorem dX9_rectangle_19 : decode cX9_rectangle 19 = .ok (.irem, 1) := by decide +kernel
theorem dX9_rectangle_20 : decode cX9_rectangle 20 = .ok (.invokestatic 234, 3) := by decide +kernel
theorem dX9_rectangle_23 : decode cX9_rectangle 23 = .ok (.istore_n 3, 1) := by decide +kernel
theorem dX9_rectangle_24 : decode cX9_rectangle 24 = .ok (.iload_n 0, 1) := by decide +kernel
theorem dX9_rectangle_25 : decode cX9_rectangle 25 = .ok (.bipush 8, 2) := by decide +kernel
theorem dX9_rectangle_27 : decode cX9_rectangle 27 = .ok (.idiv, 1) := by decide +kernel
theorem dX9_rectangle_28 : decode cX9_rectangle 28 = .ok (.iload_n 1, 1) := by decide +kernel
theorem dX9_rectangle_29 : decode cX9_rectangle 29 = .ok (.bipush 8, 2) := by decide +kernel
theorem dX9_rectangle_31 : decode cX9_rectangle 31 = .ok (.idiv, 1) := by decide +kernel
theorem dX9_rectangle_32 : decode cX9_rectangle 32 = .ok (.invokestatic 229, 3) := by decide +kernel
theorem dX9_rectangle_35 : decode cX9_rectangle 35 = .ok (.istore 4, 2) := by decide +kernel
theorem dX9_rectangle_37 : decode cX9_rectangle 37 = .ok (.iload_n 0, 1) := by decide +kernel
theorem dX9_rectangle_38 : decode cX9_rectangle 38 = .ok (.bipush 8, 2) := by decide +kernel
theorem dX9_rectangle_40 : decode cX9_rectangle 40 = .ok (.idiv, 1) := by decide +kernel
theorem dX9_rectangle_41 : decode cX9_rectangle 41 = .ok (.iload_n 1, 1) := by decide +kernel
theorem dX9_rectangle_42 : decode cX9_rectangle 42 = .ok (.bipush 8, 2) := by decide +kernel
theorem dX9_rectangle_44 : decode cX9_rectangle 44 = .ok (.idiv, 1) := by decide +kernel
theorem dX9_rectangle_45 : decode cX9_rectangle 45 = .ok (.invokestatic 234, 3) := by decide +kernel
theorem dX9_rectangle_48 : decode cX9_rectangle 48 = .ok (.istore 5, 2) := by decide +kernel
theorem dX9_rectangle_50 : decode cX9_rectangle 50 = .ok (.lconst 1, 1) := by decide +kernel
theorem dX9_rectangle_51 : decode cX9_rectangle 51 = .ok (.iload_n 3, 1) := by decide +kernel
theorem dX9_rectangle_52 : decode cX9_rectangle 52 = .ok (.iconst 1, 1) := by decide +kernel
theorem dX9_rectangle_53 : decode cX9_rectangle 53 = .ok (.iadd, 1) := by decide +kernel
theorem dX9_rectangle_54 : decode cX9_rectangle 54 = .ok (.lshl, 1) := by decide +kernel
theorem dX9_rectangle_55 : decode cX9_rectangle 55 = .ok (.lconst 1, 1) := by decide +kernel
theorem dX9_rectangle_56 : decode cX9_rectangle 56 = .ok (.iload_n 2, 1) := by decide +kernel
theorem dX9_rectangle_57 : decode cX9_rectangle 57 = .ok (.lshl, 1) := by decide +kernel
theorem dX9_rectangle_58 : decode cX9_rectangle 58 = .ok (.lsub, 1) := by decide +kernel
theorem dX9_rectangle_59 : decode cX9_rectangle 59 = .ok (.lstore 6, 2) := by decide +kernel
theorem dX9_rectangle_61 : decode cX9_rectangle 61 = .ok (.lconst 0, 1) := by decide +kernel
theorem dX9_rectangle_62 : decode cX9_rectangle 62 = .ok (.lstore 8, 2) := by decide +kernel
theorem dX9_rectangle_64 : decode cX9_rectangle 64 = .ok (.iload 4, 2) := by decide +kernel
theorem dX9_rectangle_66 : decode cX9_rectangle 66 = .ok (.istore 10, 2) := by decide +kernel
theorem dX9_rectangle_68 : decode cX9_rectangle 68 = .ok (.iload 10, 2) := by decide +kernel
theorem dX9_rectangle_70 : decode cX9_rectangle 70 = .ok (.iload 5, 2) := by decide +kernel
theorem dX9_rectangle_72 : decode cX9_rectangle 72 = .ok (.if_icmp .gt 22, 3) := by decide +kernel
theorem dX9_rectangle_75 : decode cX9_rectangle 75 = .ok (.lload 8, 2) := by decide +kernel
theorem dX9_rectangle_77 : decode cX9_rectangle 77 = .ok (.lload 6, 2) := by decide +kernel
theorem dX9_rectangle_79 : decode cX9_rectangle 79 = .ok (.bipush 8, 2) := by decide +kernel
theorem dX9_rectangle_81 : decode cX9_rectangle 81 = .ok (.iload 10, 2) := by decide +kernel
theorem dX9_rectangle_83 : decode cX9_rectangle 83 = .ok (.imul, 1) := by decide +kernel
theorem dX9_rectangle_84 : decode cX9_rectangle 84 = .ok (.lshl, 1) := by decide +kernel
theorem dX9_rectangle_85 : decode cX9_rectangle 85 = .ok (.lor, 1) := by decide +kernel
theorem dX9_rectangle_86 : decode cX9_rectangle 86 = .ok (.lstore 8, 2) := by decide +kernel
theorem dX9_rectangle_88 : decode cX9_rectangle 88 = .ok (.iinc 10 1, 3) := by decide +kernel
theorem dX9_rectangle_91 : decode cX9_rectangle 91 = .ok (.goto (-23), 3) := by decide +kernel
theorem dX9_rectangle_94 : decode cX9_rectangle 94 = .ok (.lload 8, 2) := by decide +kernel
theorem dX9_rectangle_96 : decode cX9_rectangle 96 = .ok (.lreturn, 1) := by decide +kernel
theorem dX10_init_0 : decode cX10_init 0 = .ok (.aload_n 0, 1) := by decide +kernel
theorem dX10_init_1 : decode cX10_init 1 = .ok (.invokespecial 1, 3) := by decide +kernel
theorem dX10_init_4 : decode cX10_init 4 = .ok (.aload_n 0, 1) := by decide +kernel
theorem dX10_init_5 : decode cX10_init 5 = .ok (.bipush 60, 2) := by decide +kernel
theorem dX10_init_7 : decode cX10_init 7 = .ok (.newarray .byte, 2) := by decide +kernel
theorem dX10_init_9 : decode cX10_init 9 = .ok (.putfield 7, 3) := by decide +kernel
theorem dX10_init_12 : decode cX10_init 12 = .ok (.aload_n 0, 1) := by decide +kernel
theorem dX10_init_13 : decode cX10_init 13 = .ok (.sipush 384, 3) := by decide +kernel
theorem dX10_init_16 : decode cX10_init 16 = .ok (.newarray .int, 2) := by decide +kernel
theorem dX10_init_18 : decode cX10_init 18 = .ok (.putfield 13, 3) := by decide +kernel
theorem dX10_init_21 : decode cX10_init 21 = .ok (.aload_n 0, 1) := by decide +kernel
theorem dX10_init_22 : decode cX10_init 22 = .ok (.sipush 384, 3) := by decide +kernel
theorem dX10_init_25 : decode cX10_init 25 = .ok (.newarray .int, 2) := by decide +kernel
theorem dX10_init_27 : decode cX10_init 27 = .ok (.putfield 17, 3) := by decide +kernel
theorem dX10_init_30 : decode cX10_init 30 = .ok (.aload_n 0, 1) := by decide +kernel
theorem dX10_init_31 : decode cX10_init 31 = .ok (.sipush 384, 3) := by decide +kernel
theorem dX10_init_34 : decode cX10_init 34 = .ok (.newarray .int, 2) := by decide +kernel
theorem dX10_init_36 : decode cX10_init 36 = .ok (.putfield 20, 3) := by decide +kernel
theorem dX10_init_39 : decode cX10_init 39 = .ok (.aload_n 0, 1) := by decide +kernel
theorem dX10_init_40 : decode cX10_init 40 = .ok (.sipush 15360, 3) := by decide +kernel
theorem dX10_init_43 : decode cX10_init 43 = .ok (.newarray .byte, 2) := by decide +kernel
theorem dX10_init_45 : decode cX10_init 45 = .ok (.putfield 23, 3) := by decide +kernel
theorem dX10_init_48 : decode cX10_init 48 = .ok (.aload_n 0, 1) := by decide +kernel
theorem dX10_init_49 : decode cX10_init 49 = .ok (.sipush 384, 3) := by decide +kernel
theorem dX10_init_52 : decode cX10_init 52 = .ok (.newarray .int, 2) := by decide +kernel
theorem dX10_init_54 : decode cX10_init 54 = .ok (.putfield 26, 3) := by decide +kernel
theorem dX10_init_57 : decode cX10_init 57 = .ok (.aload_n 0, 1) := by decide +kernel
theorem dX10_init_58 : decode cX10_init 58 = .ok (.sipush 15360, 3) := by decide +kernel
theorem dX10_init_61 : decode cX10_init 61 = .ok (.newarray .int, 2) := by decide +kernel
theorem dX10_init_63 : decode cX10_init 63 = .ok (.putfield 29, 3) := by decide +kernel
theorem dX10_init_66 : decode cX10_init 66 = .ok (.aload_n 0, 1) := by decide +kernel
theorem dX10_init_67 : decode cX10_init 67 = .ok (.sipush 15360, 3) := by decide +kernel
theorem dX10_init_70 : decode cX10_init 70 = .ok (.newarray .int, 2) := by decide +kernel
theorem dX10_init_72 : decode cX10_init 72 = .ok (.putfield 32, 3) := by decide +kernel
theorem dX10_init_75 : decode cX10_init 75 = .ok (.aload_n 0, 1) := by decide +kernel
theorem dX10_init_76 : decode cX10_init 76 = .ok (.sipush 15360, 3) := by decide +kernel
theorem dX10_init_79 : decode cX10_init 79 = .ok (.newarray .int, 2) := by decide +kernel
theorem dX10_init_81 : decode cX10_init 81 = .ok (.putfield 35, 3) := by decide +kernel
theorem dX10_init_84 : decode cX10_init 84 = .ok (.aload_n 0, 1) := by decide +kernel
theorem dX10_init_85 : decode cX10_init 85 = .ok (.sipush 15360, 3) := by decide +kernel
theorem dX10_init_88 : decode cX10_init 88 = .ok (.newarray .int, 2) := by decide +kernel
theorem dX10_init_90 : decode cX10_init 90 = .ok (.putfield 38, 3) := by decide +kernel
theorem dX10_init_93 : decode cX10_init 93 = .ok (.aload_n 0, 1) := by decide +kernel
theorem dX10_init_94 : decode cX10_init 94 = .ok (.sipush 15360, 3) := by decide +kernel
theorem dX10_init_97 : decode cX10_init 97 = .ok (.newarray .int, 2) := by decide +kernel
theorem dX10_init_99 : decode cX10_init 99 = .ok (.putfield 41, 3) := by decide +kernel
theorem dX10_init_102 : decode cX10_init 102 = .ok (.aload_n 0, 1) := by decide +kernel
theorem dX10_init_103 : decode cX10_init 103 = .ok (.sipush 384, 3) := by decide +kernel
theorem dX10_init_106 : decode cX10_init 106 = .ok (.newarray .long, 2) := by decide +kernel
theorem dX10_init_108 : decode cX10_init 108 = .ok (.putfield 44, 3) := by decide +kernel
theorem dX10_init_111 : decode cX10_init 111 = .ok (.aload_n 0, 1) := by decide +kernel
theorem dX10_init_112 : decode cX10_init 112 = .ok (.bipush 64, 2) := by decide +kernel
theorem dX10_init_114 : decode cX10_init 114 = .ok (.newarray .boolean, 2) := by decide +kernel
theorem dX10_init_116 : decode cX10_init 116 = .ok (.putfield 48, 3) := by decide +kernel
theorem dX10_init_119 : decode cX10_init 119 = .ok (.aload_n 0, 1) := by decide +kernel
theorem dX10_init_120 : decode cX10_init 120 = .ok (.bipush 64, 2) := by decide +kernel
theorem dX10_init_122 : decode cX10_init 122 = .ok (.newarray .int, 2) := by decide +kernel
theorem dX10_init_124 : decode cX10_init 124 = .ok (.putfield 52, 3) := by decide +kernel
theorem dX10_init_127 : decode cX10_init 127 = .ok (.aload_n 0, 1) := by decide +kernel
theorem dX10_init_128 : decode cX10_init 128 = .ok (.sipush 384, 3) := by decide +kernel
theorem dX10_init_131 : decode cX10_init 131 = .ok (.newarray .int, 2) := by decide +kernel
theorem dX10_init_133 : decode cX10_init 133 = .ok (.putfield 55, 3) := by decide +kernel
theorem dX10_init_136 : decode cX10_init 136 = .ok (.aload_n 0, 1) := by decide +kernel
theorem dX10_init_137 : decode cX10_init 137 = .ok (.sipush 384, 3) := by decide +kernel
theorem dX10_init_140 : decode cX10_init 140 = .ok (.newarray .long, 2) := by decide +kernel
theorem dX10_init_142 : decode cX10_init 142 = .ok (.putfield 58, 3) := by decide +kernel
theorem dX10_init_145 : decode cX10_init 145 = .ok (.aload_n 0, 1) := by decide +kernel
theorem dX10_init_146 : decode cX10_init 146 = .ok (.sipush 384, 3) := by decide +kernel
theorem dX10_init_149 : decode cX10_init 149 = .ok (.newarray .int, 2) := by decide +kernel
theorem dX10_init_151 : decode cX10_init 151 = .ok (.putfield 61, 3) := by decide +kernel
theorem dX10_init_154 : decode cX10_init 154 = .ok (.aload_n 0, 1) := by decide +kernel
theorem dX10_init_155 : decode cX10_init 155 = .ok (.bipush 40, 2) := by decide +kernel
theorem dX10_init_157 : decode cX10_init 157 = .ok (.newarray .int, 2) := by decide +kernel
theorem dX10_init_159 : decode cX10_init 159 = .ok (.putfield 64, 3) := by decide +kernel
theorem dX10_init_162 : decode cX10_init 162 = .ok (.aload_n 0, 1) := by decide +kernel
theorem dX10_init_163 : decode cX10_init 163 = .ok (.bipush 40, 2) := by decide +kernel
theorem dX10_init_165 : decode cX10_init 165 = .ok (.newarray .int, 2) := by decide +kernel
theorem dX10_init_167 : decode cX10_init 167 = .ok (.putfield 67, 3) := by decide +kernel
theorem dX10_init_170 : decode cX10_init 170 = .ok (.aload_n 0, 1) := by decide +kernel
theorem dX10_init_171 : decode cX10_init 171 = .ok (.bipush 40, 2) := by decide +kernel
theorem dX10_init_173 : decode cX10_init 173 = .ok (.newarray .int, 2) := by decide +kernel
theorem dX10_init_175 : decode cX10_init 175 = .ok (.putfield 70, 3) := by decide +kernel
theorem dX10_init_178 : decode cX10_init 178 = .ok (.aload_n 0, 1) := by decide +kernel
theorem dX10_init_179 : decode cX10_init 179 = .ok (.bipush 40, 2) := by decide +kernel
theorem dX10_init_181 : decode cX10_init 181 = .ok (.newarray .int, 2) := by decide +kernel
theorem dX10_init_183 : decode cX10_init 183 = .ok (.putfield 73, 3) := by decide +kernel
theorem dX10_init_186 : decode cX10_init 186 = .ok (.aload_n 0, 1) := by decide +kernel
theorem dX10_init_187 : decode cX10_init 187 = .ok (.bipush 40, 2) := by decide +kernel
theorem dX10_init_189 : decode cX10_init 189 = .ok (.newarray .int, 2) := by decide +kernel
theorem dX10_init_191 : decode cX10_init 191 = .ok (.putfield 76, 3) := by decide +kernel
theorem dX10_init_194 : decode cX10_init 194 = .ok (.aload_n 0, 1) := by decide +kernel
theorem dX10_init_195 : decode cX10_init 195 = .ok (.bipush 40, 2) := by decide +kernel
theorem dX10_init_197 : decode cX10_init 197 = .ok (.newarray .int, 2) := by decide +kernel
theorem dX10_init_199 : decode cX10_init 199 = .ok (.putfield 79, 3) := by decide +kernel
theorem dX10_init_202 : decode cX10_init 202 = .ok (.aload_n 0, 1) := by decide +kernel
theorem dX10_init_203 : decode cX10_init 203 = .ok (.bipush 40, 2) := by decide +kernel
theorem dX10_init_205 : decode cX10_init 205 = .ok (.newarray .int, 2) := by decide +kernel
theorem dX10_init_207 : decode cX10_init 207 = .ok (.putfield 82, 3) := by decide +kernel
theorem dX10_init_210 : decode cX10_init 210 = .ok (.aload_n 0, 1) := by decide +kernel
theorem dX10_init_211 : decode cX10_init 211 = .ok (.iconst (-1), 1) := by decide +kernel
theorem dX10_init_212 : decode cX10_init 212 = .ok (.putfield 85, 3) := by decide +kernel
theorem dX10_init_215 : decode cX10_init 215 = .ok (.aload_n 0, 1) := by decide +kernel
theorem dX10_init_216 : decode cX10_init 216 = .ok (.bipush 64, 2) := by decide +kernel
theorem dX10_init_218 : decode cX10_init 218 = .ok (.newarray .int, 2) := by decide +kernel
theorem dX10_init_220 : decode cX10_init 220 = .ok (.putfield 89, 3) := by decide +kernel
theorem dX10_init_223 : decode cX10_init 223 = .ok (.aload_n 0, 1) := by decide +kernel
theorem dX10_init_224 : decode cX10_init 224 = .ok (.bipush 64, 2) := by decide +kernel
theorem dX10_init_226 : decode cX10_init 226 = .ok (.newarray .long, 2) := by decide +kernel
theorem dX10_init_228 : decode cX10_init 228 = .ok (.putfield 92, 3) := by decide +kernel
theorem dX10_init_231 : decode cX10_init 231 = .ok (.aload_n 0, 1) := by decide +kernel
theorem dX10_init_232 : decode cX10_init 232 = .ok (.bipush 64, 2) := by decide +kernel
theorem dX10_init_234 : decode cX10_init 234 = .ok (.newarray .long, 2) := by decide +kernel
theorem dX10_init_236 : decode cX10_init 236 = .ok (.putfield 95, 3) := by decide +kernel
theorem dX10_init_239 : decode cX10_init 239 = .ok (.aload_n 0, 1) := by decide +kernel
theorem dX10_init_240 : decode cX10_init 240 = .ok (.bipush 64, 2) := by decide +kernel
theorem dX10_init_242 : decode cX10_init 242 = .ok (.newarray .int, 2) := by decide +kernel
theorem dX10_init_244 : decode cX10_init 244 = .ok (.putfield 98, 3) := by decide +kernel
theorem dX10_init_247 : decode cX10_init 247 = .ok (.aload_n 0, 1) := by decide +kernel
theorem dX10_init_248 : decode cX10_init 248 = .ok (.bipush 40, 2) := by decide +kernel
theorem dX10_init_250 : decode cX10_init 250 = .ok (.newarray .long, 2) := by decide +kernel
theorem dX10_init_252 : decode cX10_init 252 = .ok (.putfield 101, 3) := by decide +kernel
theorem dX10_init_255 : decode cX10_init 255 = .ok (.return_, 1) := by decide +kernel
theorem dX10_lies_0 : decode cX10_lies 0 = .ok (.iload_n 0, 1) := by decide +kernel
theorem dX10_lies_1 : decode cX10_lies 1 = .ok (.iload_n 1, 1) := by decide +kernel
theorem dX10_lies_2 : decode cX10_lies 2 = .ok (.if_icmp .lt 12, 3) := by decide +kernel
theorem dX10_lies_5 : decode cX10_lies 5 = .ok (.iload_n 0, 1) := by decide +kernel
theorem dX10_lies_6 : decode cX10_lies 6 = .ok (.iload_n 2, 1) := by decide +kernel
theorem dX10_lies_7 : decode cX10_lies 7 = .ok (.if_icmp .gt 7, 3) := by decide +kernel
theorem dX10_lies_10 : decode cX10_lies 10 = .ok (.iconst 1, 1) := by decide +kernel
theorem dX10_lies_11 : decode cX10_lies 11 = .ok (.goto 4, 3) := by decide +kernel
theorem dX10_lies_14 : decode cX10_lies 14 = .ok (.iconst 0, 1) := by decide +kernel
theorem dX10_lies_15 : decode cX10_lies 15 = .ok (.ireturn, 1) := by decide +kernel
theorem dX10_isCell_0 : decode cX10_isCell 0 = .ok (.iload_n 0, 1) := by decide +kernel
theorem dX10_isCell_1 : decode cX10_isCell 1 = .ok (.iconst 0, 1) := by decide +kernel
theorem dX10_isCell_2 : decode cX10_isCell 2 = .ok (.bipush 63, 2) := by decide +kernel
theorem dX10_isCell_4 : decode cX10_isCell 4 = .ok (.invokestatic 104, 3) := by decide +kernel
theorem dX10_isCell_7 : decode cX10_isCell 7 = .ok (.ireturn, 1) := by decide +kernel
theorem dX10_isSheet_0 : decode cX10_isSheet 0 = .ok (.iload_n 0, 1) := by decide +kernel
theorem dX10_isSheet_1 : decode cX10_isSheet 1 = .ok (.iconst 0, 1) := by decide +kernel
theorem dX10_isSheet_2 : decode cX10_isSheet 2 = .ok (.iconst 5, 1) := by decide +kernel
theorem dX10_isSheet_3 : decode cX10_isSheet 3 = .ok (.invokestatic 104, 3) := by decide +kernel
theorem dX10_isSheet_6 : decode cX10_isSheet 6 = .ok (.ireturn, 1) := by decide +kernel
theorem dX10_isWanted_0 : decode cX10_isWanted 0 = .ok (.aload_n 0, 1) := by decide +kernel
theorem dX10_isWanted_1 : decode cX10_isWanted 1 = .ok (.getfield 52, 3) := by decide +kernel
theorem dX10_isWanted_4 : decode cX10_isWanted 4 = .ok (.iload_n 1, 1) := by decide +kernel
theorem dX10_isWanted_5 : decode cX10_isWanted 5 = .ok (.iaload, 1) := by decide +kernel
theorem dX10_isWanted_6 : decode cX10_isWanted 6 = .ok (.ifCond .le 7, 3) := by decide +kernel
theorem dX10_isWanted_9 : decode cX10_isWanted 9 = .ok (.iconst 1, 1) := by decide +kernel
theorem dX10_isWanted_10 : decode cX10_isWanted 10 = .ok (.goto 4, 3) := by decide +kernel
theorem dX10_isWanted_13 : decode cX10_isWanted 13 = .ok (.iconst 0, 1) := by decide +kernel
theorem dX10_isWanted_14 : decode cX10_isWanted 14 = .ok (.ireturn, 1) := by decide +kernel
theorem dX10_push_0 : decode cX10_push 0 = .ok (.bipush 24, 2) := by decide +kernel
theorem dX10_push_2 : decode cX10_push 2 = .ok (.istore_n 2, 1) := by decide +kernel
theorem dX10_push_3 : decode cX10_push 3 = .ok (.iload_n 2, 1) := by decide +kernel
theorem dX10_push_4 : decode cX10_push 4 = .ok (.ifCond .lt 32, 3) := by decide +kernel
theorem dX10_push_7 : decode cX10_push 7 = .ok (.aload_n 0, 1) := by decide +kernel
theorem dX10_push_8 : decode cX10_push 8 = .ok (.getfield 7, 3) := by decide +kernel
theorem dX10_push_11 : decode cX10_push 11 = .ok (.aload_n 0, 1) := by decide +kernel
theorem dX10_push_12 : decode cX10_push 12 = .ok (.getfield 108, 3) := by decide +kernel
theorem dX10_push_15 : decode cX10_push 15 = .ok (.iload_n 1, 1) := by decide +kernel
theorem dX10_push_16 : decode cX10_push 16 = .ok (.iload_n 2, 1) := by decide +kernel
theorem dX10_push_17 : decode cX10_push 17 = .ok (.ishr, 1) := by decide +kernel
theorem dX10_push_18 : decode cX10_push 18 = .ok (.i2b, 1) := by decide +kernel
theorem dX10_push_19 : decode cX10_push 19 = .ok (.bastore, 1) := by decide +kernel
theorem dX10_push_20 : decode cX10_push 20 = .ok (.aload_n 0, 1) := by decide +kernel
theorem dX10_push_21 : decode cX10_push 21 = .ok (.dup, 1) := by decide +kernel
theorem dX10_push_22 : decode cX10_push 22 = .ok (.getfield 108, 3) := by decide +kernel
theorem dX10_push_25 : decode cX10_push 25 = .ok (.iconst 1, 1) := by decide +kernel
theorem dX10_push_26 : decode cX10_push 26 = .ok (.iadd, 1) := by decide +kernel
theorem dX10_push_27 : decode cX10_push 27 = .ok (.putfield 108, 3) := by decide +kernel
theorem dX10_push_30 : decode cX10_push 30 = .ok (.iinc 2 (-8), 3) := by decide +kernel
theorem dX10_push_33 : decode cX10_push 33 = .ok (.goto (-30), 3) := by decide +kernel
theorem dX10_push_36 : decode cX10_push 36 = .ok (.return_, 1) := by decide +kernel
theorem dX10_feed_0 : decode cX10_feed 0 = .ok (.aload_n 0, 1) := by decide +kernel
theorem dX10_feed_1 : decode cX10_feed 1 = .ok (.getfield 108, 3) := by decide +kernel
theorem dX10_feed_4 : decode cX10_feed 4 = .ok (.bipush 20, 2) := by decide +kernel
theorem dX10_feed_6 : decode cX10_feed 6 = .ok (.iadd, 1) := by decide +kernel
theorem dX10_feed_7 : decode cX10_feed 7 = .ok (.bipush 60, 2) := by decide +kernel
theorem dX10_feed_9 : decode cX10_feed 9 = .ok (.if_icmp .le 5, 3) := by decide +kernel
theorem dX10_feed_12 : decode cX10_feed 12 = .ok (.iconst (-1), 1) := by decide +kernel
theorem dX10_feed_13 : decode cX10_feed 13 = .ok (.ireturn, 1) := by decide +kernel
theorem dX10_feed_14 : decode cX10_feed 14 = .ok (.aload_n 0, 1) := by decide +kernel
theorem dX10_feed_15 : decode cX10_feed 15 = .ok (.iload_n 1, 1) := by decide +kernel
theorem dX10_feed_16 : decode cX10_feed 16 = .ok (.invokevirtual 111, 3) := by decide +kernel
theorem dX10_feed_19 : decode cX10_feed 19 = .ok (.aload_n 0, 1) := by decide +kernel
theorem dX10_feed_20 : decode cX10_feed 20 = .ok (.iload_n 2, 1) := by decide +kernel
theorem dX10_feed_21 : decode cX10_feed 21 = .ok (.invokevirtual 111, 3) := by decide +kernel
theorem dX10_feed_24 : decode cX10_feed 24 = .ok (.aload_n 0, 1) := by decide +kernel
theorem dX10_feed_25 : decode cX10_feed 25 = .ok (.iload_n 3, 1) := by decide +kernel
theorem dX10_feed_26 : decode cX10_feed 26 = .ok (.invokevirtual 111, 3) := by decide +kernel
theorem dX10_feed_29 : decode cX10_feed 29 = .ok (.aload_n 0, 1) := by decide +kernel
theorem dX10_feed_30 : decode cX10_feed 30 = .ok (.iload 4, 2) := by decide +kernel
theorem dX10_feed_32 : decode cX10_feed 32 = .ok (.invokevirtual 111, 3) := by decide +kernel
theorem dX10_feed_35 : decode cX10_feed 35 = .ok (.aload_n 0, 1) := by decide +kernel
theorem dX10_feed_36 : decode cX10_feed 36 = .ok (.iload 5, 2) := by decide +kernel
theorem dX10_feed_38 : decode cX10_feed 38 = .ok (.invokevirtual 111, 3) := by decide +kernel
theorem dX10_feed_41 : decode cX10_feed 41 = .ok (.aload_n 0, 1) := by decide +kernel
theorem dX10_feed_42 : decode cX10_feed 42 = .ok (.getfield 108, 3) := by decide +kernel
theorem dX10_feed_45 : decode cX10_feed 45 = .ok (.ireturn, 1) := by decide +kernel
theorem dX10_number_0 : decode cX10_number 0 = .ok (.iload_n 1, 1) := by decide +kernel
theorem dX10_number_1 : decode cX10_number 1 = .ok (.invokestatic 115, 3) := by decide +kernel
theorem dX10_number_4 : decode cX10_number 4 = .ok (.ifCond .eq 23, 3) := by decide +kernel
theorem dX10_number_7 : decode cX10_number 7 = .ok (.iload_n 2, 1) := by decide +kernel
theorem dX10_number_8 : decode cX10_number 8 = .ok (.invokestatic 119, 3) := by decide +kernel
theorem dX10_number_11 : decode cX10_number 11 = .ok (.ifCond .eq 16, 3) := by decide +kernel
theorem dX10_number_14 : decode cX10_number 14 = .ok (.iload_n 3, 1) := by decide +kernel
theorem dX10_number_15 : decode cX10_number 15 = .ok (.sipush (-9999), 3) := by decide +kernel
theorem dX10_number_18 : decode cX10_number 18 = .ok (.sipush 9999, 3) := by decide +kernel
theorem dX10_number_21 : decode cX10_number 21 = .ok (.invokestatic 104, 3) := by decide +kernel
theorem dX10_number_24 : decode cX10_number 24 = .ok (.ifCond .ne 5, 3) := by decide +kernel
theorem dX10_number_27 : decode cX10_number 27 = .ok (.iconst 0, 1) := by decide +kernel
theorem dX10_number_28 : decode cX10_number 28 = .ok (.ireturn, 1) := by decide +kernel
theorem dX10_number_29 : decode cX10_number 29 = .ok (.aload_n 0, 1) := by decide +kernel
theorem dX10_number_30 : decode cX10_number 30 = .ok (.getfield 13, 3) := by decide +kernel
theorem dX10_number_33 : decode cX10_number 33 = .ok (.bipush 64, 2) := by decide +kernel
theorem dX10_number_35 : decode cX10_number 35 = .ok (.iload_n 1, 1) := by decide +kernel
theorem dX10_number_36 : decode cX10_number 36 = .ok (.imul, 1) := by decide +kernel
theorem dX10_number_37 : decode cX10_number 37 = .ok (.iload_n 2, 1) := by decide +kernel
theorem dX10_number_38 : decode cX10_number 38 = .ok (.iadd, 1) := by decide +kernel
theorem dX10_number_39 : decode cX10_number 39 = .ok (.iconst 1, 1) := by decide +kernel
theorem dX10_number_40 : decode cX10_number 40 = .ok (.iastore, 1) := by decide +kernel
theorem dX10_number_41 : decode cX10_number 41 = .ok (.aload_n 0, 1) := by decide +kernel
theorem dX10_number_42 : decode cX10_number 42 = .ok (.getfield 17, 3) := by decide +kernel
theorem dX10_number_45 : decode cX10_number 45 = .ok (.bipush 64, 2) := by decide +kernel
theorem dX10_number_47 : decode cX10_number 47 = .ok (.iload_n 1, 1) := by decide +kernel
theorem dX10_number_48 : decode cX10_number 48 = .ok (.imul, 1) := by decide +kernel
theorem dX10_number_49 : decode cX10_number 49 = .ok (.iload_n 2, 1) := by decide +kernel
theorem dX10_number_50 : decode cX10_number 50 = .ok (.iadd, 1) := by decide +kernel
theorem dX10_number_51 : decode cX10_number 51 = .ok (.iload_n 3, 1) := by decide +kernel
theorem dX10_number_52 : decode cX10_number 52 = .ok (.iastore, 1) := by decide +kernel
theorem dX10_number_53 : decode cX10_number 53 = .ok (.aload_n 0, 1) := by decide +kernel
theorem dX10_number_54 : decode cX10_number 54 = .ok (.iconst 0, 1) := by decide +kernel
theorem dX10_number_55 : decode cX10_number 55 = .ok (.putfield 122, 3) := by decide +kernel
theorem dX10_number_58 : decode cX10_number 58 = .ok (.iconst 1, 1) := by decide +kernel
theorem dX10_number_59 : decode cX10_number 59 = .ok (.ireturn, 1) := by decide +kernel
theorem dX10_clear_0 : decode cX10_clear 0 = .ok (.iload_n 1, 1) := by decide +kernel
theorem dX10_clear_1 : decode cX10_clear 1 = .ok (.invokestatic 115, 3) := by decide +kernel
theorem dX10_clear_4 : decode cX10_clear 4 = .ok (.ifCond .eq 24, 3) := by decide +kernel
theorem dX10_clear_7 : decode cX10_clear 7 = .ok (.iload_n 2, 1) := by decide +kernel
theorem dX10_clear_8 : decode cX10_clear 8 = .ok (.invokestatic 119, 3) := by decide +kernel
theorem dX10_clear_11 : decode cX10_clear 11 = .ok (.ifCond .eq 17, 3) := by decide +kernel
theorem dX10_clear_14 : decode cX10_clear 14 = .ok (.aload_n 0, 1) := by decide +kernel
theorem dX10_clear_15 : decode cX10_clear 15 = .ok (.getfield 13, 3) := by decide +kernel
theorem dX10_clear_18 : decode cX10_clear 18 = .ok (.bipush 64, 2) := by decide +kernel
theorem dX10_clear_20 : decode cX10_clear 20 = .ok (.iload_n 1, 1) := by decide +kernel
theorem dX10_clear_21 : decode cX10_clear 21 = .ok (.imul, 1) := by decide +kernel
theorem dX10_clear_22 : decode cX10_clear 22 = .ok (.iload_n 2, 1) := by decide +kernel
theorem dX10_clear_23 : decode cX10_clear 23 = .ok (.iadd, 1) := by decide +kernel
theorem dX10_clear_24 : decode cX10_clear 24 = .ok (.iaload, 1) := by decide +kernel
theorem dX10_clear_25 : decode cX10_clear 25 = .ok (.ifCond .ne 5, 3) := by decide +kernel
theorem dX10_clear_28 : decode cX10_clear 28 = .ok (.iconst 0, 1) := by decide +kernel
theorem dX10_clear_29 : decode cX10_clear 29 = .ok (.ireturn, 1) := by decide +kernel
theorem dX10_clear_30 : decode cX10_clear 30 = .ok (.aload_n 0, 1) := by decide +kernel
theorem dX10_clear_31 : decode cX10_clear 31 = .ok (.getfield 13, 3) := by decide +kernel
theorem dX10_clear_34 : decode cX10_clear 34 = .ok (.bipush 64, 2) := by decide +kernel
theorem dX10_clear_36 : decode cX10_clear 36 = .ok (.iload_n 1, 1) := by decide +kernel
theorem dX10_clear_37 : decode cX10_clear 37 = .ok (.imul, 1) := by decide +kernel
theorem dX10_clear_38 : decode cX10_clear 38 = .ok (.iload_n 2, 1) := by decide +kernel
theorem dX10_clear_39 : decode cX10_clear 39 = .ok (.iadd, 1) := by decide +kernel
theorem dX10_clear_40 : decode cX10_clear 40 = .ok (.iconst 0, 1) := by decide +kernel
theorem dX10_clear_41 : decode cX10_clear 41 = .ok (.iastore, 1) := by decide +kernel
theorem dX10_clear_42 : decode cX10_clear 42 = .ok (.aload_n 0, 1) := by decide +kernel
theorem dX10_clear_43 : decode cX10_clear 43 = .ok (.iconst 0, 1) := by decide +kernel
theorem dX10_clear_44 : decode cX10_clear 44 = .ok (.putfield 122, 3) := by decide +kernel
theorem dX10_clear_47 : decode cX10_clear 47 = .ok (.iconst 1, 1) := by decide +kernel
theorem dX10_clear_48 : decode cX10_clear 48 = .ok (.ireturn, 1) := by decide +kernel
theorem dX10_here_0 : decode cX10_here 0 = .ok (.aload_n 0, 1) := by decide +kernel
theorem dX10_here_1 : decode cX10_here 1 = .ok (.getfield 126, 3) := by decide +kernel
theorem dX10_here_4 : decode cX10_here 4 = .ok (.aload_n 0, 1) := by decide +kernel
theorem dX10_here_5 : decode cX10_here 5 = .ok (.getfield 129, 3) := by decide +kernel
theorem dX10_here_8 : decode cX10_here 8 = .ok (.if_icmp .ge 19, 3) := by decide +kernel
theorem dX10_here_11 : decode cX10_here 11 = .ok (.aload_n 0, 1) := by decide +kernel
theorem dX10_here_12 : decode cX10_here 12 = .ok (.getfield 7, 3) := by decide +kernel
theorem dX10_here_15 : decode cX10_here 15 = .ok (.aload_n 0, 1) := by decide +kernel
theorem dX10_here_16 : decode cX10_here 16 = .ok (.getfield 126, 3) := by decide +kernel
theorem dX10_here_19 : decode cX10_here 19 = .ok (.baload, 1) := by decide +kernel
theorem dX10_here_20 : decode cX10_here 20 = .ok (.sipush 255, 3) := by decide +kernel
theorem dX10_here_23 : decode cX10_here 23 = .ok (.iand, 1) := by decide +kernel
theorem dX10_here_24 : decode cX10_here 24 = .ok (.goto 4, 3) := by decide +kernel
theorem dX10_here_27 : decode cX10_here 27 = .ok (.iconst 0, 1) := by decide +kernel
theorem dX10_here_28 : decode cX10_here 28 = .ok (.ireturn, 1) := by decide +kernel
theorem dX10_fails_0 : decode cX10_fails 0 = .ok (.aload_n 0, 1) := by decide +kernel
theorem dX10_fails_1 : decode cX10_fails 1 = .ok (.getfield 132, 3) := by decide +kernel
theorem dX10_fails_4 : decode cX10_fails 4 = .ok (.ifCond .le 4, 3) := by decide +kernel
theorem dX10_fails_7 : decode cX10_fails 7 = .ok (.return_, 1) := by decide +kernel
theorem dX10_fails_8 : decode cX10_fails 8 = .ok (.aload_n 0, 1) := by decide +kernel
theorem dX10_fails_9 : decode cX10_fails 9 = .ok (.iload_n 1, 1) := by decide +kernel
theorem dX10_fails_10 : decode cX10_fails 10 = .ok (.putfield 132, 3) := by decide +kernel
theorem dX10_fails_13 : decode cX10_fails 13 = .ok (.aload_n 0, 1) := by decide +kernel
theorem dX10_fails_14 : decode cX10_fails 14 = .ok (.iload_n 2, 1) := by decide +kernel
theorem dX10_fails_15 : decode cX10_fails 15 = .ok (.putfield 135, 3) := by decide +kernel
theorem dX10_fails_18 : decode cX10_fails 18 = .ok (.return_, 1) := by decide +kernel
theorem dX10_puts_0 : decode cX10_puts 0 = .ok (.aload_n 0, 1) := by decide +kernel
theorem dX10_puts_1 : decode cX10_puts 1 = .ok (.getfield 64, 3) := by decide +kernel
theorem dX10_puts_4 : decode cX10_puts 4 = .ok (.aload_n 0, 1) := by decide +kernel
theorem dX10_puts_5 : decode cX10_puts 5 = .ok (.getfield 138, 3) := by decide +kernel
theorem dX10_puts_8 : decode cX10_puts 8 = .ok (.iload_n 1, 1) := by decide +kernel
theorem dX10_puts_9 : decode cX10_puts 9 = .ok (.iastore, 1) := by decide +kernel
theorem dX10_puts_10 : decode cX10_puts 10 = .ok (.aload_n 0, 1) := by decide +kernel
theorem dX10_puts_11 : decode cX10_puts 11 = .ok (.getfield 67, 3) := by decide +kernel
theorem dX10_puts_14 : decode cX10_puts 14 = .ok (.aload_n 0, 1) := by decide +kernel
theorem dX10_puts_15 : decode cX10_puts 15 = .ok (.getfield 138, 3) := by decide +kernel
theorem dX10_puts_18 : decode cX10_puts 18 = .ok (.iload_n 2, 1) := by decide +kernel
theorem dX10_puts_19 : decode cX10_puts 19 = .ok (.iastore, 1) := by decide +kernel
theorem dX10_puts_20 : decode cX10_puts 20 = .ok (.aload_n 0, 1) := by decide +kernel
theorem dX10_puts_21 : decode cX10_puts 21 = .ok (.getfield 70, 3) := by decide +kernel
theorem dX10_puts_24 : decode cX10_puts 24 = .ok (.aload_n 0, 1) := by decide +kernel
theorem dX10_puts_25 : decode cX10_puts 25 = .ok (.getfield 138, 3) := by decide +kernel
theorem dX10_puts_28 : decode cX10_puts 28 = .ok (.iload_n 3, 1) := by decide +kernel
theorem dX10_puts_29 : decode cX10_puts 29 = .ok (.iastore, 1) := by decide +kernel
theorem dX10_puts_30 : decode cX10_puts 30 = .ok (.aload_n 0, 1) := by decide +kernel
theorem dX10_puts_31 : decode cX10_puts 31 = .ok (.getfield 73, 3) := by decide +kernel
theorem dX10_puts_34 : decode cX10_puts 34 = .ok (.aload_n 0, 1) := by decide +kernel
theorem dX10_puts_35 : decode cX10_puts 35 = .ok (.getfield 138, 3) := by decide +kernel
theorem dX10_puts_38 : decode cX10_puts 38 = .ok (.iload 4, 2) := by decide +kernel
theorem dX10_puts_40 : decode cX10_puts 40 = .ok (.iastore, 1) := by decide +kernel
theorem dX10_puts_41 : decode cX10_puts 41 = .ok (.aload_n 0, 1) := by decide +kernel
theorem dX10_puts_42 : decode cX10_puts 42 = .ok (.getfield 76, 3) := by decide +kernel
theorem dX10_puts_45 : decode cX10_puts 45 = .ok (.aload_n 0, 1) := by decide +kernel
theorem dX10_puts_46 : decode cX10_puts 46 = .ok (.getfield 138, 3) := by decide +kernel
theorem dX10_puts_49 : decode cX10_puts 49 = .ok (.iload 5, 2) := by decide +kernel
theorem dX10_puts_51 : decode cX10_puts 51 = .ok (.iastore, 1) := by decide +kernel
theorem dX10_puts_52 : decode cX10_puts 52 = .ok (.aload_n 0, 1) := by decide +kernel
theorem dX10_puts_53 : decode cX10_puts 53 = .ok (.dup, 1) := by decide +kernel
theorem dX10_puts_54 : decode cX10_puts 54 = .ok (.getfield 138, 3) := by decide +kernel
theorem dX10_puts_57 : decode cX10_puts 57 = .ok (.iconst 1, 1) := by decide +kernel
theorem dX10_puts_58 : decode cX10_puts 58 = .ok (.iadd, 1) := by decide +kernel
theorem dX10_puts_59 : decode cX10_puts 59 = .ok (.putfield 138, 3) := by decide +kernel
theorem dX10_puts_62 : decode cX10_puts 62 = .ok (.return_, 1) := by decide +kernel
theorem dX10_waits_0 : decode cX10_waits 0 = .ok (.aload_n 0, 1) := by decide +kernel
theorem dX10_waits_1 : decode cX10_waits 1 = .ok (.getfield 79, 3) := by decide +kernel
theorem dX10_waits_4 : decode cX10_waits 4 = .ok (.aload_n 0, 1) := by decide +kernel
theorem dX10_waits_5 : decode cX10_waits 5 = .ok (.getfield 141, 3) := by decide +kernel
theorem dX10_waits_8 : decode cX10_waits 8 = .ok (.iload_n 1, 1) := by decide +kernel
theorem dX10_waits_9 : decode cX10_waits 9 = .ok (.iastore, 1) := by decide +kernel
theorem dX10_waits_10 : decode cX10_waits 10 = .ok (.aload_n 0, 1) := by decide +kernel
theorem dX10_waits_11 : decode cX10_waits 11 = .ok (.getfield 82, 3) := by decide +kernel
theorem dX10_waits_14 : decode cX10_waits 14 = .ok (.aload_n 0, 1) := by decide +kernel
theorem dX10_waits_15 : decode cX10_waits 15 = .ok (.getfield 141, 3) := by decide +kernel
theorem dX10_waits_18 : decode cX10_waits 18 = .ok (.iload_n 2, 1) := by decide +kernel
theorem dX10_waits_19 : decode cX10_waits 19 = .ok (.iastore, 1) := by decide +kernel
theorem dX10_waits_20 : decode cX10_waits 20 = .ok (.aload_n 0, 1) := by decide +kernel
theorem dX10_waits_21 : decode cX10_waits 21 = .ok (.dup, 1) := by decide +kernel
theorem dX10_waits_22 : decode cX10_waits 22 = .ok (.getfield 141, 3) := by decide +kernel
theorem dX10_waits_25 : decode cX10_waits 25 = .ok (.iconst 1, 1) := by decide +kernel
theorem dX10_waits_26 : decode cX10_waits 26 = .ok (.iadd, 1) := by decide +kernel
theorem dX10_waits_27 : decode cX10_waits 27 = .ok (.putfield 141, 3) := by decide +kernel
theorem dX10_waits_30 : decode cX10_waits 30 = .ok (.return_, 1) := by decide +kernel
theorem dX10_joins_0 : decode cX10_joins 0 = .ok (.aload_n 0, 1) := by decide +kernel
theorem dX10_joins_1 : decode cX10_joins 1 = .ok (.dup, 1) := by decide +kernel
theorem dX10_joins_2 : decode cX10_joins 2 = .ok (.getfield 141, 3) := by decide +kernel
theorem dX10_joins_5 : decode cX10_joins 5 = .ok (.iconst 1, 1) := by decide +kernel
theorem dX10_joins_6 : decode cX10_joins 6 = .ok (.isub, 1) := by decide +kernel
theorem dX10_joins_7 : decode cX10_joins 7 = .ok (.putfield 141, 3) := by decide +kernel
theorem dX10_joins_10 : decode cX10_joins 10 = .ok (.aload_n 0, 1) := by decide +kernel
theorem dX10_joins_11 : decode cX10_joins 11 = .ok (.aload_n 0, 1) := by decide +kernel
theorem dX10_joins_12 : decode cX10_joins 12 = .ok (.getfield 79, 3) := by decide +kernel
theorem dX10_joins_15 : decode cX10_joins 15 = .ok (.aload_n 0, 1) := by decide +kernel
theorem dX10_joins_16 : decode cX10_joins 16 = .ok (.getfield 141, 3) := by decide +kernel
theorem dX10_joins_19 : decode cX10_joins 19 = .ok (.iaload, 1) := by decide +kernel
theorem dX10_joins_20 : decode cX10_joins 20 = .ok (.iconst 0, 1) := by decide +kernel
theorem dX10_joins_21 : decode cX10_joins 21 = .ok (.iconst 0, 1) := by decide +kernel
theorem dX10_joins_22 : decode cX10_joins 22 = .ok (.aload_n 0, 1) := by decide +kernel
theorem dX10_joins_23 : decode cX10_joins 23 = .ok (.getfield 82, 3) := by decide +kernel
theorem dX10_joins_26 : decode cX10_joins 26 = .ok (.aload_n 0, 1) := by decide +kernel
theorem dX10_joins_27 : decode cX10_joins 27 = .ok (.getfield 141, 3) := by decide +kernel
theorem dX10_joins_30 : decode cX10_joins 30 = .ok (.iaload, 1) := by decide +kernel
theorem dX10_joins_31 : decode cX10_joins 31 = .ok (.iconst (-1), 1) := by decide +kernel
theorem dX10_joins_32 : decode cX10_joins 32 = .ok (.invokevirtual 144, 3) := by decide +kernel
theorem dX10_joins_35 : decode cX10_joins 35 = .ok (.return_, 1) := by decide +kernel
theorem dX10_opens_0 : decode cX10_opens 0 = .ok (.aload_n 0, 1) := by decide +kernel
theorem dX10_opens_1 : decode cX10_opens 1 = .ok (.getfield 148, 3) := by decide +kernel
theorem dX10_opens_4 : decode cX10_opens 4 = .ok (.bipush 6, 2) := by decide +kernel
theorem dX10_opens_6 : decode cX10_opens 6 = .ok (.if_icmp .ne 12, 3) := by decide +kernel
theorem dX10_opens_9 : decode cX10_opens 9 = .ok (.aload_n 0, 1) := by decide +kernel
theorem dX10_opens_10 : decode cX10_opens 10 = .ok (.iconst 2, 1) := by decide +kernel
theorem dX10_opens_11 : decode cX10_opens 11 = .ok (.aload_n 0, 1) := by decide +kernel
theorem dX10_opens_12 : decode cX10_opens 12 = .ok (.getfield 126, 3) := by decide +kernel
theorem dX10_opens_15 : decode cX10_opens 15 = .ok (.invokevirtual 151, 3) := by decide +kernel
theorem dX10_opens_18 : decode cX10_opens 18 = .ok (.aload_n 0, 1) := by decide +kernel
theorem dX10_opens_19 : decode cX10_opens 19 = .ok (.iload_n 1, 1) := by decide +kernel
theorem dX10_opens_20 : decode cX10_opens 20 = .ok (.iconst (-1), 1) := by decide +kernel
theorem dX10_opens_21 : decode cX10_opens 21 = .ok (.invokevirtual 155, 3) := by decide +kernel
theorem dX10_opens_24 : decode cX10_opens 24 = .ok (.aload_n 0, 1) := by decide +kernel
theorem dX10_opens_25 : decode cX10_opens 25 = .ok (.dup, 1) := by decide +kernel
theorem dX10_opens_26 : decode cX10_opens 26 = .ok (.getfield 148, 3) := by decide +kernel
theorem dX10_opens_29 : decode cX10_opens 29 = .ok (.iconst 1, 1) := by decide +kernel
theorem dX10_opens_30 : decode cX10_opens 30 = .ok (.iadd, 1) := by decide +kernel
theorem dX10_opens_31 : decode cX10_opens 31 = .ok (.putfield 148, 3) := by decide +kernel
theorem dX10_opens_34 : decode cX10_opens 34 = .ok (.aload_n 0, 1) := by decide +kernel
theorem dX10_opens_35 : decode cX10_opens 35 = .ok (.dup, 1) := by decide +kernel
theorem dX10_opens_36 : decode cX10_opens 36 = .ok (.getfield 126, 3) := by decide +kernel
theorem dX10_opens_39 : decode cX10_opens 39 = .ok (.iconst 1, 1) := by decide +kernel
theorem dX10_opens_40 : decode cX10_opens 40 = .ok (.iadd, 1) := by decide +kernel
theorem dX10_opens_41 : decode cX10_opens 41 = .ok (.putfield 126, 3) := by decide +kernel
theorem dX10_opens_44 : decode cX10_opens 44 = .ok (.return_, 1) := by decide +kernel
theorem dX10_must_0 : decode cX10_must 0 = .ok (.aload_n 0, 1) := by decide +kernel
theorem dX10_must_1 : decode cX10_must 1 = .ok (.invokevirtual 158, 3) := by decide +kernel
theorem dX10_must_4 : decode cX10_must 4 = .ok (.iload_n 1, 1) := by decide +kernel
theorem dX10_must_5 : decode cX10_must 5 = .ok (.if_icmp .ne 14, 3) := by decide +kernel
theorem dX10_must_8 : decode cX10_must 8 = .ok (.aload_n 0, 1) := by decide +kernel
theorem dX10_must_9 : decode cX10_must 9 = .ok (.getfield 126, 3) := by decide +kernel
theorem dX10_must_12 : decode cX10_must 12 = .ok (.aload_n 0, 1) := by decide +kernel
theorem dX10_must_13 : decode cX10_must 13 = .ok (.getfield 129, 3) := by decide +kernel
theorem dX10_must_16 : decode cX10_must 16 = .ok (.if_icmp .lt 12, 3) := by decide +kernel
theorem dX10_must_19 : decode cX10_must 19 = .ok (.aload_n 0, 1) := by decide +kernel
theorem dX10_must_20 : decode cX10_must 20 = .ok (.iconst 1, 1) := by decide +kernel
theorem dX10_must_21 : decode cX10_must 21 = .ok (.aload_n 0, 1) := by decide +kernel
theorem dX10_must_22 : decode cX10_must 22 = .ok (.getfield 126, 3) := by decide +kernel
theorem dX10_must_25 : decode cX10_must 25 = .ok (.invokevirtual 151, 3) := by decide +kernel
theorem dX10_must_28 : decode cX10_must 28 = .ok (.aload_n 0, 1) := by decide +kernel
theorem dX10_must_29 : decode cX10_must 29 = .ok (.dup, 1) := by decide +kernel
theorem dX10_must_30 : decode cX10_must 30 = .ok (.getfield 126, 3) := by decide +kernel
theorem dX10_must_33 : decode cX10_must 33 = .ok (.iconst 1, 1) := by decide +kernel
theorem dX10_must_34 : decode cX10_must 34 = .ok (.iadd, 1) := by decide +kernel
theorem dX10_must_35 : decode cX10_must 35 = .ok (.putfield 126, 3) := by decide +kernel
theorem dX10_must_38 : decode cX10_must 38 = .ok (.return_, 1) := by decide +kernel
theorem dX10_seesDigit_0 : decode cX10_seesDigit 0 = .ok (.aload_n 0, 1) := by decide +kernel
theorem dX10_seesDigit_1 : decode cX10_seesDigit 1 = .ok (.invokevirtual 158, 3) := by decide +kernel
theorem dX10_seesDigit_4 : decode cX10_seesDigit 4 = .ok (.bipush 48, 2) := by decide +kernel
theorem dX10_seesDigit_6 : decode cX10_seesDigit 6 = .ok (.bipush 57, 2) := by decide +kernel
theorem dX10_seesDigit_8 : decode cX10_seesDigit 8 = .ok (.invokestatic 104, 3) := by decide +kernel
theorem dX10_seesDigit_11 : decode cX10_seesDigit 11 = .ok (.ireturn, 1) := by decide +kernel
theorem dX10_readNumber_0 : decode cX10_readNumber 0 = .ok (.aload_n 0, 1) := by decide +kernel
theorem dX10_readNumber_1 : decode cX10_readNumber 1 = .ok (.getfield 126, 3) := by decide +kernel
theorem dX10_readNumber_4 : decode cX10_readNumber 4 = .ok (.istore_n 1, 1) := by decide +kernel
theorem dX10_readNumber_5 : decode cX10_readNumber 5 = .ok (.iconst 0, 1) := by decide +kernel
theorem dX10_readNumber_6 : decode cX10_readNumber 6 = .ok (.istore_n 2, 1) := by decide +kernel
theorem dX10_readNumber_7 : decode cX10_readNumber 7 = .ok (.aload_n 0, 1) := by decide +kernel
theorem dX10_readNumber_8 : decode cX10_readNumber 8 = .ok (.getfield 132, 3) := by decide +kernel
theorem dX10_readNumber_11 : decode cX10_readNumber 11 = .ok (.ifCond .ne 55, 3) := by decide +kernel
theorem dX10_readNumber_14 : decode cX10_readNumber 14 = .ok (.aload_n 0, 1) := by decide +kernel
theorem dX10_readNumber_15 : decode cX10_readNumber 15 = .ok (.invokevirtual 162, 3) := by decide +kernel
theorem dX10_readNumber_18 : decode cX10_readNumber 18 = .ok (.ifCond .eq 48, 3) := by decide +kernel
theorem dX10_readNumber_21 : decode cX10_readNumber 21 = .ok (.aload_n 0, 1) := by decide +kernel
theorem dX10_readNumber_22 : decode cX10_readNumber 22 = .ok (.getfield 126, 3) := by decide +kernel
theorem dX10_readNumber_25 : decode cX10_readNumber 25 = .ok (.iload_n 1, 1) := by decide +kernel
theorem dX10_readNumber_26 : decode cX10_readNumber 26 = .ok (.iconst 4, 1) := by decide +kernel
theorem dX10_readNumber_27 : decode cX10_readNumber 27 = .ok (.iadd, 1) := by decide +kernel
theorem dX10_readNumber_28 : decode cX10_readNumber 28 = .ok (.if_icmp .ne 12, 3) := by decide +kernel
theorem dX10_readNumber_31 : decode cX10_readNumber 31 = .ok (.aload_n 0, 1) := by decide +kernel
theorem dX10_readNumber_32 : decode cX10_readNumber 32 = .ok (.iconst 1, 1) := by decide +kernel
theorem dX10_readNumber_33 : decode cX10_readNumber 33 = .ok (.aload_n 0, 1) := by decide +kernel
theorem dX10_readNumber_34 : decode cX10_readNumber 34 = .ok (.getfield 126, 3) := by decide +kernel
theorem dX10_readNumber_37 : decode cX10_readNumber 37 = .ok (.invokevirtual 151, 3) := by decide +kernel
theorem dX10_readNumber_40 : decode cX10_readNumber 40 = .ok (.bipush 10, 2) := by decide +kernel
theorem dX10_readNumber_42 : decode cX10_readNumber 42 = .ok (.iload_n 2, 1) := by decide +kernel
theorem dX10_readNumber_43 : decode cX10_readNumber 43 = .ok (.imul, 1) := by decide +kernel
theorem dX10_readNumber_44 : decode cX10_readNumber 44 = .ok (.aload_n 0, 1) := by decide +kernel
theorem dX10_readNumber_45 : decode cX10_readNumber 45 = .ok (.invokevirtual 158, 3) := by decide +kernel
theorem dX10_readNumber_48 : decode cX10_readNumber 48 = .ok (.iadd, 1) := by decide +kernel
theorem dX10_readNumber_49 : decode cX10_readNumber 49 = .ok (.bipush 48, 2) := by decide +kernel
theorem dX10_readNumber_51 : decode cX10_readNumber 51 = .ok (.isub, 1) := by decide +kernel
theorem dX10_readNumber_52 : decode cX10_readNumber 52 = .ok (.istore_n 2, 1) := by decide +kernel
theorem dX10_readNumber_53 : decode cX10_readNumber 53 = .ok (.aload_n 0, 1) := by decide +kernel
theorem dX10_readNumber_54 : decode cX10_readNumber 54 = .ok (.dup, 1) := by decide +kernel
theorem dX10_readNumber_55 : decode cX10_readNumber 55 = .ok (.getfield 126, 3) := by decide +kernel
theorem dX10_readNumber_58 : decode cX10_readNumber 58 = .ok (.iconst 1, 1) := by decide +kernel
theorem dX10_readNumber_59 : decode cX10_readNumber 59 = .ok (.iadd, 1) := by decide +kernel
theorem dX10_readNumber_60 : decode cX10_readNumber 60 = .ok (.putfield 126, 3) := by decide +kernel
theorem dX10_readNumber_63 : decode cX10_readNumber 63 = .ok (.goto (-56), 3) := by decide +kernel
theorem dX10_readNumber_66 : decode cX10_readNumber 66 = .ok (.iload_n 2, 1) := by decide +kernel
theorem dX10_readNumber_67 : decode cX10_readNumber 67 = .ok (.ireturn, 1) := by decide +kernel
theorem dX10_readCell_0 : decode cX10_readCell 0 = .ok (.aload_n 0, 1) := by decide +kernel
theorem dX10_readCell_1 : decode cX10_readCell 1 = .ok (.invokevirtual 158, 3) := by decide +kernel
theorem dX10_readCell_4 : decode cX10_readCell 4 = .ok (.bipush 65, 2) := by decide +kernel
theorem dX10_readCell_6 : decode cX10_readCell 6 = .ok (.isub, 1) := by decide +kernel
theorem dX10_readCell_7 : decode cX10_readCell 7 = .ok (.istore_n 1, 1) := by decide +kernel
theorem dX10_readCell_8 : decode cX10_readCell 8 = .ok (.iload_n 1, 1) := by decide +kernel
theorem dX10_readCell_9 : decode cX10_readCell 9 = .ok (.iconst 0, 1) := by decide +kernel
theorem dX10_readCell_10 : decode cX10_readCell 10 = .ok (.bipush 7, 2) := by decide +kernel
theorem dX10_readCell_12 : decode cX10_readCell 12 = .ok (.invokestatic 104, 3) := by decide +kernel
theorem dX10_readCell_15 : decode cX10_readCell 15 = .ok (.ifCond .ne 12, 3) := by decide +kernel
theorem dX10_readCell_18 : decode cX10_readCell 18 = .ok (.aload_n 0, 1) := by decide +kernel
theorem dX10_readCell_19 : decode cX10_readCell 19 = .ok (.iconst 1, 1) := by decide +kernel
theorem dX10_readCell_20 : decode cX10_readCell 20 = .ok (.aload_n 0, 1) := by decide +kernel
theorem dX10_readCell_21 : decode cX10_readCell 21 = .ok (.getfield 126, 3) := by decide +kernel
theorem dX10_readCell_24 : decode cX10_readCell 24 = .ok (.invokevirtual 151, 3) := by decide +kernel
theorem dX10_readCell_27 : decode cX10_readCell 27 = .ok (.aload_n 0, 1) := by decide +kernel
theorem dX10_readCell_28 : decode cX10_readCell 28 = .ok (.dup, 1) := by decide +kernel
theorem dX10_readCell_29 : decode cX10_readCell 29 = .ok (.getfield 126, 3) := by decide +kernel
theorem dX10_readCell_32 : decode cX10_readCell 32 = .ok (.iconst 1, 1) := by decide +kernel
theorem dX10_readCell_33 : decode cX10_readCell 33 = .ok (.iadd, 1) := by decide +kernel
theorem dX10_readCell_34 : decode cX10_readCell 34 = .ok (.putfield 126, 3) := by decide +kernel
theorem dX10_readCell_37 : decode cX10_readCell 37 = .ok (.aload_n 0, 1) := by decide +kernel
theorem dX10_readCell_38 : decode cX10_readCell 38 = .ok (.invokevirtual 158, 3) := by decide +kernel
theorem dX10_readCell_41 : decode cX10_readCell 41 = .ok (.bipush 49, 2) := by decide +kernel
theorem dX10_readCell_43 : decode cX10_readCell 43 = .ok (.isub, 1) := by decide +kernel
theorem dX10_readCell_44 : decode cX10_readCell 44 = .ok (.istore_n 2, 1) := by decide +kernel
theorem dX10_readCell_45 : decode cX10_readCell 45 = .ok (.iload_n 2, 1) := by decide +kernel
theorem dX10_readCell_46 : decode cX10_readCell 46 = .ok (.iconst 0, 1) := by decide +kernel
theorem dX10_readCell_47 : decode cX10_readCell 47 = .ok (.bipush 7, 2) := by decide +kernel
theorem dX10_readCell_49 : decode cX10_readCell 49 = .ok (.invokestatic 104, 3) := by decide +kernel
theorem dX10_readCell_52 : decode cX10_readCell 52 = .ok (.ifCond .ne 12, 3) := by decide +kernel
theorem dX10_readCell_55 : decode cX10_readCell 55 = .ok (.aload_n 0, 1) := by decide +kernel
theorem dX10_readCell_56 : decode cX10_readCell 56 = .ok (.iconst 1, 1) := by decide +kernel
theorem dX10_readCell_57 : decode cX10_readCell 57 = .ok (.aload_n 0, 1) := by decide +kernel
theorem dX10_readCell_58 : decode cX10_readCell 58 = .ok (.getfield 126, 3) := by decide +kernel
theorem dX10_readCell_61 : decode cX10_readCell 61 = .ok (.invokevirtual 151, 3) := by decide +kernel
theorem dX10_readCell_64 : decode cX10_readCell 64 = .ok (.aload_n 0, 1) := by decide +kernel
theorem dX10_readCell_65 : decode cX10_readCell 65 = .ok (.dup, 1) := by decide +kernel
theorem dX10_readCell_66 : decode cX10_readCell 66 = .ok (.getfield 126, 3) := by decide +kernel
theorem dX10_readCell_69 : decode cX10_readCell 69 = .ok (.iconst 1, 1) := by decide +kernel
theorem dX10_readCell_70 : decode cX10_readCell 70 = .ok (.iadd, 1) := by decide +kernel
theorem dX10_readCell_71 : decode cX10_readCell 71 = .ok (.putfield 126, 3) := by decide +kernel
theorem dX10_readCell_74 : decode cX10_readCell 74 = .ok (.bipush 8, 2) := by decide +kernel
theorem dX10_readCell_76 : decode cX10_readCell 76 = .ok (.iload_n 2, 1) := by decide +kernel
theorem dX10_readCell_77 : decode cX10_readCell 77 = .ok (.imul, 1) := by decide +kernel
theorem dX10_readCell_78 : decode cX10_readCell 78 = .ok (.iload_n 1, 1) := by decide +kernel
theorem dX10_readCell_79 : decode cX10_readCell 79 = .ok (.iadd, 1) := by decide +kernel
theorem dX10_readCell_80 : decode cX10_readCell 80 = .ok (.ireturn, 1) := by decide +kernel
theorem dX10_factorEnds_0 : decode cX10_factorEnds 0 = .ok (.aload_n 0, 1) := by decide +kernel
theorem dX10_factorEnds_1 : decode cX10_factorEnds 1 = .ok (.getfield 141, 3) := by decide +kernel
theorem dX10_factorEnds_4 : decode cX10_factorEnds 4 = .ok (.ifCond .le 35, 3) := by decide +kernel
theorem dX10_factorEnds_7 : decode cX10_factorEnds 7 = .ok (.aload_n 0, 1) := by decide +kernel
theorem dX10_factorEnds_8 : decode cX10_factorEnds 8 = .ok (.getfield 79, 3) := by decide +kernel
theorem dX10_factorEnds_11 : decode cX10_factorEnds 11 = .ok (.aload_n 0, 1) := by decide +kernel
theorem dX10_factorEnds_12 : decode cX10_factorEnds 12 = .ok (.getfield 141, 3) := by decide +kernel
theorem dX10_factorEnds_15 : decode cX10_factorEnds 15 = .ok (.iconst 1, 1) := by decide +kernel
theorem dX10_factorEnds_16 : decode cX10_factorEnds 16 = .ok (.isub, 1) := by decide +kernel
theorem dX10_factorEnds_17 : decode cX10_factorEnds 17 = .ok (.iaload, 1) := by decide +kernel
theorem dX10_factorEnds_18 : decode cX10_factorEnds 18 = .ok (.iconst 3, 1) := by decide +kernel
theorem dX10_factorEnds_19 : decode cX10_factorEnds 19 = .ok (.if_icmp .ne 20, 3) := by decide +kernel
theorem dX10_factorEnds_22 : decode cX10_factorEnds 22 = .ok (.aload_n 0, 1) := by decide +kernel
theorem dX10_factorEnds_23 : decode cX10_factorEnds 23 = .ok (.invokevirtual 166, 3) := by decide +kernel
theorem dX10_factorEnds_26 : decode cX10_factorEnds 26 = .ok (.aload_n 0, 1) := by decide +kernel
theorem dX10_factorEnds_27 : decode cX10_factorEnds 27 = .ok (.dup, 1) := by decide +kernel
theorem dX10_factorEnds_28 : decode cX10_factorEnds 28 = .ok (.getfield 148, 3) := by decide +kernel
theorem dX10_factorEnds_31 : decode cX10_factorEnds 31 = .ok (.iconst 1, 1) := by decide +kernel
theorem dX10_factorEnds_32 : decode cX10_factorEnds 32 = .ok (.isub, 1) := by decide +kernel
theorem dX10_factorEnds_33 : decode cX10_factorEnds 33 = .ok (.putfield 148, 3) := by decide +kernel
theorem dX10_factorEnds_36 : decode cX10_factorEnds 36 = .ok (.goto (-36), 3) := by decide +kernel
theorem dX10_factorEnds_39 : decode cX10_factorEnds 39 = .ok (.aload_n 0, 1) := by decide +kernel
theorem dX10_factorEnds_40 : decode cX10_factorEnds 40 = .ok (.getfield 141, 3) := by decide +kernel
theorem dX10_factorEnds_43 : decode cX10_factorEnds 43 = .ok (.ifCond .le 39, 3) := by decide +kernel
theorem dX10_factorEnds_46 : decode cX10_factorEnds 46 = .ok (.aload_n 0, 1) := by decide +kernel
theorem dX10_factorEnds_47 : decode cX10_factorEnds 47 = .ok (.getfield 79, 3) := by decide +kernel
theorem dX10_factorEnds_50 : decode cX10_factorEnds 50 = .ok (.aload_n 0, 1) := by decide +kernel
theorem dX10_factorEnds_51 : decode cX10_factorEnds 51 = .ok (.getfield 141, 3) := by decide +kernel
theorem dX10_factorEnds_54 : decode cX10_factorEnds 54 = .ok (.iconst 1, 1) := by decide +kernel
theorem dX10_factorEnds_55 : decode cX10_factorEnds 55 = .ok (.isub, 1) := by decide +kernel
theorem dX10_factorEnds_56 : decode cX10_factorEnds 56 = .ok (.iaload, 1) := by decide +kernel
theorem dX10_factorEnds_57 : decode cX10_factorEnds 57 = .ok (.bipush 6, 2) := by decide +kernel
theorem dX10_factorEnds_59 : decode cX10_factorEnds 59 = .ok (.if_icmp .eq 19, 3) := by decide +kernel
theorem dX10_factorEnds_62 : decode cX10_factorEnds 62 = .ok (.aload_n 0, 1) := by decide +kernel
theorem dX10_factorEnds_63 : decode cX10_factorEnds 63 = .ok (.getfield 79, 3) := by decide +kernel
theorem dX10_factorEnds_66 : decode cX10_factorEnds 66 = .ok (.aload_n 0, 1) := by decide +kernel
theorem dX10_factorEnds_67 : decode cX10_factorEnds 67 = .ok (.getfield 141, 3) := by decide +kernel
theorem dX10_factorEnds_70 : decode cX10_factorEnds 70 = .ok (.iconst 1, 1) := by decide +kernel
theorem dX10_factorEnds_71 : decode cX10_factorEnds 71 = .ok (.isub, 1) := by decide +kernel
theorem dX10_factorEnds_72 : decode cX10_factorEnds 72 = .ok (.iaload, 1) := by decide +kernel
theorem dX10_factorEnds_73 : decode cX10_factorEnds 73 = .ok (.bipush 7, 2) := by decide +kernel
theorem dX10_factorEnds_75 : decode cX10_factorEnds 75 = .ok (.if_icmp .ne 7, 3) := by decide +kernel
theorem dX10_factorEnds_78 : decode cX10_factorEnds 78 = .ok (.aload_n 0, 1) := by decide +kernel
theorem dX10_factorEnds_79 : decode cX10_factorEnds 79 = .ok (.invokevirtual 166, 3) := by decide +kernel
theorem dX10_factorEnds_82 : decode cX10_factorEnds 82 = .ok (.return_, 1) := by decide +kernel
theorem dX10_sumEnds_0 : decode cX10_sumEnds 0 = .ok (.aload_n 0, 1) := by decide +kernel
theorem dX10_sumEnds_1 : decode cX10_sumEnds 1 = .ok (.getfield 141, 3) := by decide +kernel
theorem dX10_sumEnds_4 : decode cX10_sumEnds 4 = .ok (.ifCond .le 37, 3) := by decide +kernel
theorem dX10_sumEnds_7 : decode cX10_sumEnds 7 = .ok (.aload_n 0, 1) := by decide +kernel
theorem dX10_sumEnds_8 : decode cX10_sumEnds 8 = .ok (.getfield 79, 3) := by decide +kernel
theorem dX10_sumEnds_11 : decode cX10_sumEnds 11 = .ok (.aload_n 0, 1) := by decide +kernel
theorem dX10_sumEnds_12 : decode cX10_sumEnds 12 = .ok (.getfield 141, 3) := by decide +kernel
theorem dX10_sumEnds_15 : decode cX10_sumEnds 15 = .ok (.iconst 1, 1) := by decide +kernel
theorem dX10_sumEnds_16 : decode cX10_sumEnds 16 = .ok (.isub, 1) := by decide +kernel
theorem dX10_sumEnds_17 : decode cX10_sumEnds 17 = .ok (.iaload, 1) := by decide +kernel
theorem dX10_sumEnds_18 : decode cX10_sumEnds 18 = .ok (.iconst 4, 1) := by decide +kernel
theorem dX10_sumEnds_19 : decode cX10_sumEnds 19 = .ok (.if_icmp .eq 18, 3) := by decide +kernel
theorem dX10_sumEnds_22 : decode cX10_sumEnds 22 = .ok (.aload_n 0, 1) := by decide +kernel
theorem dX10_sumEnds_23 : decode cX10_sumEnds 23 = .ok (.getfield 79, 3) := by decide +kernel
theorem dX10_sumEnds_26 : decode cX10_sumEnds 26 = .ok (.aload_n 0, 1) := by decide +kernel
theorem dX10_sumEnds_27 : decode cX10_sumEnds 27 = .ok (.getfield 141, 3) := by decide +kernel
theorem dX10_sumEnds_30 : decode cX10_sumEnds 30 = .ok (.iconst 1, 1) := by decide +kernel
theorem dX10_sumEnds_31 : decode cX10_sumEnds 31 = .ok (.isub, 1) := by decide +kernel
theorem dX10_sumEnds_32 : decode cX10_sumEnds 32 = .ok (.iaload, 1) := by decide +kernel
theorem dX10_sumEnds_33 : decode cX10_sumEnds 33 = .ok (.iconst 5, 1) := by decide +kernel
theorem dX10_sumEnds_34 : decode cX10_sumEnds 34 = .ok (.if_icmp .ne 7, 3) := by decide +kernel
theorem dX10_sumEnds_37 : decode cX10_sumEnds 37 = .ok (.aload_n 0, 1) := by decide +kernel
theorem dX10_sumEnds_38 : decode cX10_sumEnds 38 = .ok (.invokevirtual 166, 3) := by decide +kernel
theorem dX10_sumEnds_41 : decode cX10_sumEnds 41 = .ok (.return_, 1) := by decide +kernel
theorem dX10_factor_0 : decode cX10_factor 0 = .ok (.aload_n 0, 1) := by decide +kernel
theorem dX10_factor_1 : decode cX10_factor 1 = .ok (.invokevirtual 158, 3) := by decide +kernel
theorem dX10_factor_4 : decode cX10_factor 4 = .ok (.istore_n 1, 1) := by decide +kernel
theorem dX10_factor_5 : decode cX10_factor 5 = .ok (.aload_n 0, 1) := by decide +kernel
theorem dX10_factor_6 : decode cX10_factor 6 = .ok (.getfield 126, 3) := by decide +kernel
theorem dX10_factor_9 : decode cX10_factor 9 = .ok (.istore_n 2, 1) := by decide +kernel
theorem dX10_factor_10 : decode cX10_factor 10 = .ok (.iload_n 1, 1) := by decide +kernel
theorem dX10_factor_11 : decode cX10_factor 11 = .ok (.bipush 45, 2) := by decide +kernel
theorem dX10_factor_13 : decode cX10_factor 13 = .ok (.if_icmp .ne 10, 3) := by decide +kernel
theorem dX10_factor_16 : decode cX10_factor 16 = .ok (.aload_n 0, 1) := by decide +kernel
theorem dX10_factor_17 : decode cX10_factor 17 = .ok (.iconst 3, 1) := by decide +kernel
theorem dX10_factor_18 : decode cX10_factor 18 = .ok (.invokevirtual 169, 3) := by decide +kernel
theorem dX10_factor_21 : decode cX10_factor 21 = .ok (.iconst 0, 1) := by decide +kernel
theorem dX10_factor_22 : decode cX10_factor 22 = .ok (.ireturn, 1) := by decide +kernel
theorem dX10_factor_23 : decode cX10_factor 23 = .ok (.iload_n 1, 1) := by decide +kernel
theorem dX10_factor_24 : decode cX10_factor 24 = .ok (.bipush 40, 2) := by decide +kernel
theorem dX10_factor_26 : decode cX10_factor 26 = .ok (.if_icmp .ne 11, 3) := by decide +kernel
theorem dX10_factor_29 : decode cX10_factor 29 = .ok (.aload_n 0, 1) := by decide +kernel
theorem dX10_factor_30 : decode cX10_factor 30 = .ok (.bipush 9, 2) := by decide +kernel
theorem dX10_factor_32 : decode cX10_factor 32 = .ok (.invokevirtual 169, 3) := by decide +kernel
theorem dX10_factor_35 : decode cX10_factor 35 = .ok (.iconst 0, 1) := by decide +kernel
theorem dX10_factor_36 : decode cX10_factor 36 = .ok (.ireturn, 1) := by decide +kernel
theorem dX10_factor_37 : decode cX10_factor 37 = .ok (.iload_n 1, 1) := by decide +kernel
theorem dX10_factor_38 : decode cX10_factor 38 = .ok (.bipush 77, 2) := by decide +kernel
theorem dX10_factor_40 : decode cX10_factor 40 = .ok (.if_icmp .ne 24, 3) := by decide +kernel
theorem dX10_factor_43 : decode cX10_factor 43 = .ok (.aload_n 0, 1) := by decide +kernel
theorem dX10_factor_44 : decode cX10_factor 44 = .ok (.bipush 10, 2) := by decide +kernel
theorem dX10_factor_46 : decode cX10_factor 46 = .ok (.invokevirtual 169, 3) := by decide +kernel
theorem dX10_factor_49 : decode cX10_factor 49 = .ok (.aload_n 0, 1) := by decide +kernel
theorem dX10_factor_50 : decode cX10_factor 50 = .ok (.getfield 132, 3) := by decide +kernel
theorem dX10_factor_53 : decode cX10_factor 53 = .ok (.ifCond .ne 9, 3) := by decide +kernel
theorem dX10_factor_56 : decode cX10_factor 56 = .ok (.aload_n 0, 1) := by decide +kernel
theorem dX10_factor_57 : decode cX10_factor 57 = .ok (.bipush 40, 2) := by decide +kernel
theorem dX10_factor_59 : decode cX10_factor 59 = .ok (.invokevirtual 172, 3) := by decide +kernel
theorem dX10_factor_62 : decode cX10_factor 62 = .ok (.iconst 0, 1) := by decide +kernel
theorem dX10_factor_63 : decode cX10_factor 63 = .ok (.ireturn, 1) := by decide +kernel
theorem dX10_factor_64 : decode cX10_factor 64 = .ok (.iload_n 1, 1) := by decide +kernel
theorem dX10_factor_65 : decode cX10_factor 65 = .ok (.bipush 83, 2) := by decide +kernel
theorem dX10_factor_67 : decode cX10_factor 67 = .ok (.if_icmp .ne 136, 3) := by decide +kernel
theorem dX10_factor_70 : decode cX10_factor 70 = .ok (.aload_n 0, 1) := by decide +kernel
theorem dX10_factor_71 : decode cX10_factor 71 = .ok (.getfield 148, 3) := by decide +kernel
theorem dX10_factor_74 : decode cX10_factor 74 = .ok (.bipush 6, 2) := by decide +kernel
theorem dX10_factor_76 : decode cX10_factor 76 = .ok (.if_icmp .ne 12, 3) := by decide +kernel
theorem dX10_factor_79 : decode cX10_factor 79 = .ok (.aload_n 0, 1) := by decide +kernel
theorem dX10_factor_80 : decode cX10_factor 80 = .ok (.iconst 2, 1) := by decide +kernel
theorem dX10_factor_81 : decode cX10_factor 81 = .ok (.aload_n 0, 1) := by decide +kernel
theorem dX10_factor_82 : decode cX10_factor 82 = .ok (.getfield 126, 3) := by decide +kernel
theorem dX10_factor_85 : decode cX10_factor 85 = .ok (.invokevirtual 151, 3) := by decide +kernel
theorem dX10_factor_88 : decode cX10_factor 88 = .ok (.aload_n 0, 1) := by decide +kernel
theorem dX10_factor_89 : decode cX10_factor 89 = .ok (.dup, 1) := by decide +kernel
theorem dX10_factor_90 : decode cX10_factor 90 = .ok (.getfield 126, 3) := by decide +kernel
theorem dX10_factor_93 : decode cX10_factor 93 = .ok (.iconst 1, 1) := by decide +kernel
theorem dX10_factor_94 : decode cX10_factor 94 = .ok (.iadd, 1) := by decide +kernel
theorem dX10_factor_95 : decode cX10_factor 95 = .ok (.putfield 126, 3) := by decide +kernel
theorem dX10_factor_98 : decode cX10_factor 98 = .ok (.aload_n 0, 1) := by decide +kernel
theorem dX10_factor_99 : decode cX10_factor 99 = .ok (.getfield 132, 3) := by decide +kernel
theorem dX10_factor_102 : decode cX10_factor 102 = .ok (.ifCond .ne 9, 3) := by decide +kernel
theorem dX10_factor_105 : decode cX10_factor 105 = .ok (.aload_n 0, 1) := by decide +kernel
theorem dX10_factor_106 : decode cX10_factor 106 = .ok (.bipush 40, 2) := by decide +kernel
theorem dX10_factor_108 : decode cX10_factor 108 = .ok (.invokevirtual 172, 3) := by decide +kernel
theorem dX10_factor_111 : decode cX10_factor 111 = .ok (.aload_n 0, 1) := by decide +kernel
theorem dX10_factor_112 : decode cX10_factor 112 = .ok (.getfield 126, 3) := by decide +kernel
theorem dX10_factor_115 : decode cX10_factor 115 = .ok (.istore_n 3, 1) := by decide +kernel
theorem dX10_factor_116 : decode cX10_factor 116 = .ok (.aload_n 0, 1) := by decide +kernel
theorem dX10_factor_117 : decode cX10_factor 117 = .ok (.getfield 132, 3) := by decide +kernel
theorem dX10_factor_120 : decode cX10_factor 120 = .ok (.ifCond .ne 10, 3) := by decide +kernel
theorem dX10_factor_123 : decode cX10_factor 123 = .ok (.aload_n 0, 1) := by decide +kernel
theorem dX10_factor_124 : decode cX10_factor 124 = .ok (.invokevirtual 175, 3) := by decide +kernel
theorem dX10_factor_127 : decode cX10_factor 127 = .ok (.goto 4, 3) := by decide +kernel
theorem dX10_factor_130 : decode cX10_factor 130 = .ok (.iconst 0, 1) := by decide +kernel
theorem dX10_factor_131 : decode cX10_factor 131 = .ok (.istore 4, 2) := by decide +kernel
theorem dX10_factor_133 : decode cX10_factor 133 = .ok (.aload_n 0, 1) := by decide +kernel
theorem dX10_factor_134 : decode cX10_factor 134 = .ok (.getfield 132, 3) := by decide +kernel
theorem dX10_factor_137 : decode cX10_factor 137 = .ok (.ifCond .ne 9, 3) := by decide +kernel
theorem dX10_factor_140 : decode cX10_factor 140 = .ok (.aload_n 0, 1) := by decide +kernel
theorem dX10_factor_141 : decode cX10_factor 141 = .ok (.bipush 58, 2) := by decide +kernel
theorem dX10_factor_143 : decode cX10_factor 143 = .ok (.invokevirtual 172, 3) := by decide +kernel
theorem dX10_factor_146 : decode cX10_factor 146 = .ok (.aload_n 0, 1) := by decide +kernel
theorem dX10_factor_147 : decode cX10_factor 147 = .ok (.getfield 126, 3) := by decide +kernel
theorem dX10_factor_150 : decode cX10_factor 150 = .ok (.istore 5, 2) := by decide +kernel
theorem dX10_factor_152 : decode cX10_factor 152 = .ok (.aload_n 0, 1) := by decide +kernel
theorem dX10_factor_153 : decode cX10_factor 153 = .ok (.getfield 132, 3) := by decide +kernel
theorem dX10_factor_156 : decode cX10_factor 156 = .ok (.ifCond .ne 10, 3) := by decide +kernel
theorem dX10_factor_159 : decode cX10_factor 159 = .ok (.aload_n 0, 1) := by decide +kernel
theorem dX10_factor_160 : decode cX10_factor 160 = .ok (.invokevirtual 175, 3) := by decide +kernel
theorem dX10_factor_163 : decode cX10_factor 163 = .ok (.goto 4, 3) := by decide +kernel
theorem dX10_factor_166 : decode cX10_factor 166 = .ok (.iconst 0, 1) := by decide +kernel
theorem dX10_factor_167 : decode cX10_factor 167 = .ok (.istore 6, 2) := by decide +kernel
theorem dX10_factor_169 : decode cX10_factor 169 = .ok (.aload_n 0, 1) := by decide +kernel
theorem dX10_factor_170 : decode cX10_factor 170 = .ok (.getfield 132, 3) := by decide +kernel
theorem dX10_factor_173 : decode cX10_factor 173 = .ok (.ifCond .ne 9, 3) := by decide +kernel
theorem dX10_factor_176 : decode cX10_factor 176 = .ok (.aload_n 0, 1) := by decide +kernel
theorem dX10_factor_177 : decode cX10_factor 177 = .ok (.bipush 41, 2) := by decide +kernel
theorem dX10_factor_179 : decode cX10_factor 179 = .ok (.invokevirtual 172, 3) := by decide +kernel
theorem dX10_factor_182 : decode cX10_factor 182 = .ok (.aload_n 0, 1) := by decide +kernel
theorem dX10_factor_183 : decode cX10_factor 183 = .ok (.getfield 132, 3) := by decide +kernel
theorem dX10_factor_186 : decode cX10_factor 186 = .ok (.ifCond .ne 15, 3) := by decide +kernel
theorem dX10_factor_189 : decode cX10_factor 189 = .ok (.aload_n 0, 1) := by decide +kernel
theorem dX10_factor_190 : decode cX10_factor 190 = .ok (.iconst 2, 1) := by decide +kernel
theorem dX10_factor_191 : decode cX10_factor 191 = .ok (.iload 4, 2) := by decide +kernel
theorem dX10_factor_193 : decode cX10_factor 193 = .ok (.iload 6, 2) := by decide +kernel
theorem dX10_factor_195 : decode cX10_factor 195 = .ok (.iload_n 3, 1) := by decide +kernel
theorem dX10_factor_196 : decode cX10_factor 196 = .ok (.iload 5, 2) := by decide +kernel
theorem dX10_factor_198 : decode cX10_factor 198 = .ok (.invokevirtual 144, 3) := by decide +kernel
theorem dX10_factor_201 : decode cX10_factor 201 = .ok (.iconst 1, 1) := by decide +kernel
theorem dX10_factor_202 : decode cX10_factor 202 = .ok (.ireturn, 1) := by decide +kernel
theorem dX10_factor_203 : decode cX10_factor 203 = .ok (.aload_n 0, 1) := by decide +kernel
theorem dX10_factor_204 : decode cX10_factor 204 = .ok (.invokevirtual 162, 3) := by decide +kernel
theorem dX10_factor_207 : decode cX10_factor 207 = .ok (.ifCond .eq 26, 3) := by decide +kernel
theorem dX10_factor_210 : decode cX10_factor 210 = .ok (.aload_n 0, 1) := by decide +kernel
theorem dX10_factor_211 : decode cX10_factor 211 = .ok (.invokevirtual 178, 3) := by decide +kernel
theorem dX10_factor_214 : decode cX10_factor 214 = .ok (.istore_n 3, 1) := by decide +kernel
theorem dX10_factor_215 : decode cX10_factor 215 = .ok (.aload_n 0, 1) := by decide +kernel
theorem dX10_factor_216 : decode cX10_factor 216 = .ok (.getfield 132, 3) := by decide +kernel
theorem dX10_factor_219 : decode cX10_factor 219 = .ok (.ifCond .ne 12, 3) := by decide +kernel
theorem dX10_factor_222 : decode cX10_factor 222 = .ok (.aload_n 0, 1) := by decide +kernel
theorem dX10_factor_223 : decode cX10_factor 223 = .ok (.iconst 0, 1) := by decide +kernel
theorem dX10_factor_224 : decode cX10_factor 224 = .ok (.iload_n 3, 1) := by decide +kernel
theorem dX10_factor_225 : decode cX10_factor 225 = .ok (.iconst 0, 1) := by decide +kernel
theorem dX10_factor_226 : decode cX10_factor 226 = .ok (.iload_n 2, 1) := by decide +kernel
theorem dX10_factor_227 : decode cX10_factor 227 = .ok (.iconst (-1), 1) := by decide +kernel
theorem dX10_factor_228 : decode cX10_factor 228 = .ok (.invokevirtual 144, 3) := by decide +kernel
theorem dX10_factor_231 : decode cX10_factor 231 = .ok (.iconst 1, 1) := by decide +kernel
theorem dX10_factor_232 : decode cX10_factor 232 = .ok (.ireturn, 1) := by decide +kernel
theorem dX10_factor_233 : decode cX10_factor 233 = .ok (.aload_n 0, 1) := by decide +kernel
theorem dX10_factor_234 : decode cX10_factor 234 = .ok (.invokevirtual 175, 3) := by decide +kernel
theorem dX10_factor_237 : decode cX10_factor 237 = .ok (.istore_n 3, 1) := by decide +kernel
theorem dX10_factor_238 : decode cX10_factor 238 = .ok (.aload_n 0, 1) := by decide +kernel
theorem dX10_factor_239 : decode cX10_factor 239 = .ok (.getfield 132, 3) := by decide +kernel
theorem dX10_factor_242 : decode cX10_factor 242 = .ok (.ifCond .ne 12, 3) := by decide +kernel
theorem dX10_factor_245 : decode cX10_factor 245 = .ok (.aload_n 0, 1) := by decide +kernel
theorem dX10_factor_246 : decode cX10_factor 246 = .ok (.iconst 1, 1) := by decide +kernel
theorem dX10_factor_247 : decode cX10_factor 247 = .ok (.iload_n 3, 1) := by decide +kernel
theorem dX10_factor_248 : decode cX10_factor 248 = .ok (.iconst 0, 1) := by decide +kernel
theorem dX10_factor_249 : decode cX10_factor 249 = .ok (.iload_n 2, 1) := by decide +kernel
theorem dX10_factor_250 : decode cX10_factor 250 = .ok (.iconst (-1), 1) := by decide +kernel
theorem dX10_factor_251 : decode cX10_factor 251 = .ok (.invokevirtual 144, 3) := by decide +kernel
theorem dX10_factor_254 : decode cX10_factor 254 = .ok (.iconst 1, 1) := by decide +kernel
theorem dX10_factor_255 : decode cX10_factor 255 = .ok (.ireturn, 1) := by decide +kernel
theorem dX10_joinOf_0 : decode cX10_joinOf 0 = .ok (.iload_n 0, 1) := by decide +kernel
theorem dX10_joinOf_1 : decode cX10_joinOf 1 = .ok (.bipush 43, 2) := by decide +kernel
theorem dX10_joinOf_3 : decode cX10_joinOf 3 = .ok (.if_icmp .ne 7, 3) := by decide +kernel
theorem dX10_joinOf_6 : decode cX10_joinOf 6 = .ok (.iconst 4, 1) := by decide +kernel
theorem dX10_joinOf_7 : decode cX10_joinOf 7 = .ok (.goto 36, 3) := by decide +kernel
theorem dX10_joinOf_10 : decode cX10_joinOf 10 = .ok (.iload_n 0, 1) := by decide +kernel
theorem dX10_joinOf_11 : decode cX10_joinOf 11 = .ok (.bipush 45, 2) := by decide +kernel
theorem dX10_joinOf_13 : decode cX10_joinOf 13 = .ok (.if_icmp .ne 7, 3) := by decide +kernel
theorem dX10_joinOf_16 : decode cX10_joinOf 16 = .ok (.iconst 5, 1) := by decide +kernel
theorem dX10_joinOf_17 : decode cX10_joinOf 17 = .ok (.goto 26, 3) := by decide +kernel
theorem dX10_joinOf_20 : decode cX10_joinOf 20 = .ok (.iload_n 0, 1) := by decide +kernel
theorem dX10_joinOf_21 : decode cX10_joinOf 21 = .ok (.bipush 42, 2) := by decide +kernel
theorem dX10_joinOf_23 : decode cX10_joinOf 23 = .ok (.if_icmp .ne 8, 3) := by decide +kernel
theorem dX10_joinOf_26 : decode cX10_joinOf 26 = .ok (.bipush 6, 2) := by decide +kernel
theorem dX10_joinOf_28 : decode cX10_joinOf 28 = .ok (.goto 15, 3) := by decide +kernel
theorem dX10_joinOf_31 : decode cX10_joinOf 31 = .ok (.iload_n 0, 1) := by decide +kernel
theorem dX10_joinOf_32 : decode cX10_joinOf 32 = .ok (.bipush 47, 2) := by decide +kernel
theorem dX10_joinOf_34 : decode cX10_joinOf 34 = .ok (.if_icmp .ne 8, 3) := by decide +kernel
theorem dX10_joinOf_37 : decode cX10_joinOf 37 = .ok (.bipush 7, 2) := by decide +kernel
theorem dX10_joinOf_39 : decode cX10_joinOf 39 = .ok (.goto 4, 3) := by decide +kernel
theorem dX10_joinOf_42 : decode cX10_joinOf 42 = .ok (.iconst (-1), 1) := by decide +kernel
theorem dX10_joinOf_43 : decode cX10_joinOf 43 = .ok (.ireturn, 1) := by decide +kernel
theorem dX10_reads_0 : decode cX10_reads 0 = .ok (.aload_n 0, 1) := by decide +kernel
theorem dX10_reads_1 : decode cX10_reads 1 = .ok (.iload_n 1, 1) := by decide +kernel
theorem dX10_reads_2 : decode cX10_reads 2 = .ok (.putfield 129, 3) := by decide +kernel
theorem dX10_reads_5 : decode cX10_reads 5 = .ok (.aload_n 0, 1) := by decide +kernel
theorem dX10_reads_6 : decode cX10_reads 6 = .ok (.iconst 0, 1) := by decide +kernel
theorem dX10_reads_7 : decode cX10_reads 7 = .ok (.putfield 126, 3) := by decide +kernel
theorem dX10_reads_10 : decode cX10_reads 10 = .ok (.aload_n 0, 1) := by decide +kernel
theorem dX10_reads_11 : decode cX10_reads 11 = .ok (.iconst 0, 1) := by decide +kernel
theorem dX10_reads_12 : decode cX10_reads 12 = .ok (.putfield 132, 3) := by decide +kernel
theorem dX10_reads_15 : decode cX10_reads 15 = .ok (.aload_n 0, 1) := by decide +kernel
theorem dX10_reads_16 : decode cX10_reads 16 = .ok (.iconst 0, 1) := by decide +kernel
theorem dX10_reads_17 : decode cX10_reads 17 = .ok (.putfield 138, 3) := by decide +kernel
theorem dX10_reads_20 : decode cX10_reads 20 = .ok (.aload_n 0, 1) := by decide +kernel
theorem dX10_reads_21 : decode cX10_reads 21 = .ok (.iconst 0, 1) := by decide +kernel
theorem dX10_reads_22 : decode cX10_reads 22 = .ok (.putfield 141, 3) := by decide +kernel
theorem dX10_reads_25 : decode cX10_reads 25 = .ok (.aload_n 0, 1) := by decide +kernel
theorem dX10_reads_26 : decode cX10_reads 26 = .ok (.iconst 0, 1) := by decide +kernel
theorem dX10_reads_27 : decode cX10_reads 27 = .ok (.putfield 148, 3) := by decide +kernel
theorem dX10_reads_30 : decode cX10_reads 30 = .ok (.aload_n 0, 1) := by decide +kernel
theorem dX10_reads_31 : decode cX10_reads 31 = .ok (.bipush 61, 2) := by decide +kernel
theorem dX10_reads_33 : decode cX10_reads 33 = .ok (.invokevirtual 172, 3) := by decide +kernel
theorem dX10_reads_36 : decode cX10_reads 36 = .ok (.iconst 1, 1) := by decide +kernel
theorem dX10_reads_37 : decode cX10_reads 37 = .ok (.istore_n 2, 1) := by decide +kernel
theorem dX10_reads_38 : decode cX10_reads 38 = .ok (.iconst 1, 1) := by decide +kernel
theorem dX10_reads_39 : decode cX10_reads 39 = .ok (.istore_n 3, 1) := by decide +kernel
theorem dX10_reads_40 : decode cX10_reads 40 = .ok (.iload_n 3, 1) := by decide +kernel
theorem dX10_reads_41 : decode cX10_reads 41 = .ok (.ifCond .eq 341, 3) := by decide +kernel
theorem dX10_reads_44 : decode cX10_reads 44 = .ok (.aload_n 0, 1) := by decide +kernel
theorem dX10_reads_45 : decode cX10_reads 45 = .ok (.getfield 132, 3) := by decide +kernel
theorem dX10_reads_48 : decode cX10_reads 48 = .ok (.ifCond .ne 334, 3) := by decide +kernel
theorem dX10_reads_51 : decode cX10_reads 51 = .ok (.iload_n 2, 1) := by decide +kernel
theorem dX10_reads_52 : decode cX10_reads 52 = .ok (.ifCond .eq 34, 3) := by decide +kernel
theorem dX10_reads_55 : decode cX10_reads 55 = .ok (.aload_n 0, 1) := by decide +kernel
theorem dX10_reads_56 : decode cX10_reads 56 = .ok (.invokevirtual 181, 3) := by decide +kernel
theorem dX10_reads_59 : decode cX10_reads 59 = .ok (.ifCond .ne 7, 3) := by decide +kernel
theorem dX10_reads_62 : decode cX10_reads 62 = .ok (.iconst 1, 1) := by decide +kernel
theorem dX10_reads_63 : decode cX10_reads 63 = .ok (.goto 4, 3) := by decide +kernel
theorem dX10_reads_66 : decode cX10_reads 66 = .ok (.iconst 0, 1) := by decide +kernel
theorem dX10_reads_67 : decode cX10_reads 67 = .ok (.istore_n 2, 1) := by decide +kernel
theorem dX10_reads_68 : decode cX10_reads 68 = .ok (.iload_n 2, 1) := by decide +kernel
theorem dX10_reads_69 : decode cX10_reads 69 = .ok (.ifCond .ne (-29), 3) := by decide +kernel
theorem dX10_reads_72 : decode cX10_reads 72 = .ok (.aload_n 0, 1) := by decide +kernel
theorem dX10_reads_73 : decode cX10_reads 73 = .ok (.getfield 132, 3) := by decide +kernel
theorem dX10_reads_76 : decode cX10_reads 76 = .ok (.ifCond .ne (-36), 3) := by decide +kernel
theorem dX10_reads_79 : decode cX10_reads 79 = .ok (.aload_n 0, 1) := by decide +kernel
theorem dX10_reads_80 : decode cX10_reads 80 = .ok (.invokevirtual 184, 3) := by decide +kernel
theorem dX10_reads_83 : decode cX10_reads 83 = .ok (.goto (-43), 3) := by decide +kernel
theorem dX10_reads_86 : decode cX10_reads 86 = .ok (.aload_n 0, 1) := by decide +kernel
theorem dX10_reads_87 : decode cX10_reads 87 = .ok (.invokevirtual 158, 3) := by decide +kernel
theorem dX10_reads_90 : decode cX10_reads 90 = .ok (.invokestatic 187, 3) := by decide +kernel
theorem dX10_reads_93 : decode cX10_reads 93 = .ok (.istore 4, 2) := by decide +kernel
theorem dX10_reads_95 : decode cX10_reads 95 = .ok (.iload 4, 2) := by decide +kernel
theorem dX10_reads_97 : decode cX10_reads 97 = .ok (.bipush 6, 2) := by decide +kernel
theorem dX10_reads_99 : decode cX10_reads 99 = .ok (.if_icmp .eq 10, 3) := by decide +kernel
theorem dX10_reads_102 : decode cX10_reads 102 = .ok (.iload 4, 2) := by decide +kernel
theorem dX10_reads_104 : decode cX10_reads 104 = .ok (.bipush 7, 2) := by decide +kernel
theorem dX10_reads_106 : decode cX10_reads 106 = .ok (.if_icmp .ne 28, 3) := by decide +kernel
theorem dX10_reads_109 : decode cX10_reads 109 = .ok (.aload_n 0, 1) := by decide +kernel
theorem dX10_reads_110 : decode cX10_reads 110 = .ok (.iload 4, 2) := by decide +kernel
theorem dX10_reads_112 : decode cX10_reads 112 = .ok (.aload_n 0, 1) := by decide +kernel
theorem dX10_reads_113 : decode cX10_reads 113 = .ok (.getfield 126, 3) := by decide +kernel
theorem dX10_reads_116 : decode cX10_reads 116 = .ok (.invokevirtual 155, 3) := by decide +kernel
theorem dX10_reads_119 : decode cX10_reads 119 = .ok (.aload_n 0, 1) := by decide +kernel
theorem dX10_reads_120 : decode cX10_reads 120 = .ok (.dup, 1) := by decide +kernel
theorem dX10_reads_121 : decode cX10_reads 121 = .ok (.getfield 126, 3) := by decide +kernel
theorem dX10_reads_124 : decode cX10_reads 124 = .ok (.iconst 1, 1) := by decide +kernel
theorem dX10_reads_125 : decode cX10_reads 125 = .ok (.iadd, 1) := by decide +kernel
theorem dX10_reads_126 : decode cX10_reads 126 = .ok (.putfield 126, 3) := by decide +kernel
theorem dX10_reads_129 : decode cX10_reads 129 = .ok (.iconst 1, 1) := by decide +kernel
theorem dX10_reads_130 : decode cX10_reads 130 = .ok (.istore_n 2, 1) := by decide +kernel
theorem dX10_reads_131 : decode cX10_reads 131 = .ok (.goto (-91), 3) := by decide +kernel
theorem dX10_reads_134 : decode cX10_reads 134 = .ok (.aload_n 0, 1) := by decide +kernel
theorem dX10_reads_135 : decode cX10_reads 135 = .ok (.invokevirtual 191, 3) := by decide +kernel
theorem dX10_reads_138 : decode cX10_reads 138 = .ok (.iload 4, 2) := by decide +kernel
theorem dX10_reads_140 : decode cX10_reads 140 = .ok (.iconst (-1), 1) := by decide +kernel
theorem dX10_reads_141 : decode cX10_reads 141 = .ok (.if_icmp .eq 28, 3) := by decide +kernel
theorem dX10_reads_144 : decode cX10_reads 144 = .ok (.aload_n 0, 1) := by decide +kernel
theorem dX10_reads_145 : decode cX10_reads 145 = .ok (.iload 4, 2) := by decide +kernel
theorem dX10_reads_147 : decode cX10_reads 147 = .ok (.aload_n 0, 1) := by decide +kernel
theorem dX10_reads_148 : decode cX10_reads 148 = .ok (.getfield 126, 3) := by decide +kernel
theorem dX10_reads_151 : decode cX10_reads 151 = .ok (.invokevirtual 155, 3) := by decide +kernel
theorem dX10_reads_154 : decode cX10_reads 154 = .ok (.aload_n 0, 1) := by decide +kernel
theorem dX10_reads_155 : decode cX10_reads 155 = .ok (.dup, 1) := by decide +kernel
theorem dX10_reads_156 : decode cX10_reads 156 = .ok (.getfield 126, 3) := by decide +kernel
theorem dX10_reads_159 : decode cX10_reads 159 = .ok (.iconst 1, 1) := by decide +kernel
theorem dX10_reads_160 : decode cX10_reads 160 = .ok (.iadd, 1) := by decide +kernel
theorem dX10_reads_161 : decode cX10_reads 161 = .ok (.putfield 126, 3) := by decide +kernel
theorem dX10_reads_164 : decode cX10_reads 164 = .ok (.iconst 1, 1) := by decide +kernel
theorem dX10_reads_165 : decode cX10_reads 165 = .ok (.istore_n 2, 1) := by decide +kernel
theorem dX10_reads_166 : decode cX10_reads 166 = .ok (.goto 213, 3) := by decide +kernel
theorem dX10_reads_169 : decode cX10_reads 169 = .ok (.aload_n 0, 1) := by decide +kernel
theorem dX10_reads_170 : decode cX10_reads 170 = .ok (.getfield 126, 3) := by decide +kernel
theorem dX10_reads_173 : decode cX10_reads 173 = .ok (.aload_n 0, 1) := by decide +kernel
theorem dX10_reads_174 : decode cX10_reads 174 = .ok (.getfield 129, 3) := by decide +kernel
theorem dX10_reads_177 : decode cX10_reads 177 = .ok (.if_icmp .ne 24, 3) := by decide +kernel
theorem dX10_reads_180 : decode cX10_reads 180 = .ok (.aload_n 0, 1) := by decide +kernel
theorem dX10_reads_181 : decode cX10_reads 181 = .ok (.getfield 141, 3) := by decide +kernel
theorem dX10_reads_184 : decode cX10_reads 184 = .ok (.ifCond .le 12, 3) := by decide +kernel
theorem dX10_reads_187 : decode cX10_reads 187 = .ok (.aload_n 0, 1) := by decide +kernel
theorem dX10_reads_188 : decode cX10_reads 188 = .ok (.iconst 1, 1) := by decide +kernel
theorem dX10_reads_189 : decode cX10_reads 189 = .ok (.aload_n 0, 1) := by decide +kernel
theorem dX10_reads_190 : decode cX10_reads 190 = .ok (.getfield 126, 3) := by decide +kernel
theorem dX10_reads_193 : decode cX10_reads 193 = .ok (.invokevirtual 151, 3) := by decide +kernel
theorem dX10_reads_196 : decode cX10_reads 196 = .ok (.iconst 0, 1) := by decide +kernel
theorem dX10_reads_197 : decode cX10_reads 197 = .ok (.istore_n 3, 1) := by decide +kernel
theorem dX10_reads_198 : decode cX10_reads 198 = .ok (.goto 181, 3) := by decide +kernel
theorem dX10_reads_201 : decode cX10_reads 201 = .ok (.aload_n 0, 1) := by decide +kernel
theorem dX10_reads_202 : decode cX10_reads 202 = .ok (.invokevirtual 158, 3) := by decide +kernel
theorem dX10_reads_205 : decode cX10_reads 205 = .ok (.bipush 44, 2) := by decide +kernel
theorem dX10_reads_207 : decode cX10_reads 207 = .ok (.if_icmp .ne 54, 3) := by decide +kernel
theorem dX10_reads_210 : decode cX10_reads 210 = .ok (.aload_n 0, 1) := by decide +kernel
theorem dX10_reads_211 : decode cX10_reads 211 = .ok (.getfield 141, 3) := by decide +kernel
theorem dX10_reads_214 : decode cX10_reads 214 = .ok (.ifCond .le 47, 3) := by decide +kernel
theorem dX10_reads_217 : decode cX10_reads 217 = .ok (.aload_n 0, 1) := by decide +kernel
theorem dX10_reads_218 : decode cX10_reads 218 = .ok (.getfield 79, 3) := by decide +kernel
theorem dX10_reads_221 : decode cX10_reads 221 = .ok (.aload_n 0, 1) := by decide +kernel
theorem dX10_reads_222 : decode cX10_reads 222 = .ok (.getfield 141, 3) := by decide +kernel
theorem dX10_reads_225 : decode cX10_reads 225 = .ok (.iconst 1, 1) := by decide +kernel
theorem dX10_reads_226 : decode cX10_reads 226 = .ok (.isub, 1) := by decide +kernel
theorem dX10_reads_227 : decode cX10_reads 227 = .ok (.iaload, 1) := by decide +kernel
theorem dX10_reads_228 : decode cX10_reads 228 = .ok (.bipush 10, 2) := by decide +kernel
theorem dX10_reads_230 : decode cX10_reads 230 = .ok (.if_icmp .ne 31, 3) := by decide +kernel
theorem dX10_reads_233 : decode cX10_reads 233 = .ok (.aload_n 0, 1) := by decide +kernel
theorem dX10_reads_234 : decode cX10_reads 234 = .ok (.getfield 79, 3) := by decide +kernel
theorem dX10_reads_237 : decode cX10_reads 237 = .ok (.aload_n 0, 1) := by decide +kernel
theorem dX10_reads_238 : decode cX10_reads 238 = .ok (.getfield 141, 3) := by decide +kernel
theorem dX10_reads_241 : decode cX10_reads 241 = .ok (.iconst 1, 1) := by decide +kernel
theorem dX10_reads_242 : decode cX10_reads 242 = .ok (.isub, 1) := by decide +kernel
theorem dX10_reads_243 : decode cX10_reads 243 = .ok (.bipush 11, 2) := by decide +kernel
theorem dX10_reads_245 : decode cX10_reads 245 = .ok (.iastore, 1) := by decide +kernel
theorem dX10_reads_246 : decode cX10_reads 246 = .ok (.aload_n 0, 1) := by decide +kernel
theorem dX10_reads_247 : decode cX10_reads 247 = .ok (.dup, 1) := by decide +kernel
theorem dX10_reads_248 : decode cX10_reads 248 = .ok (.getfield 126, 3) := by decide +kernel
theorem dX10_reads_251 : decode cX10_reads 251 = .ok (.iconst 1, 1) := by decide +kernel
theorem dX10_reads_252 : decode cX10_reads 252 = .ok (.iadd, 1) := by decide +kernel
theorem dX10_reads_253 : decode cX10_reads 253 = .ok (.putfield 126, 3) := by decide +kernel
theorem dX10_reads_256 : decode cX10_reads 256 = .ok (.iconst 1, 1) := by decide +kernel
theorem dX10_reads_257 : decode cX10_reads 257 = .ok (.istore_n 2, 1) := by decide +kernel
theorem dX10_reads_258 : decode cX10_reads 258 = .ok (.goto 121, 3) := by decide +kernel
theorem dX10_reads_261 : decode cX10_reads 261 = .ok (.aload_n 0, 1) := by decide +kernel
theorem dX10_reads_262 : decode cX10_reads 262 = .ok (.invokevirtual 158, 3) := by decide +kernel
theorem dX10_reads_265 : decode cX10_reads 265 = .ok (.bipush 41, 2) := by decide +kernel
theorem dX10_reads_267 : decode cX10_reads 267 = .ok (.if_icmp .ne 103, 3) := by decide +kernel
theorem dX10_reads_270 : decode cX10_reads 270 = .ok (.aload_n 0, 1) := by decide +kernel
theorem dX10_reads_271 : decode cX10_reads 271 = .ok (.getfield 141, 3) := by decide +kernel
theorem dX10_reads_274 : decode cX10_reads 274 = .ok (.ifCond .le 96, 3) := by decide +kernel
theorem dX10_reads_277 : decode cX10_reads 277 = .ok (.aload_n 0, 1) := by decide +kernel
theorem dX10_reads_278 : decode cX10_reads 278 = .ok (.getfield 79, 3) := by decide +kernel
theorem dX10_reads_281 : decode cX10_reads 281 = .ok (.aload_n 0, 1) := by decide +kernel
theorem dX10_reads_282 : decode cX10_reads 282 = .ok (.getfield 141, 3) := by decide +kernel
theorem dX10_reads_285 : decode cX10_reads 285 = .ok (.iconst 1, 1) := by decide +kernel
theorem dX10_reads_286 : decode cX10_reads 286 = .ok (.isub, 1) := by decide +kernel
theorem dX10_reads_287 : decode cX10_reads 287 = .ok (.iaload, 1) := by decide +kernel
theorem dX10_reads_288 : decode cX10_reads 288 = .ok (.bipush 9, 2) := by decide +kernel
theorem dX10_reads_290 : decode cX10_reads 290 = .ok (.if_icmp .eq 19, 3) := by decide +kernel
theorem dX10_reads_293 : decode cX10_reads 293 = .ok (.aload_n 0, 1) := by decide +kernel
theorem dX10_reads_294 : decode cX10_reads 294 = .ok (.getfield 79, 3) := by decide +kernel
theorem dX10_reads_297 : decode cX10_reads 297 = .ok (.aload_n 0, 1) := by decide +kernel
theorem dX10_reads_298 : decode cX10_reads 298 = .ok (.getfield 141, 3) := by decide +kernel
theorem dX10_reads_301 : decode cX10_reads 301 = .ok (.iconst 1, 1) := by decide +kernel
theorem dX10_reads_302 : decode cX10_reads 302 = .ok (.isub, 1) := by decide +kernel
theorem dX10_reads_303 : decode cX10_reads 303 = .ok (.iaload, 1) := by decide +kernel
theorem dX10_reads_304 : decode cX10_reads 304 = .ok (.bipush 11, 2) := by decide +kernel
theorem dX10_reads_306 : decode cX10_reads 306 = .ok (.if_icmp .ne 64, 3) := by decide +kernel
theorem dX10_reads_309 : decode cX10_reads 309 = .ok (.aload_n 0, 1) := by decide +kernel
theorem dX10_reads_310 : decode cX10_reads 310 = .ok (.dup, 1) := by decide +kernel
theorem dX10_reads_311 : decode cX10_reads 311 = .ok (.getfield 141, 3) := by decide +kernel
theorem dX10_reads_314 : decode cX10_reads 314 = .ok (.iconst 1, 1) := by decide +kernel
theorem dX10_reads_315 : decode cX10_reads 315 = .ok (.isub, 1) := by decide +kernel
theorem dX10_reads_316 : decode cX10_reads 316 = .ok (.putfield 141, 3) := by decide +kernel
theorem dX10_reads_319 : decode cX10_reads 319 = .ok (.aload_n 0, 1) := by decide +kernel
theorem dX10_reads_320 : decode cX10_reads 320 = .ok (.dup, 1) := by decide +kernel
theorem dX10_reads_321 : decode cX10_reads 321 = .ok (.getfield 148, 3) := by decide +kernel
theorem dX10_reads_324 : decode cX10_reads 324 = .ok (.iconst 1, 1) := by decide +kernel
theorem dX10_reads_325 : decode cX10_reads 325 = .ok (.isub, 1) := by decide +kernel
theorem dX10_reads_326 : decode cX10_reads 326 = .ok (.putfield 148, 3) := by decide +kernel
theorem dX10_reads_329 : decode cX10_reads 329 = .ok (.aload_n 0, 1) := by decide +kernel
theorem dX10_reads_330 : decode cX10_reads 330 = .ok (.getfield 79, 3) := by decide +kernel
theorem dX10_reads_333 : decode cX10_reads 333 = .ok (.aload_n 0, 1) := by decide +kernel
theorem dX10_reads_334 : decode cX10_reads 334 = .ok (.getfield 141, 3) := by decide +kernel
theorem dX10_reads_337 : decode cX10_reads 337 = .ok (.iaload, 1) := by decide +kernel
theorem dX10_reads_338 : decode cX10_reads 338 = .ok (.bipush 11, 2) := by decide +kernel
theorem dX10_reads_340 : decode cX10_reads 340 = .ok (.if_icmp .ne 13, 3) := by decide +kernel
theorem dX10_reads_343 : decode cX10_reads 343 = .ok (.aload_n 0, 1) := by decide +kernel
theorem dX10_reads_344 : decode cX10_reads 344 = .ok (.bipush 8, 2) := by decide +kernel
theorem dX10_reads_346 : decode cX10_reads 346 = .ok (.iconst 0, 1) := by decide +kernel
theorem dX10_reads_347 : decode cX10_reads 347 = .ok (.iconst 0, 1) := by decide +kernel
theorem dX10_reads_348 : decode cX10_reads 348 = .ok (.iconst (-1), 1) := by decide +kernel
theorem dX10_reads_349 : decode cX10_reads 349 = .ok (.iconst (-1), 1) := by decide +kernel
theorem dX10_reads_350 : decode cX10_reads 350 = .ok (.invokevirtual 144, 3) := by decide +kernel
theorem dX10_reads_353 : decode cX10_reads 353 = .ok (.aload_n 0, 1) := by decide +kernel
theorem dX10_reads_354 : decode cX10_reads 354 = .ok (.dup, 1) := by decide +kernel
theorem dX10_reads_355 : decode cX10_reads 355 = .ok (.getfield 126, 3) := by decide +kernel
theorem dX10_reads_358 : decode cX10_reads 358 = .ok (.iconst 1, 1) := by decide +kernel
theorem dX10_reads_359 : decode cX10_reads 359 = .ok (.iadd, 1) := by decide +kernel
theorem dX10_reads_360 : decode cX10_reads 360 = .ok (.putfield 126, 3) := by decide +kernel
theorem dX10_reads_363 : decode cX10_reads 363 = .ok (.aload_n 0, 1) := by decide +kernel
theorem dX10_reads_364 : decode cX10_reads 364 = .ok (.invokevirtual 184, 3) := by decide +kernel
theorem dX10_reads_367 : decode cX10_reads 367 = .ok (.goto 12, 3) := by decide +kernel
theorem dX10_reads_370 : decode cX10_reads 370 = .ok (.aload_n 0, 1) := by decide +kernel
theorem dX10_reads_371 : decode cX10_reads 371 = .ok (.iconst 1, 1) := by decide +kernel
theorem dX10_reads_372 : decode cX10_reads 372 = .ok (.aload_n 0, 1) := by decide +kernel
theorem dX10_reads_373 : decode cX10_reads 373 = .ok (.getfield 126, 3) := by decide +kernel
theorem dX10_reads_376 : decode cX10_reads 376 = .ok (.invokevirtual 151, 3) := by decide +kernel
theorem dX10_reads_379 : decode cX10_reads 379 = .ok (.goto (-339), 3) := by decide +kernel
theorem dX10_reads_382 : decode cX10_reads 382 = .ok (.return_, 1) := by decide +kernel
theorem dX10_formula_0 : decode cX10_formula 0 = .ok (.iload_n 1, 1) := by decide +kernel
theorem dX10_formula_1 : decode cX10_formula 1 = .ok (.invokestatic 115, 3) := by decide +kernel
theorem dX10_formula_4 : decode cX10_formula 4 = .ok (.ifCond .eq 28, 3) := by decide +kernel
theorem dX10_formula_7 : decode cX10_formula 7 = .ok (.iload_n 2, 1) := by decide +kernel
theorem dX10_formula_8 : decode cX10_formula 8 = .ok (.invokestatic 119, 3) := by decide +kernel
theorem dX10_formula_11 : decode cX10_formula 11 = .ok (.ifCond .eq 21, 3) := by decide +kernel
theorem dX10_formula_14 : decode cX10_formula 14 = .ok (.iload_n 3, 1) := by decide +kernel
theorem dX10_formula_15 : decode cX10_formula 15 = .ok (.iconst 0, 1) := by decide +kernel
theorem dX10_formula_16 : decode cX10_formula 16 = .ok (.bipush 40, 2) := by decide +kernel
theorem dX10_formula_18 : decode cX10_formula 18 = .ok (.invokestatic 104, 3) := by decide +kernel
theorem dX10_formula_21 : decode cX10_formula 21 = .ok (.ifCond .eq 11, 3) := by decide +kernel
theorem dX10_formula_24 : decode cX10_formula 24 = .ok (.iload_n 3, 1) := by decide +kernel
theorem dX10_formula_25 : decode cX10_formula 25 = .ok (.aload_n 0, 1) := by decide +kernel
theorem dX10_formula_26 : decode cX10_formula 26 = .ok (.getfield 108, 3) := by decide +kernel
theorem dX10_formula_29 : decode cX10_formula 29 = .ok (.if_icmp .le 5, 3) := by decide +kernel
theorem dX10_formula_32 : decode cX10_formula 32 = .ok (.iconst (-1), 1) := by decide +kernel
theorem dX10_formula_33 : decode cX10_formula 33 = .ok (.ireturn, 1) := by decide +kernel
theorem dX10_formula_34 : decode cX10_formula 34 = .ok (.aload_n 0, 1) := by decide +kernel
theorem dX10_formula_35 : decode cX10_formula 35 = .ok (.iconst 0, 1) := by decide +kernel
theorem dX10_formula_36 : decode cX10_formula 36 = .ok (.putfield 108, 3) := by decide +kernel
theorem dX10_formula_39 : decode cX10_formula 39 = .ok (.aload_n 0, 1) := by decide +kernel
theorem dX10_formula_40 : decode cX10_formula 40 = .ok (.iload_n 3, 1) := by decide +kernel
theorem dX10_formula_41 : decode cX10_formula 41 = .ok (.invokevirtual 194, 3) := by decide +kernel
theorem dX10_formula_44 : decode cX10_formula 44 = .ok (.aload_n 0, 1) := by decide +kernel
theorem dX10_formula_45 : decode cX10_formula 45 = .ok (.getfield 132, 3) := by decide +kernel
theorem dX10_formula_48 : decode cX10_formula 48 = .ok (.ifCond .le 16, 3) := by decide +kernel
theorem dX10_formula_51 : decode cX10_formula 51 = .ok (.bipush 100, 2) := by decide +kernel
theorem dX10_formula_53 : decode cX10_formula 53 = .ok (.aload_n 0, 1) := by decide +kernel
theorem dX10_formula_54 : decode cX10_formula 54 = .ok (.getfield 132, 3) := by decide +kernel
theorem dX10_formula_57 : decode cX10_formula 57 = .ok (.imul, 1) := by decide +kernel
theorem dX10_formula_58 : decode cX10_formula 58 = .ok (.aload_n 0, 1) := by decide +kernel
theorem dX10_formula_59 : decode cX10_formula 59 = .ok (.getfield 135, 3) := by decide +kernel
theorem dX10_formula_62 : decode cX10_formula 62 = .ok (.iadd, 1) := by decide +kernel
theorem dX10_formula_63 : decode cX10_formula 63 = .ok (.ireturn, 1) := by decide +kernel
theorem dX10_formula_64 : decode cX10_formula 64 = .ok (.bipush 64, 2) := by decide +kernel
theorem dX10_formula_66 : decode cX10_formula 66 = .ok (.iload_n 1, 1) := by decide +kernel
theorem dX10_formula_67 : decode cX10_formula 67 = .ok (.imul, 1) := by decide +kernel
theorem dX10_formula_68 : decode cX10_formula 68 = .ok (.iload_n 2, 1) := by decide +kernel
theorem dX10_formula_69 : decode cX10_formula 69 = .ok (.iadd, 1) := by decide +kernel
theorem dX10_formula_70 : decode cX10_formula 70 = .ok (.istore 4, 2) := by decide +kernel
theorem dX10_formula_72 : decode cX10_formula 72 = .ok (.aload_n 0, 1) := by decide +kernel
theorem dX10_formula_73 : decode cX10_formula 73 = .ok (.getfield 13, 3) := by decide +kernel
theorem dX10_formula_76 : decode cX10_formula 76 = .ok (.iload 4, 2) := by decide +kernel
theorem dX10_formula_78 : decode cX10_formula 78 = .ok (.iconst 2, 1) := by decide +kernel
theorem dX10_formula_79 : decode cX10_formula 79 = .ok (.iastore, 1) := by decide +kernel
theorem dX10_formula_80 : decode cX10_formula 80 = .ok (.aload_n 0, 1) := by decide +kernel
theorem dX10_formula_81 : decode cX10_formula 81 = .ok (.getfield 20, 3) := by decide +kernel
theorem dX10_formula_84 : decode cX10_formula 84 = .ok (.iload 4, 2) := by decide +kernel
theorem dX10_formula_86 : decode cX10_formula 86 = .ok (.iload_n 3, 1) := by decide +kernel
theorem dX10_formula_87 : decode cX10_formula 87 = .ok (.iastore, 1) := by decide +kernel
theorem dX10_formula_88 : decode cX10_formula 88 = .ok (.iconst 0, 1) := by decide +kernel
theorem dX10_formula_89 : decode cX10_formula 89 = .ok (.istore 5, 2) := by decide +kernel
theorem dX10_formula_91 : decode cX10_formula 91 = .ok (.iload 5, 2) := by decide +kernel
theorem dX10_formula_93 : decode cX10_formula 93 = .ok (.iload_n 3, 1) := by decide +kernel
theorem dX10_formula_94 : decode cX10_formula 94 = .ok (.if_icmp .ge 29, 3) := by decide +kernel
theorem dX10_formula_97 : decode cX10_formula 97 = .ok (.aload_n 0, 1) := by decide +kernel
theorem dX10_formula_98 : decode cX10_formula 98 = .ok (.getfield 23, 3) := by decide +kernel
theorem dX10_formula_101 : decode cX10_formula 101 = .ok (.bipush 40, 2) := by decide +kernel
theorem dX10_formula_103 : decode cX10_formula 103 = .ok (.iload 4, 2) := by decide +kernel
theorem dX10_formula_105 : decode cX10_formula 105 = .ok (.imul, 1) := by decide +kernel
theorem dX10_formula_106 : decode cX10_formula 106 = .ok (.iload 5, 2) := by decide +kernel
theorem dX10_formula_108 : decode cX10_formula 108 = .ok (.iadd, 1) := by decide +kernel
theorem dX10_formula_109 : decode cX10_formula 109 = .ok (.aload_n 0, 1) := by decide +kernel
theorem dX10_formula_110 : decode cX10_formula 110 = .ok (.getfield 7, 3) := by decide +kernel
theorem dX10_formula_113 : decode cX10_formula 113 = .ok (.iload 5, 2) := by decide +kernel
theorem dX10_formula_115 : decode cX10_formula 115 = .ok (.baload, 1) := by decide +kernel
theorem dX10_formula_116 : decode cX10_formula 116 = .ok (.bastore, 1) := by decide +kernel
theorem dX10_formula_117 : decode cX10_formula 117 = .ok (.iinc 5 1, 3) := by decide +kernel
theorem dX10_formula_120 : decode cX10_formula 120 = .ok (.goto (-29), 3) := by decide +kernel
theorem dX10_formula_123 : decode cX10_formula 123 = .ok (.aload_n 0, 1) := by decide +kernel
theorem dX10_formula_124 : decode cX10_formula 124 = .ok (.getfield 26, 3) := by decide +kernel
theorem dX10_formula_127 : decode cX10_formula 127 = .ok (.iload 4, 2) := by decide +kernel
theorem dX10_formula_129 : decode cX10_formula 129 = .ok (.aload_n 0, 1) := by decide +kernel
theorem dX10_formula_130 : decode cX10_formula 130 = .ok (.getfield 138, 3) := by decide +kernel
theorem dX10_formula_133 : decode cX10_formula 133 = .ok (.iastore, 1) := by decide +kernel
theorem dX10_formula_134 : decode cX10_formula 134 = .ok (.iconst 0, 1) := by decide +kernel
theorem dX10_formula_135 : decode cX10_formula 135 = .ok (.istore 5, 2) := by decide +kernel
theorem dX10_formula_137 : decode cX10_formula 137 = .ok (.iload 5, 2) := by decide +kernel
theorem dX10_formula_139 : decode cX10_formula 139 = .ok (.aload_n 0, 1) := by decide +kernel
theorem dX10_formula_140 : decode cX10_formula 140 = .ok (.getfield 138, 3) := by decide +kernel
theorem dX10_formula_143 : decode cX10_formula 143 = .ok (.if_icmp .ge 109, 3) := by decide +kernel
theorem dX10_formula_146 : decode cX10_formula 146 = .ok (.aload_n 0, 1) := by decide +kernel
theorem dX10_formula_147 : decode cX10_formula 147 = .ok (.getfield 29, 3) := by decide +kernel
theorem dX10_formula_150 : decode cX10_formula 150 = .ok (.bipush 40, 2) := by decide +kernel
theorem dX10_formula_152 : decode cX10_formula 152 = .ok (.iload 4, 2) := by decide +kernel
theorem dX10_formula_154 : decode cX10_formula 154 = .ok (.imul, 1) := by decide +kernel
theorem dX10_formula_155 : decode cX10_formula 155 = .ok (.iload 5, 2) := by decide +kernel
theorem dX10_formula_157 : decode cX10_formula 157 = .ok (.iadd, 1) := by decide +kernel
theorem dX10_formula_158 : decode cX10_formula 158 = .ok (.aload_n 0, 1) := by decide +kernel
theorem dX10_formula_159 : decode cX10_formula 159 = .ok (.getfield 64, 3) := by decide +kernel
theorem dX10_formula_162 : decode cX10_formula 162 = .ok (.iload 5, 2) := by decide +kernel
theorem dX10_formula_164 : decode cX10_formula 164 = .ok (.iaload, 1) := by decide +kernel
theorem dX10_formula_165 : decode cX10_formula 165 = .ok (.iastore, 1) := by decide +kernel
theorem dX10_formula_166 : decode cX10_formula 166 = .ok (.aload_n 0, 1) := by decide +kernel
theorem dX10_formula_167 : decode cX10_formula 167 = .ok (.getfield 32, 3) := by decide +kernel
theorem dX10_formula_170 : decode cX10_formula 170 = .ok (.bipush 40, 2) := by decide +kernel
theorem dX10_formula_172 : decode cX10_formula 172 = .ok (.iload 4, 2) := by decide +kernel
theorem dX10_formula_174 : decode cX10_formula 174 = .ok (.imul, 1) := by decide +kernel
theorem dX10_formula_175 : decode cX10_formula 175 = .ok (.iload 5, 2) := by decide +kernel
theorem dX10_formula_177 : decode cX10_formula 177 = .ok (.iadd, 1) := by decide +kernel
theorem dX10_formula_178 : decode cX10_formula 178 = .ok (.aload_n 0, 1) := by decide +kernel
theorem dX10_formula_179 : decode cX10_formula 179 = .ok (.getfield 67, 3) := by decide +kernel
theorem dX10_formula_182 : decode cX10_formula 182 = .ok (.iload 5, 2) := by decide +kernel
theorem dX10_formula_184 : decode cX10_formula 184 = .ok (.iaload, 1) := by decide +kernel
theorem dX10_formula_185 : decode cX10_formula 185 = .ok (.iastore, 1) := by decide +kernel
theorem dX10_formula_186 : decode cX10_formula 186 = .ok (.aload_n 0, 1) := by decide +kernel
theorem dX10_formula_187 : decode cX10_formula 187 = .ok (.getfield 35, 3) := by decide +kernel
theorem dX10_formula_190 : decode cX10_formula 190 = .ok (.bipush 40, 2) := by decide +kernel
theorem dX10_formula_192 : decode cX10_formula 192 = .ok (.iload 4, 2) := by decide +kernel
theorem dX10_formula_194 : decode cX10_formula 194 = .ok (.imul, 1) := by decide +kernel
theorem dX10_formula_195 : decode cX10_formula 195 = .ok (.iload 5, 2) := by decide +kernel
theorem dX10_formula_197 : decode cX10_formula 197 = .ok (.iadd, 1) := by decide +kernel
theorem dX10_formula_198 : decode cX10_formula 198 = .ok (.aload_n 0, 1) := by decide +kernel
theorem dX10_formula_199 : decode cX10_formula 199 = .ok (.getfield 70, 3) := by decide +kernel
theorem dX10_formula_202 : decode cX10_formula 202 = .ok (.iload 5, 2) := by decide +kernel
theorem dX10_formula_204 : decode cX10_formula 204 = .ok (.iaload, 1) := by decide +kernel
theorem dX10_formula_205 : decode cX10_formula 205 = .ok (.iastore, 1) := by decide +kernel
theorem dX10_formula_206 : decode cX10_formula 206 = .ok (.aload_n 0, 1) := by decide +kernel
theorem dX10_formula_207 : decode cX10_formula 207 = .ok (.getfield 38, 3) := by decide +kernel
theorem dX10_formula_210 : decode cX10_formula 210 = .ok (.bipush 40, 2) := by decide +kernel
theorem dX10_formula_212 : decode cX10_formula 212 = .ok (.iload 4, 2) := by decide +kernel
theorem dX10_formula_214 : decode cX10_formula 214 = .ok (.imul, 1) := by decide +kernel
theorem dX10_formula_215 : decode cX10_formula 215 = .ok (.iload 5, 2) := by decide +kernel
theorem dX10_formula_217 : decode cX10_formula 217 = .ok (.iadd, 1) := by decide +kernel
theorem dX10_formula_218 : decode cX10_formula 218 = .ok (.aload_n 0, 1) := by decide +kernel
theorem dX10_formula_219 : decode cX10_formula 219 = .ok (.getfield 73, 3) := by decide +kernel
theorem dX10_formula_222 : decode cX10_formula 222 = .ok (.iload 5, 2) := by decide +kernel
theorem dX10_formula_224 : decode cX10_formula 224 = .ok (.iaload, 1) := by decide +kernel
theorem dX10_formula_225 : decode cX10_formula 225 = .ok (.iastore, 1) := by decide +kernel
theorem dX10_formula_226 : decode cX10_formula 226 = .ok (.aload_n 0, 1) := by decide +kernel
theorem dX10_formula_227 : decode cX10_formula 227 = .ok (.getfield 41, 3) := by decide +kernel
theorem dX10_formula_230 : decode cX10_formula 230 = .ok (.bipush 40, 2) := by decide +kernel
theorem dX10_formula_232 : decode cX10_formula 232 = .ok (.iload 4, 2) := by decide +kernel
theorem dX10_formula_234 : decode cX10_formula 234 = .ok (.imul, 1) := by decide +kernel
theorem dX10_formula_235 : decode cX10_formula 235 = .ok (.iload 5, 2) := by decide +kernel
theorem dX10_formula_237 : decode cX10_formula 237 = .ok (.iadd, 1) := by decide +kernel
theorem dX10_formula_238 : decode cX10_formula 238 = .ok (.aload_n 0, 1) := by decide +kernel
theorem dX10_formula_239 : decode cX10_formula 239 = .ok (.getfield 76, 3) := by decide +kernel
theorem dX10_formula_242 : decode cX10_formula 242 = .ok (.iload 5, 2) := by decide +kernel
theorem dX10_formula_244 : decode cX10_formula 244 = .ok (.iaload, 1) := by decide +kernel
theorem dX10_formula_245 : decode cX10_formula 245 = .ok (.iastore, 1) := by decide +kernel
theorem dX10_formula_246 : decode cX10_formula 246 = .ok (.iinc 5 1, 3) := by decide +kernel
theorem dX10_formula_249 : decode cX10_formula 249 = .ok (.goto (-112), 3) := by decide +kernel
theorem dX10_formula_252 : decode cX10_formula 252 = .ok (.aload_n 0, 1) := by decide +kernel
theorem dX10_formula_253 : decode cX10_formula 253 = .ok (.getfield 44, 3) := by decide +kernel
theorem dX10_formula_256 : decode cX10_formula 256 = .ok (.iload 4, 2) := by decide +kernel
theorem dX10_formula_258 : decode cX10_formula 258 = .ok (.aload_n 0, 1) := by decide +kernel
theorem dX10_formula_259 : decode cX10_formula 259 = .ok (.iload 4, 2) := by decide +kernel
theorem dX10_formula_261 : decode cX10_formula 261 = .ok (.invokevirtual 197, 3) := by decide +kernel
theorem dX10_formula_264 : decode cX10_formula 264 = .ok (.lastore, 1) := by decide +kernel
theorem dX10_formula_265 : decode cX10_formula 265 = .ok (.aload_n 0, 1) := by decide +kernel
theorem dX10_formula_266 : decode cX10_formula 266 = .ok (.iconst 0, 1) := by decide +kernel
theorem dX10_formula_267 : decode cX10_formula 267 = .ok (.putfield 122, 3) := by decide +kernel
theorem dX10_formula_270 : decode cX10_formula 270 = .ok (.iconst 0, 1) := by decide +kernel
theorem dX10_formula_271 : decode cX10_formula 271 = .ok (.ireturn, 1) := by decide +kernel
theorem dX10_input_0 : decode cX10_input 0 = .ok (.iload_n 1, 1) := by decide +kernel
theorem dX10_input_1 : decode cX10_input 1 = .ok (.invokestatic 119, 3) := by decide +kernel
theorem dX10_input_4 : decode cX10_input 4 = .ok (.ifCond .eq 29, 3) := by decide +kernel
theorem dX10_input_7 : decode cX10_input 7 = .ok (.aload_n 0, 1) := by decide +kernel
theorem dX10_input_8 : decode cX10_input 8 = .ok (.getfield 48, 3) := by decide +kernel
theorem dX10_input_11 : decode cX10_input 11 = .ok (.iload_n 1, 1) := by decide +kernel
theorem dX10_input_12 : decode cX10_input 12 = .ok (.baload, 1) := by decide +kernel
theorem dX10_input_13 : decode cX10_input 13 = .ok (.ifCond .ne 20, 3) := by decide +kernel
theorem dX10_input_16 : decode cX10_input 16 = .ok (.aload_n 0, 1) := by decide +kernel
theorem dX10_input_17 : decode cX10_input 17 = .ok (.iload_n 1, 1) := by decide +kernel
theorem dX10_input_18 : decode cX10_input 18 = .ok (.invokevirtual 201, 3) := by decide +kernel
theorem dX10_input_21 : decode cX10_input 21 = .ok (.ifCond .ne 12, 3) := by decide +kernel
theorem dX10_input_24 : decode cX10_input 24 = .ok (.aload_n 0, 1) := by decide +kernel
theorem dX10_input_25 : decode cX10_input 25 = .ok (.getfield 204, 3) := by decide +kernel
theorem dX10_input_28 : decode cX10_input 28 = .ok (.bipush 8, 2) := by decide +kernel
theorem dX10_input_30 : decode cX10_input 30 = .ok (.if_icmp .ne 5, 3) := by decide +kernel
theorem dX10_input_33 : decode cX10_input 33 = .ok (.iconst 0, 1) := by decide +kernel
theorem dX10_input_34 : decode cX10_input 34 = .ok (.ireturn, 1) := by decide +kernel
theorem dX10_input_35 : decode cX10_input 35 = .ok (.aload_n 0, 1) := by decide +kernel
theorem dX10_input_36 : decode cX10_input 36 = .ok (.getfield 48, 3) := by decide +kernel
theorem dX10_input_39 : decode cX10_input 39 = .ok (.iload_n 1, 1) := by decide +kernel
theorem dX10_input_40 : decode cX10_input 40 = .ok (.iconst 1, 1) := by decide +kernel
theorem dX10_input_41 : decode cX10_input 41 = .ok (.bastore, 1) := by decide +kernel
theorem dX10_input_42 : decode cX10_input 42 = .ok (.aload_n 0, 1) := by decide +kernel
theorem dX10_input_43 : decode cX10_input 43 = .ok (.dup, 1) := by decide +kernel
theorem dX10_input_44 : decode cX10_input 44 = .ok (.getfield 204, 3) := by decide +kernel
theorem dX10_input_47 : decode cX10_input 47 = .ok (.iconst 1, 1) := by decide +kernel
theorem dX10_input_48 : decode cX10_input 48 = .ok (.iadd, 1) := by decide +kernel
theorem dX10_input_49 : decode cX10_input 49 = .ok (.putfield 204, 3) := by decide +kernel
theorem dX10_input_52 : decode cX10_input 52 = .ok (.aload_n 0, 1) := by decide +kernel
theorem dX10_input_53 : decode cX10_input 53 = .ok (.iconst 0, 1) := by decide +kernel
theorem dX10_input_54 : decode cX10_input 54 = .ok (.putfield 122, 3) := by decide +kernel
theorem dX10_input_57 : decode cX10_input 57 = .ok (.iconst 1, 1) := by decide +kernel
theorem dX10_input_58 : decode cX10_input 58 = .ok (.ireturn, 1) := by decide +kernel
theorem dX10_wants_0 : decode cX10_wants 0 = .ok (.iload_n 1, 1) := by decide +kernel
theorem dX10_wants_1 : decode cX10_wants 1 = .ok (.invokestatic 119, 3) := by decide +kernel
theorem dX10_wants_4 : decode cX10_wants 4 = .ok (.ifCond .eq 39, 3) := by decide +kernel
theorem dX10_wants_7 : decode cX10_wants 7 = .ok (.aload_n 0, 1) := by decide +kernel
theorem dX10_wants_8 : decode cX10_wants 8 = .ok (.getfield 48, 3) := by decide +kernel
theorem dX10_wants_11 : decode cX10_wants 11 = .ok (.iload_n 1, 1) := by decide +kernel
theorem dX10_wants_12 : decode cX10_wants 12 = .ok (.baload, 1) := by decide +kernel
theorem dX10_wants_13 : decode cX10_wants 13 = .ok (.ifCond .ne 30, 3) := by decide +kernel
theorem dX10_wants_16 : decode cX10_wants 16 = .ok (.iload_n 2, 1) := by decide +kernel
theorem dX10_wants_17 : decode cX10_wants 17 = .ok (.iconst 1, 1) := by decide +kernel
theorem dX10_wants_18 : decode cX10_wants 18 = .ok (.bipush 100, 2) := by decide +kernel
theorem dX10_wants_20 : decode cX10_wants 20 = .ok (.invokestatic 104, 3) := by decide +kernel
theorem dX10_wants_23 : decode cX10_wants 23 = .ok (.ifCond .eq 20, 3) := by decide +kernel
theorem dX10_wants_26 : decode cX10_wants 26 = .ok (.aload_n 0, 1) := by decide +kernel
theorem dX10_wants_27 : decode cX10_wants 27 = .ok (.iload_n 1, 1) := by decide +kernel
theorem dX10_wants_28 : decode cX10_wants 28 = .ok (.invokevirtual 201, 3) := by decide +kernel
theorem dX10_wants_31 : decode cX10_wants 31 = .ok (.ifCond .ne 14, 3) := by decide +kernel
theorem dX10_wants_34 : decode cX10_wants 34 = .ok (.aload_n 0, 1) := by decide +kernel
theorem dX10_wants_35 : decode cX10_wants 35 = .ok (.getfield 207, 3) := by decide +kernel
theorem dX10_wants_38 : decode cX10_wants 38 = .ok (.bipush 16, 2) := by decide +kernel
theorem dX10_wants_40 : decode cX10_wants 40 = .ok (.if_icmp .ne 5, 3) := by decide +kernel
theorem dX10_wants_43 : decode cX10_wants 43 = .ok (.iconst 0, 1) := by decide +kernel
theorem dX10_wants_44 : decode cX10_wants 44 = .ok (.ireturn, 1) := by decide +kernel
theorem dX10_wants_45 : decode cX10_wants 45 = .ok (.aload_n 0, 1) := by decide +kernel
theorem dX10_wants_46 : decode cX10_wants 46 = .ok (.dup, 1) := by decide +kernel
theorem dX10_wants_47 : decode cX10_wants 47 = .ok (.getfield 207, 3) := by decide +kernel
theorem dX10_wants_50 : decode cX10_wants 50 = .ok (.aload_n 0, 1) := by decide +kernel
theorem dX10_wants_51 : decode cX10_wants 51 = .ok (.iload_n 1, 1) := by decide +kernel
theorem dX10_wants_52 : decode cX10_wants 52 = .ok (.invokevirtual 201, 3) := by decide +kernel
theorem dX10_wants_55 : decode cX10_wants 55 = .ok (.ifCond .eq 7, 3) := by decide +kernel
theorem dX10_wants_58 : decode cX10_wants 58 = .ok (.iconst 0, 1) := by decide +kernel
theorem dX10_wants_59 : decode cX10_wants 59 = .ok (.goto 4, 3) := by decide +kernel
theorem dX10_wants_62 : decode cX10_wants 62 = .ok (.iconst 1, 1) := by decide +kernel
theorem dX10_wants_63 : decode cX10_wants 63 = .ok (.iadd, 1) := by decide +kernel
theorem dX10_wants_64 : decode cX10_wants 64 = .ok (.putfield 207, 3) := by decide +kernel
theorem dX10_wants_67 : decode cX10_wants 67 = .ok (.aload_n 0, 1) := by decide +kernel
theorem dX10_wants_68 : decode cX10_wants 68 = .ok (.getfield 52, 3) := by decide +kernel
theorem dX10_wants_71 : decode cX10_wants 71 = .ok (.iload_n 1, 1) := by decide +kernel
theorem dX10_wants_72 : decode cX10_wants 72 = .ok (.iload_n 2, 1) := by decide +kernel
theorem dX10_wants_73 : decode cX10_wants 73 = .ok (.iastore, 1) := by decide +kernel
theorem dX10_wants_74 : decode cX10_wants 74 = .ok (.aload_n 0, 1) := by decide +kernel
theorem dX10_wants_75 : decode cX10_wants 75 = .ok (.iconst 0, 1) := by decide +kernel
theorem dX10_wants_76 : decode cX10_wants 76 = .ok (.putfield 122, 3) := by decide +kernel
theorem dX10_wants_79 : decode cX10_wants 79 = .ok (.iconst 1, 1) := by decide +kernel
theorem dX10_wants_80 : decode cX10_wants 80 = .ok (.ireturn, 1) := by decide +kernel
theorem dX10_world_0 : decode cX10_world 0 = .ok (.aload_n 0, 1) := by decide +kernel
theorem dX10_world_1 : decode cX10_world 1 = .ok (.getfield 210, 3) := by decide +kernel
theorem dX10_world_4 : decode cX10_world 4 = .ok (.bipush 6, 2) := by decide +kernel
theorem dX10_world_6 : decode cX10_world 6 = .ok (.if_icmp .ne 5, 3) := by decide +kernel
theorem dX10_world_9 : decode cX10_world 9 = .ok (.iconst (-1), 1) := by decide +kernel
theorem dX10_world_10 : decode cX10_world 10 = .ok (.ireturn, 1) := by decide +kernel
theorem dX10_world_11 : decode cX10_world 11 = .ok (.aload_n 0, 1) := by decide +kernel
theorem dX10_world_12 : decode cX10_world 12 = .ok (.dup, 1) := by decide +kernel
theorem dX10_world_13 : decode cX10_world 13 = .ok (.getfield 210, 3) := by decide +kernel
theorem dX10_world_16 : decode cX10_world 16 = .ok (.iconst 1, 1) := by decide +kernel
theorem dX10_world_17 : decode cX10_world 17 = .ok (.iadd, 1) := by decide +kernel
theorem dX10_world_18 : decode cX10_world 18 = .ok (.putfield 210, 3) := by decide +kernel
theorem dX10_world_21 : decode cX10_world 21 = .ok (.aload_n 0, 1) := by decide +kernel
theorem dX10_world_22 : decode cX10_world 22 = .ok (.iconst 0, 1) := by decide +kernel
theorem dX10_world_23 : decode cX10_world 23 = .ok (.putfield 122, 3) := by decide +kernel
theorem dX10_world_26 : decode cX10_world 26 = .ok (.aload_n 0, 1) := by decide +kernel
theorem dX10_world_27 : decode cX10_world 27 = .ok (.getfield 210, 3) := by decide +kernel
theorem dX10_world_30 : decode cX10_world 30 = .ok (.iconst 1, 1) := by decide +kernel
theorem dX10_world_31 : decode cX10_world 31 = .ok (.isub, 1) := by decide +kernel
theorem dX10_world_32 : decode cX10_world 32 = .ok (.ireturn, 1) := by decide +kernel
theorem dX10_give_0 : decode cX10_give 0 = .ok (.iload_n 1, 1) := by decide +kernel
theorem dX10_give_1 : decode cX10_give 1 = .ok (.iconst 0, 1) := by decide +kernel
theorem dX10_give_2 : decode cX10_give 2 = .ok (.aload_n 0, 1) := by decide +kernel
theorem dX10_give_3 : decode cX10_give 3 = .ok (.getfield 210, 3) := by decide +kernel
theorem dX10_give_6 : decode cX10_give 6 = .ok (.iconst 1, 1) := by decide +kernel
theorem dX10_give_7 : decode cX10_give 7 = .ok (.isub, 1) := by decide +kernel
theorem dX10_give_8 : decode cX10_give 8 = .ok (.invokestatic 104, 3) := by decide +kernel
theorem dX10_give_11 : decode cX10_give 11 = .ok (.ifCond .eq 32, 3) := by decide +kernel
theorem dX10_give_14 : decode cX10_give 14 = .ok (.iload_n 2, 1) := by decide +kernel
theorem dX10_give_15 : decode cX10_give 15 = .ok (.invokestatic 119, 3) := by decide +kernel
theorem dX10_give_18 : decode cX10_give 18 = .ok (.ifCond .eq 25, 3) := by decide +kernel
theorem dX10_give_21 : decode cX10_give 21 = .ok (.aload_n 0, 1) := by decide +kernel
theorem dX10_give_22 : decode cX10_give 22 = .ok (.getfield 48, 3) := by decide +kernel
theorem dX10_give_25 : decode cX10_give 25 = .ok (.iload_n 2, 1) := by decide +kernel
theorem dX10_give_26 : decode cX10_give 26 = .ok (.baload, 1) := by decide +kernel
theorem dX10_give_27 : decode cX10_give 27 = .ok (.ifCond .eq 16, 3) := by decide +kernel
theorem dX10_give_30 : decode cX10_give 30 = .ok (.iload_n 3, 1) := by decide +kernel
theorem dX10_give_31 : decode cX10_give 31 = .ok (.sipush (-9999), 3) := by decide +kernel
theorem dX10_give_34 : decode cX10_give 34 = .ok (.sipush 9999, 3) := by decide +kernel
theorem dX10_give_37 : decode cX10_give 37 = .ok (.invokestatic 104, 3) := by decide +kernel
theorem dX10_give_40 : decode cX10_give 40 = .ok (.ifCond .ne 5, 3) := by decide +kernel
theorem dX10_give_43 : decode cX10_give 43 = .ok (.iconst 0, 1) := by decide +kernel
theorem dX10_give_44 : decode cX10_give 44 = .ok (.ireturn, 1) := by decide +kernel
theorem dX10_give_45 : decode cX10_give 45 = .ok (.aload_n 0, 1) := by decide +kernel
theorem dX10_give_46 : decode cX10_give 46 = .ok (.getfield 55, 3) := by decide +kernel
theorem dX10_give_49 : decode cX10_give 49 = .ok (.bipush 64, 2) := by decide +kernel
theorem dX10_give_51 : decode cX10_give 51 = .ok (.iload_n 1, 1) := by decide +kernel
theorem dX10_give_52 : decode cX10_give 52 = .ok (.imul, 1) := by decide +kernel
theorem dX10_give_53 : decode cX10_give 53 = .ok (.iload_n 2, 1) := by decide +kernel
theorem dX10_give_54 : decode cX10_give 54 = .ok (.iadd, 1) := by decide +kernel
theorem dX10_give_55 : decode cX10_give 55 = .ok (.iload_n 3, 1) := by decide +kernel
theorem dX10_give_56 : decode cX10_give 56 = .ok (.iastore, 1) := by decide +kernel
theorem dX10_give_57 : decode cX10_give 57 = .ok (.aload_n 0, 1) := by decide +kernel
theorem dX10_give_58 : decode cX10_give 58 = .ok (.iconst 0, 1) := by decide +kernel
theorem dX10_give_59 : decode cX10_give 59 = .ok (.putfield 122, 3) := by decide +kernel
theorem dX10_give_62 : decode cX10_give 62 = .ok (.iconst 1, 1) := by decide +kernel
theorem dX10_give_63 : decode cX10_give 63 = .ok (.ireturn, 1) := by decide +kernel
theorem dX10_isChanged_0 : decode cX10_isChanged 0 = .ok (.aload_n 0, 1) := by decide +kernel
theorem dX10_isChanged_1 : decode cX10_isChanged 1 = .ok (.getfield 85, 3) := by decide +kernel
theorem dX10_isChanged_4 : decode cX10_isChanged 4 = .ok (.bipush 40, 2) := by decide +kernel
theorem dX10_isChanged_6 : decode cX10_isChanged 6 = .ok (.iload_n 1, 1) := by decide +kernel
theorem dX10_isChanged_7 : decode cX10_isChanged 7 = .ok (.imul, 1) := by decide +kernel
theorem dX10_isChanged_8 : decode cX10_isChanged 8 = .ok (.iload_n 2, 1) := by decide +kernel
theorem dX10_isChanged_9 : decode cX10_isChanged 9 = .ok (.iadd, 1) := by decide +kernel
theorem dX10_isChanged_10 : decode cX10_isChanged 10 = .ok (.if_icmp .ne 7, 3) := by decide +kernel
theorem dX10_isChanged_13 : decode cX10_isChanged 13 = .ok (.iconst 1, 1) := by decide +kernel
theorem dX10_isChanged_14 : decode cX10_isChanged 14 = .ok (.goto 4, 3) := by decide +kernel
theorem dX10_isChanged_17 : decode cX10_isChanged 17 = .ok (.iconst 0, 1) := by decide +kernel
theorem dX10_isChanged_18 : decode cX10_isChanged 18 = .ok (.ireturn, 1) := by decide +kernel
theorem dX10_opOf_0 : decode cX10_opOf 0 = .ok (.aload_n 0, 1) := by decide +kernel
theorem dX10_opOf_1 : decode cX10_opOf 1 = .ok (.iload_n 1, 1) := by decide +kernel
theorem dX10_opOf_2 : decode cX10_opOf 2 = .ok (.iload_n 2, 1) := by decide +kernel
theorem dX10_opOf_3 : decode cX10_opOf 3 = .ok (.invokevirtual 213, 3) := by decide +kernel
theorem dX10_opOf_6 : decode cX10_opOf 6 = .ok (.ifCond .eq 10, 3) := by decide +kernel
theorem dX10_opOf_9 : decode cX10_opOf 9 = .ok (.aload_n 0, 1) := by decide +kernel
theorem dX10_opOf_10 : decode cX10_opOf 10 = .ok (.getfield 217, 3) := by decide +kernel
theorem dX10_opOf_13 : decode cX10_opOf 13 = .ok (.goto 14, 3) := by decide +kernel
theorem dX10_opOf_16 : decode cX10_opOf 16 = .ok (.aload_n 0, 1) := by decide +kernel
theorem dX10_opOf_17 : decode cX10_opOf 17 = .ok (.getfield 29, 3) := by decide +kernel
theorem dX10_opOf_20 : decode cX10_opOf 20 = .ok (.bipush 40, 2) := by decide +kernel
theorem dX10_opOf_22 : decode cX10_opOf 22 = .ok (.iload_n 1, 1) := by decide +kernel
theorem dX10_opOf_23 : decode cX10_opOf 23 = .ok (.imul, 1) := by decide +kernel
theorem dX10_opOf_24 : decode cX10_opOf 24 = .ok (.iload_n 2, 1) := by decide +kernel
theorem dX10_opOf_25 : decode cX10_opOf 25 = .ok (.iadd, 1) := by decide +kernel
theorem dX10_opOf_26 : decode cX10_opOf 26 = .ok (.iaload, 1) := by decide +kernel
theorem dX10_opOf_27 : decode cX10_opOf 27 = .ok (.ireturn, 1) := by decide +kernel
theorem dX10_argOf_0 : decode cX10_argOf 0 = .ok (.aload_n 0, 1) := by decide +kernel
theorem dX10_argOf_1 : decode cX10_argOf 1 = .ok (.iload_n 1, 1) := by decide +kernel
theorem dX10_argOf_2 : decode cX10_argOf 2 = .ok (.iload_n 2, 1) := by decide +kernel
theorem dX10_argOf_3 : decode cX10_argOf 3 = .ok (.invokevirtual 213, 3) := by decide +kernel
theorem dX10_argOf_6 : decode cX10_argOf 6 = .ok (.ifCond .eq 10, 3) := by decide +kernel
theorem dX10_argOf_9 : decode cX10_argOf 9 = .ok (.aload_n 0, 1) := by decide +kernel
theorem dX10_argOf_10 : decode cX10_argOf 10 = .ok (.getfield 220, 3) := by decide +kernel
theorem dX10_argOf_13 : decode cX10_argOf 13 = .ok (.goto 14, 3) := by decide +kernel
theorem dX10_argOf_16 : decode cX10_argOf 16 = .ok (.aload_n 0, 1) := by decide +kernel
theorem dX10_argOf_17 : decode cX10_argOf 17 = .ok (.getfield 32, 3) := by decide +kernel
theorem dX10_argOf_20 : decode cX10_argOf 20 = .ok (.bipush 40, 2) := by decide +kernel
theorem dX10_argOf_22 : decode cX10_argOf 22 = .ok (.iload_n 1, 1) := by decide +kernel
theorem dX10_argOf_23 : decode cX10_argOf 23 = .ok (.imul, 1) := by decide +kernel
theorem dX10_argOf_24 : decode cX10_argOf 24 = .ok (.iload_n 2, 1) := by decide +kernel
theorem dX10_argOf_25 : decode cX10_argOf 25 = .ok (.iadd, 1) := by decide +kernel
theorem dX10_argOf_26 : decode cX10_argOf 26 = .ok (.iaload, 1) := by decide +kernel
theorem dX10_argOf_27 : decode cX10_argOf 27 = .ok (.ireturn, 1) := by decide +kernel
theorem dX10_arg2Of_0 : decode cX10_arg2Of 0 = .ok (.aload_n 0, 1) := by decide +kernel
theorem dX10_arg2Of_1 : decode cX10_arg2Of 1 = .ok (.iload_n 1, 1) := by decide +kernel
theorem dX10_arg2Of_2 : decode cX10_arg2Of 2 = .ok (.iload_n 2, 1) := by decide +kernel
theorem dX10_arg2Of_3 : decode cX10_arg2Of 3 = .ok (.invokevirtual 213, 3) := by decide +kernel
theorem dX10_arg2Of_6 : decode cX10_arg2Of 6 = .ok (.ifCond .eq 10, 3) := by decide +kernel
theorem dX10_arg2Of_9 : decode cX10_arg2Of 9 = .ok (.aload_n 0, 1) := by decide +kernel
theorem dX10_arg2Of_10 : decode cX10_arg2Of 10 = .ok (.getfield 223, 3) := by decide +kernel
theorem dX10_arg2Of_13 : decode cX10_arg2Of 13 = .ok (.goto 14, 3) := by decide +kernel
theorem dX10_arg2Of_16 : decode cX10_arg2Of 16 = .ok (.aload_n 0, 1) := by decide +kernel
theorem dX10_arg2Of_17 : decode cX10_arg2Of 17 = .ok (.getfield 35, 3) := by decide +kernel
theorem dX10_arg2Of_20 : decode cX10_arg2Of 20 = .ok (.bipush 40, 2) := by decide +kernel
theorem dX10_arg2Of_22 : decode cX10_arg2Of 22 = .ok (.iload_n 1, 1) := by decide +kernel
theorem dX10_arg2Of_23 : decode cX10_arg2Of 23 = .ok (.imul, 1) := by decide +kernel
theorem dX10_arg2Of_24 : decode cX10_arg2Of 24 = .ok (.iload_n 2, 1) := by decide +kernel
theorem dX10_arg2Of_25 : decode cX10_arg2Of 25 = .ok (.iadd, 1) := by decide +kernel
theorem dX10_arg2Of_26 : decode cX10_arg2Of 26 = .ok (.iaload, 1) := by decide +kernel
theorem dX10_arg2Of_27 : decode cX10_arg2Of 27 = .ok (.ireturn, 1) := by decide +kernel
theorem dX10_isBetween_0 : decode cX10_isBetween 0 = .ok (.iload_n 1, 1) := by decide +kernel
theorem dX10_isBetween_1 : decode cX10_isBetween 1 = .ok (.iload_n 2, 1) := by decide +kernel
theorem dX10_isBetween_2 : decode cX10_isBetween 2 = .ok (.if_icmp .ge 12, 3) := by decide +kernel
theorem dX10_isBetween_5 : decode cX10_isBetween 5 = .ok (.iload_n 0, 1) := by decide +kernel
theorem dX10_isBetween_6 : decode cX10_isBetween 6 = .ok (.iload_n 1, 1) := by decide +kernel
theorem dX10_isBetween_7 : decode cX10_isBetween 7 = .ok (.iload_n 2, 1) := by decide +kernel
theorem dX10_isBetween_8 : decode cX10_isBetween 8 = .ok (.invokestatic 104, 3) := by decide +kernel
theorem dX10_isBetween_11 : decode cX10_isBetween 11 = .ok (.goto 9, 3) := by decide +kernel
theorem dX10_isBetween_14 : decode cX10_isBetween 14 = .ok (.iload_n 0, 1) := by decide +kernel
theorem dX10_isBetween_15 : decode cX10_isBetween 15 = .ok (.iload_n 2, 1) := by decide +kernel
theorem dX10_isBetween_16 : decode cX10_isBetween 16 = .ok (.iload_n 1, 1) := by decide +kernel
theorem dX10_isBetween_17 : decode cX10_isBetween 17 = .ok (.invokestatic 104, 3) := by decide +kernel
theorem dX10_isBetween_20 : decode cX10_isBetween 20 = .ok (.ireturn, 1) := by decide +kernel
theorem dX10_isWithin_0 : decode cX10_isWithin 0 = .ok (.iload_n 0, 1) := by decide +kernel
theorem dX10_isWithin_1 : decode cX10_isWithin 1 = .ok (.bipush 8, 2) := by decide +kernel
theorem dX10_isWithin_3 : decode cX10_isWithin 3 = .ok (.idiv, 1) := by decide +kernel
theorem dX10_isWithin_4 : decode cX10_isWithin 4 = .ok (.iload_n 1, 1) := by decide +kernel
theorem dX10_isWithin_5 : decode cX10_isWithin 5 = .ok (.bipush 8, 2) := by decide +kernel
theorem dX10_isWithin_7 : decode cX10_isWithin 7 = .ok (.idiv, 1) := by decide +kernel
theorem dX10_isWithin_8 : decode cX10_isWithin 8 = .ok (.iload_n 2, 1) := by decide +kernel
theorem dX10_isWithin_9 : decode cX10_isWithin 9 = .ok (.bipush 8, 2) := by decide +kernel
theorem dX10_isWithin_11 : decode cX10_isWithin 11 = .ok (.idiv, 1) := by decide +kernel
theorem dX10_isWithin_12 : decode cX10_isWithin 12 = .ok (.invokestatic 226, 3) := by decide +kernel
theorem dX10_isWithin_15 : decode cX10_isWithin 15 = .ok (.ifCond .eq 25, 3) := by decide +kernel
theorem dX10_isWithin_18 : decode cX10_isWithin 18 = .ok (.iload_n 0, 1) := by decide +kernel
theorem dX10_isWithin_19 : decode cX10_isWithin 19 = .ok (.bipush 8, 2) := by decide +kernel
theorem dX10_isWithin_21 : decode cX10_isWithin 21 = .ok (.irem, 1) := by decide +kernel
theorem dX10_isWithin_22 : decode cX10_isWithin 22 = .ok (.iload_n 1, 1) := by decide +kernel
theorem dX10_isWithin_23 : decode cX10_isWithin 23 = .ok (.bipush 8, 2) := by decide +kernel
theorem dX10_isWithin_25 : decode cX10_isWithin 25 = .ok (.irem, 1) := by decide +kernel
theorem dX10_isWithin_26 : decode cX10_isWithin 26 = .ok (.iload_n 2, 1) := by decide +kernel
theorem dX10_isWithin_27 : decode cX10_isWithin 27 = .ok (.bipush 8, 2) := by decide +kernel
theorem dX10_isWithin_29 : decode cX10_isWithin 29 = .ok (.irem, 1) := by decide +kernel
theorem dX10_isWithin_30 : decode cX10_isWithin 30 = .ok (.invokestatic 226, 3) := by decide +kernel
theorem dX10_isWithin_33 : decode cX10_isWithin 33 = .ok (.ifCond .eq 7, 3) := by decide +kernel
theorem dX10_isWithin_36 : decode cX10_isWithin 36 = .ok (.iconst 1, 1) := by decide +kernel
theorem dX10_isWithin_37 : decode cX10_isWithin 37 = .ok (.goto 4, 3) := by decide +kernel
theorem dX10_isWithin_40 : decode cX10_isWithin 40 = .ok (.iconst 0, 1) := by decide +kernel
theorem dX10_isWithin_41 : decode cX10_isWithin 41 = .ok (.ireturn, 1) := by decide +kernel
theorem dX10_needs_0 : decode cX10_needs 0 = .ok (.bipush 64, 2) := by decide +kernel
theorem dX10_needs_2 : decode cX10_needs 2 = .ok (.iload_n 1, 1) := by decide +kernel
theorem dX10_needs_3 : decode cX10_needs 3 = .ok (.imul, 1) := by decide +kernel
theorem dX10_needs_4 : decode cX10_needs 4 = .ok (.iload_n 2, 1) := by decide +kernel
theorem dX10_needs_5 : decode cX10_needs 5 = .ok (.iadd, 1) := by decide +kernel
theorem dX10_needs_6 : decode cX10_needs 6 = .ok (.istore_n 3, 1) := by decide +kernel
theorem dX10_needs_7 : decode cX10_needs 7 = .ok (.aload_n 0, 1) := by decide +kernel
theorem dX10_needs_8 : decode cX10_needs 8 = .ok (.getfield 13, 3) := by decide +kernel
theorem dX10_needs_11 : decode cX10_needs 11 = .ok (.iload_n 3, 1) := by decide +kernel
theorem dX10_needs_12 : decode cX10_needs 12 = .ok (.iaload, 1) := by decide +kernel
theorem dX10_needs_13 : decode cX10_needs 13 = .ok (.iconst 2, 1) := by decide +kernel
theorem dX10_needs_14 : decode cX10_needs 14 = .ok (.if_icmp .ne 12, 3) := by decide +kernel
theorem dX10_needs_17 : decode cX10_needs 17 = .ok (.aload_n 0, 1) := by decide +kernel
theorem dX10_needs_18 : decode cX10_needs 18 = .ok (.getfield 48, 3) := by decide +kernel
theorem dX10_needs_21 : decode cX10_needs 21 = .ok (.iload_n 2, 1) := by decide +kernel
theorem dX10_needs_22 : decode cX10_needs 22 = .ok (.baload, 1) := by decide +kernel
theorem dX10_needs_23 : decode cX10_needs 23 = .ok (.ifCond .eq 5, 3) := by decide +kernel
theorem dX10_needs_26 : decode cX10_needs 26 = .ok (.lconst 0, 1) := by decide +kernel
theorem dX10_needs_27 : decode cX10_needs 27 = .ok (.lreturn, 1) := by decide +kernel
theorem dX10_needs_28 : decode cX10_needs 28 = .ok (.aload_n 0, 1) := by decide +kernel
theorem dX10_needs_29 : decode cX10_needs 29 = .ok (.getfield 85, 3) := by decide +kernel
theorem dX10_needs_32 : decode cX10_needs 32 = .ok (.bipush 40, 2) := by decide +kernel
theorem dX10_needs_34 : decode cX10_needs 34 = .ok (.iload_n 3, 1) := by decide +kernel
theorem dX10_needs_35 : decode cX10_needs 35 = .ok (.imul, 1) := by decide +kernel
theorem dX10_needs_36 : decode cX10_needs 36 = .ok (.if_icmp .lt 25, 3) := by decide +kernel
theorem dX10_needs_39 : decode cX10_needs 39 = .ok (.aload_n 0, 1) := by decide +kernel
theorem dX10_needs_40 : decode cX10_needs 40 = .ok (.getfield 85, 3) := by decide +kernel
theorem dX10_needs_43 : decode cX10_needs 43 = .ok (.bipush 40, 2) := by decide +kernel
theorem dX10_needs_45 : decode cX10_needs 45 = .ok (.iload_n 3, 1) := by decide +kernel
theorem dX10_needs_46 : decode cX10_needs 46 = .ok (.imul, 1) := by decide +kernel
theorem dX10_needs_47 : decode cX10_needs 47 = .ok (.bipush 40, 2) := by decide +kernel
theorem dX10_needs_49 : decode cX10_needs 49 = .ok (.iadd, 1) := by decide +kernel
theorem dX10_needs_50 : decode cX10_needs 50 = .ok (.if_icmp .ge 11, 3) := by decide +kernel
theorem dX10_needs_53 : decode cX10_needs 53 = .ok (.aload_n 0, 1) := by decide +kernel
theorem dX10_needs_54 : decode cX10_needs 54 = .ok (.iload_n 3, 1) := by decide +kernel
theorem dX10_needs_55 : decode cX10_needs 55 = .ok (.invokevirtual 197, 3) := by decide +kernel
theorem dX10_needs_58 : decode cX10_needs 58 = .ok (.goto 9, 3) := by decide +kernel
theorem dX10_needs_61 : decode cX10_needs 61 = .ok (.aload_n 0, 1) := by decide +kernel
theorem dX10_needs_62 : decode cX10_needs 62 = .ok (.getfield 44, 3) := by decide +kernel
theorem dX10_needs_65 : decode cX10_needs 65 = .ok (.iload_n 3, 1) := by decide +kernel
theorem dX10_needs_66 : decode cX10_needs 66 = .ok (.laload, 1) := by decide +kernel
theorem dX10_needs_67 : decode cX10_needs 67 = .ok (.lreturn, 1) := by decide +kernel
theorem dX10_names0_0 : decode cX10_names0 0 = .ok (.lconst 0, 1) := by decide +kernel
theorem dX10_names0_1 : decode cX10_names0 1 = .ok (.lstore_n 2, 1) := by decide +kernel
theorem dX10_names0_2 : decode cX10_names0 2 = .ok (.iconst 0, 1) := by decide +kernel
theorem dX10_names0_3 : decode cX10_names0 3 = .ok (.istore 4, 2) := by decide +kernel
theorem dX10_names0_5 : decode cX10_names0 5 = .ok (.iload 4, 2) := by decide +kernel
theorem dX10_names0_7 : decode cX10_names0 7 = .ok (.aload_n 0, 1) := by decide +kernel
theorem dX10_names0_8 : decode cX10_names0 8 = .ok (.getfield 26, 3) := by decide +kernel
theorem dX10_names0_11 : decode cX10_names0 11 = .ok (.iload_n 1, 1) := by decide +kernel
theorem dX10_names0_12 : decode cX10_names0 12 = .ok (.iaload, 1) := by decide +kernel
theorem dX10_names0_13 : decode cX10_names0 13 = .ok (.if_icmp .ge 90, 3) := by decide +kernel
theorem dX10_names0_16 : decode cX10_names0 16 = .ok (.aload_n 0, 1) := by decide +kernel
theorem dX10_names0_17 : decode cX10_names0 17 = .ok (.iload_n 1, 1) := by decide +kernel
theorem dX10_names0_18 : decode cX10_names0 18 = .ok (.iload 4, 2) := by decide +kernel
theorem dX10_names0_20 : decode cX10_names0 20 = .ok (.invokevirtual 229, 3) := by decide +kernel
theorem dX10_names0_23 : decode cX10_names0 23 = .ok (.istore 5, 2) := by decide +kernel
theorem dX10_names0_25 : decode cX10_names0 25 = .ok (.iload 5, 2) := by decide +kernel
theorem dX10_names0_27 : decode cX10_names0 27 = .ok (.iconst 1, 1) := by decide +kernel
theorem dX10_names0_28 : decode cX10_names0 28 = .ok (.if_icmp .ne 15, 3) := by decide +kernel
theorem dX10_names0_31 : decode cX10_names0 31 = .ok (.lload_n 2, 1) := by decide +kernel
theorem dX10_names0_32 : decode cX10_names0 32 = .ok (.lconst 1, 1) := by decide +kernel
theorem dX10_names0_33 : decode cX10_names0 33 = .ok (.aload_n 0, 1) := by decide +kernel
theorem dX10_names0_34 : decode cX10_names0 34 = .ok (.iload_n 1, 1) := by decide +kernel
theorem dX10_names0_35 : decode cX10_names0 35 = .ok (.iload 4, 2) := by decide +kernel
theorem dX10_names0_37 : decode cX10_names0 37 = .ok (.invokevirtual 233, 3) := by decide +kernel
theorem dX10_names0_40 : decode cX10_names0 40 = .ok (.lshl, 1) := by decide +kernel
theorem dX10_names0_41 : decode cX10_names0 41 = .ok (.lor, 1) := by decide +kernel
theorem dX10_names0_42 : decode cX10_names0 42 = .ok (.lstore_n 2, 1) := by decide +kernel
theorem dX10_names0_43 : decode cX10_names0 43 = .ok (.iload 5, 2) := by decide +kernel
theorem dX10_names0_45 : decode cX10_names0 45 = .ok (.iconst 2, 1) := by decide +kernel
theorem dX10_names0_46 : decode cX10_names0 46 = .ok (.if_icmp .eq 6, 3) := by decide +kernel
theorem dX10_names0_49 : decode cX10_names0 49 = .ok (.goto 48, 3) := by decide +kernel
theorem dX10_names0_52 : decode cX10_names0 52 = .ok (.iconst 0, 1) := by decide +kernel
theorem dX10_names0_53 : decode cX10_names0 53 = .ok (.istore 6, 2) := by decide +kernel
theorem dX10_names0_55 : decode cX10_names0 55 = .ok (.iload 6, 2) := by decide +kernel
theorem dX10_names0_57 : decode cX10_names0 57 = .ok (.bipush 64, 2) := by decide +kernel
theorem dX10_names0_59 : decode cX10_names0 59 = .ok (.if_icmp .ge 38, 3) := by decide +kernel
theorem dX10_names0_62 : decode cX10_names0 62 = .ok (.iload 6, 2) := by decide +kernel
theorem dX10_names0_64 : decode cX10_names0 64 = .ok (.aload_n 0, 1) := by decide +kernel
theorem dX10_names0_65 : decode cX10_names0 65 = .ok (.iload_n 1, 1) := by decide +kernel
theorem dX10_names0_66 : decode cX10_names0 66 = .ok (.iload 4, 2) := by decide +kernel
theorem dX10_names0_68 : decode cX10_names0 68 = .ok (.invokevirtual 233, 3) := by decide +kernel
theorem dX10_names0_71 : decode cX10_names0 71 = .ok (.aload_n 0, 1) := by decide +kernel
theorem dX10_names0_72 : decode cX10_names0 72 = .ok (.iload_n 1, 1) := by decide +kernel
theorem dX10_names0_73 : decode cX10_names0 73 = .ok (.iload 4, 2) := by decide +kernel
theorem dX10_names0_75 : decode cX10_names0 75 = .ok (.invokevirtual 236, 3) := by decide +kernel
theorem dX10_names0_78 : decode cX10_names0 78 = .ok (.invokestatic 239, 3) := by decide +kernel
theorem dX10_names0_81 : decode cX10_names0 81 = .ok (.ifCond .eq 10, 3) := by decide +kernel
theorem dX10_names0_84 : decode cX10_names0 84 = .ok (.lload_n 2, 1) := by decide +kernel
theorem dX10_names0_85 : decode cX10_names0 85 = .ok (.lconst 1, 1) := by decide +kernel
theorem dX10_names0_86 : decode cX10_names0 86 = .ok (.iload 6, 2) := by decide +kernel
theorem dX10_names0_88 : decode cX10_names0 88 = .ok (.lshl, 1) := by decide +kernel
theorem dX10_names0_89 : decode cX10_names0 89 = .ok (.lor, 1) := by decide +kernel
theorem dX10_names0_90 : decode cX10_names0 90 = .ok (.lstore_n 2, 1) := by decide +kernel
theorem dX10_names0_91 : decode cX10_names0 91 = .ok (.iinc 6 1, 3) := by decide +kernel
theorem dX10_names0_94 : decode cX10_names0 94 = .ok (.goto (-39), 3) := by decide +kernel
theorem dX10_names0_97 : decode cX10_names0 97 = .ok (.iinc 4 1, 3) := by decide +kernel
theorem dX10_names0_100 : decode cX10_names0 100 = .ok (.goto (-95), 3) := by decide +kernel
theorem dX10_names0_103 : decode cX10_names0 103 = .ok (.lload_n 2, 1) := by decide +kernel
theorem dX10_names0_104 : decode cX10_names0 104 = .ok (.lreturn, 1) := by decide +kernel
theorem dX10_has_0 : decode cX10_has 0 = .ok (.lload_n 0, 1) := by decide +kernel
theorem dX10_has_1 : decode cX10_has 1 = .ok (.iload_n 2, 1) := by decide +kernel
theorem dX10_has_2 : decode cX10_has 2 = .ok (.lshr, 1) := by decide +kernel
theorem dX10_has_3 : decode cX10_has 3 = .ok (.lconst 1, 1) := by decide +kernel
theorem dX10_has_4 : decode cX10_has 4 = .ok (.land, 1) := by decide +kernel
theorem dX10_has_5 : decode cX10_has 5 = .ok (.lconst 1, 1) := by decide +kernel
theorem dX10_has_6 : decode cX10_has 6 = .ok (.lcmp, 1) := by decide +kernel
theorem dX10_has_7 : decode cX10_has 7 = .ok (.ifCond .ne 7, 3) := by decide +kernel
theorem dX10_has_10 : decode cX10_has 10 = .ok (.iconst 1, 1) := by decide +kernel
theorem dX10_has_11 : decode cX10_has 11 = .ok (.goto 4, 3) := by decide +kernel
theorem dX10_has_14 : decode cX10_has 14 = .ok (.iconst 0, 1) := by decide +kernel
theorem dX10_has_15 : decode cX10_has 15 = .ok (.ireturn, 1) := by decide +kernel
theorem dX10_isTold_0 : decode cX10_isTold 0 = .ok (.aload_n 0, 1) := by decide +kernel
theorem dX10_isTold_1 : decode cX10_isTold 1 = .ok (.getfield 48, 3) := by decide +kernel
theorem dX10_isTold_4 : decode cX10_isTold 4 = .ok (.iload_n 1, 1) := by decide +kernel
theorem dX10_isTold_5 : decode cX10_isTold 5 = .ok (.baload, 1) := by decide +kernel
theorem dX10_isTold_6 : decode cX10_isTold 6 = .ok (.ifCond .ne 20, 3) := by decide +kernel
theorem dX10_isTold_9 : decode cX10_isTold 9 = .ok (.iload_n 3, 1) := by decide +kernel
theorem dX10_isTold_10 : decode cX10_isTold 10 = .ok (.ifCond .eq 20, 3) := by decide +kernel
theorem dX10_isTold_13 : decode cX10_isTold 13 = .ok (.iload_n 1, 1) := by decide +kernel
theorem dX10_isTold_14 : decode cX10_isTold 14 = .ok (.iload_n 2, 1) := by decide +kernel
theorem dX10_isTold_15 : decode cX10_isTold 15 = .ok (.if_icmp .eq 15, 3) := by decide +kernel
theorem dX10_isTold_18 : decode cX10_isTold 18 = .ok (.aload_n 0, 1) := by decide +kernel
theorem dX10_isTold_19 : decode cX10_isTold 19 = .ok (.iload_n 1, 1) := by decide +kernel
theorem dX10_isTold_20 : decode cX10_isTold 20 = .ok (.invokevirtual 201, 3) := by decide +kernel
theorem dX10_isTold_23 : decode cX10_isTold 23 = .ok (.ifCond .eq 7, 3) := by decide +kernel
theorem dX10_isTold_26 : decode cX10_isTold 26 = .ok (.iconst 1, 1) := by decide +kernel
theorem dX10_isTold_27 : decode cX10_isTold 27 = .ok (.goto 4, 3) := by decide +kernel
theorem dX10_isTold_30 : decode cX10_isTold 30 = .ok (.iconst 0, 1) := by decide +kernel
theorem dX10_isTold_31 : decode cX10_isTold 31 = .ok (.ireturn, 1) := by decide +kernel
theorem dX10_orders_0 : decode cX10_orders 0 = .ok (.lconst 1, 1) := by decide +kernel
theorem dX10_orders_1 : decode cX10_orders 1 = .ok (.iload_n 2, 1) := by decide +kernel
theorem dX10_orders_2 : decode cX10_orders 2 = .ok (.lshl, 1) := by decide +kernel
theorem dX10_orders_3 : decode cX10_orders 3 = .ok (.lstore 4, 2) := by decide +kernel
theorem dX10_orders_5 : decode cX10_orders 5 = .ok (.lconst 0, 1) := by decide +kernel
theorem dX10_orders_6 : decode cX10_orders 6 = .ok (.lstore 6, 2) := by decide +kernel
theorem dX10_orders_8 : decode cX10_orders 8 = .ok (.iconst 1, 1) := by decide +kernel
theorem dX10_orders_9 : decode cX10_orders 9 = .ok (.istore 8, 2) := by decide +kernel
theorem dX10_orders_11 : decode cX10_orders 11 = .ok (.iload 8, 2) := by decide +kernel
theorem dX10_orders_13 : decode cX10_orders 13 = .ok (.ifCond .eq 101, 3) := by decide +kernel
theorem dX10_orders_16 : decode cX10_orders 16 = .ok (.iconst 0, 1) := by decide +kernel
theorem dX10_orders_17 : decode cX10_orders 17 = .ok (.istore 8, 2) := by decide +kernel
theorem dX10_orders_19 : decode cX10_orders 19 = .ok (.iconst 0, 1) := by decide +kernel
theorem dX10_orders_20 : decode cX10_orders 20 = .ok (.istore 9, 2) := by decide +kernel
theorem dX10_orders_22 : decode cX10_orders 22 = .ok (.iload 9, 2) := by decide +kernel
theorem dX10_orders_24 : decode cX10_orders 24 = .ok (.bipush 64, 2) := by decide +kernel
theorem dX10_orders_26 : decode cX10_orders 26 = .ok (.if_icmp .ge 85, 3) := by decide +kernel
theorem dX10_orders_29 : decode cX10_orders 29 = .ok (.lload 4, 2) := by decide +kernel
theorem dX10_orders_31 : decode cX10_orders 31 = .ok (.iload 9, 2) := by decide +kernel
theorem dX10_orders_33 : decode cX10_orders 33 = .ok (.invokestatic 242, 3) := by decide +kernel
theorem dX10_orders_36 : decode cX10_orders 36 = .ok (.ifCond .eq 69, 3) := by decide +kernel
theorem dX10_orders_39 : decode cX10_orders 39 = .ok (.lload 6, 2) := by decide +kernel
theorem dX10_orders_41 : decode cX10_orders 41 = .ok (.iload 9, 2) := by decide +kernel
theorem dX10_orders_43 : decode cX10_orders 43 = .ok (.invokestatic 242, 3) := by decide +kernel
theorem dX10_orders_46 : decode cX10_orders 46 = .ok (.ifCond .eq 6, 3) := by decide +kernel
theorem dX10_orders_49 : decode cX10_orders 49 = .ok (.goto 56, 3) := by decide +kernel
theorem dX10_orders_52 : decode cX10_orders 52 = .ok (.aload_n 0, 1) := by decide +kernel
theorem dX10_orders_53 : decode cX10_orders 53 = .ok (.getfield 92, 3) := by decide +kernel
theorem dX10_orders_56 : decode cX10_orders 56 = .ok (.iload 9, 2) := by decide +kernel
theorem dX10_orders_58 : decode cX10_orders 58 = .ok (.aload_n 0, 1) := by decide +kernel
theorem dX10_orders_59 : decode cX10_orders 59 = .ok (.iload 9, 2) := by decide +kernel
theorem dX10_orders_61 : decode cX10_orders 61 = .ok (.iload_n 2, 1) := by decide +kernel
theorem dX10_orders_62 : decode cX10_orders 62 = .ok (.iload_n 3, 1) := by decide +kernel
theorem dX10_orders_63 : decode cX10_orders 63 = .ok (.invokevirtual 246, 3) := by decide +kernel
theorem dX10_orders_66 : decode cX10_orders 66 = .ok (.ifCond .eq 7, 3) := by decide +kernel
theorem dX10_orders_69 : decode cX10_orders 69 = .ok (.lconst 0, 1) := by decide +kernel
theorem dX10_orders_70 : decode cX10_orders 70 = .ok (.goto 10, 3) := by decide +kernel
theorem dX10_orders_73 : decode cX10_orders 73 = .ok (.aload_n 0, 1) := by decide +kernel
theorem dX10_orders_74 : decode cX10_orders 74 = .ok (.iload_n 1, 1) := by decide +kernel
theorem dX10_orders_75 : decode cX10_orders 75 = .ok (.iload 9, 2) := by decide +kernel
theorem dX10_orders_77 : decode cX10_orders 77 = .ok (.invokevirtual 250, 3) := by decide +kernel
theorem dX10_orders_80 : decode cX10_orders 80 = .ok (.lastore, 1) := by decide +kernel
theorem dX10_orders_81 : decode cX10_orders 81 = .ok (.lload 4, 2) := by decide +kernel
theorem dX10_orders_83 : decode cX10_orders 83 = .ok (.aload_n 0, 1) := by decide +kernel
theorem dX10_orders_84 : decode cX10_orders 84 = .ok (.getfield 92, 3) := by decide +kernel
theorem dX10_orders_87 : decode cX10_orders 87 = .ok (.iload 9, 2) := by decide +kernel
theorem dX10_orders_89 : decode cX10_orders 89 = .ok (.laload, 1) := by decide +kernel
theorem dX10_orders_90 : decode cX10_orders 90 = .ok (.lor, 1) := by decide +kernel
theorem dX10_orders_91 : decode cX10_orders 91 = .ok (.lstore 4, 2) := by decide +kernel
theorem dX10_orders_93 : decode cX10_orders 93 = .ok (.lload 6, 2) := by decide +kernel
theorem dX10_orders_95 : decode cX10_orders 95 = .ok (.lconst 1, 1) := by decide +kernel
theorem dX10_orders_96 : decode cX10_orders 96 = .ok (.iload 9, 2) := by decide +kernel
theorem dX10_orders_98 : decode cX10_orders 98 = .ok (.lshl, 1) := by decide +kernel
theorem dX10_orders_99 : decode cX10_orders 99 = .ok (.lor, 1) := by decide +kernel
theorem dX10_orders_100 : decode cX10_orders 100 = .ok (.lstore 6, 2) := by decide +kernel
theorem dX10_orders_102 : decode cX10_orders 102 = .ok (.iconst 1, 1) := by decide +kernel
theorem dX10_orders_103 : decode cX10_orders 103 = .ok (.istore 8, 2) := by decide +kernel
theorem dX10_orders_105 : decode cX10_orders 105 = .ok (.iinc 9 1, 3) := by decide +kernel
theorem dX10_orders_108 : decode cX10_orders 108 = .ok (.goto (-86), 3) := by decide +kernel
theorem dX10_orders_111 : decode cX10_orders 111 = .ok (.goto (-100), 3) := by decide +kernel
theorem dX10_orders_114 : decode cX10_orders 114 = .ok (.lconst 0, 1) := by decide +kernel
theorem dX10_orders_115 : decode cX10_orders 115 = .ok (.lstore 9, 2) := by decide +kernel
theorem dX10_orders_117 : decode cX10_orders 117 = .ok (.aload_n 0, 1) := by decide +kernel
theorem dX10_orders_118 : decode cX10_orders 118 = .ok (.iconst 0, 1) := by decide +kernel
theorem dX10_orders_119 : decode cX10_orders 119 = .ok (.putfield 254, 3) := by decide +kernel
theorem dX10_orders_122 : decode cX10_orders 122 = .ok (.iconst 1, 1) := by decide +kernel
theorem dX10_orders_123 : decode cX10_orders 123 = .ok (.istore 8, 2) := by decide +kernel
theorem dX10_orders_125 : decode cX10_orders 125 = .ok (.iload 8, 2) := by decide +kernel
theorem dX10_orders_127 : decode cX10_orders 127 = .ok (.ifCond .eq 100, 3) := by decide +kernel
theorem dX10_orders_130 : decode cX10_orders 130 = .ok (.iconst 0, 1) := by decide +kernel
theorem dX10_orders_131 : decode cX10_orders 131 = .ok (.istore 8, 2) := by decide +kernel
theorem dX10_orders_133 : decode cX10_orders 133 = .ok (.iconst 0, 1) := by decide +kernel
theorem dX10_orders_134 : decode cX10_orders 134 = .ok (.istore 11, 2) := by decide +kernel
theorem dX10_orders_136 : decode cX10_orders 136 = .ok (.iload 11, 2) := by decide +kernel
theorem dX10_orders_138 : decode cX10_orders 138 = .ok (.bipush 64, 2) := by decide +kernel
theorem dX10_orders_140 : decode cX10_orders 140 = .ok (.if_icmp .ge 84, 3) := by decide +kernel
theorem dX10_orders_143 : decode cX10_orders 143 = .ok (.lload 4, 2) := by decide +kernel
theorem dX10_orders_145 : decode cX10_orders 145 = .ok (.iload 11, 2) := by decide +kernel
theorem dX10_orders_147 : decode cX10_orders 147 = .ok (.invokestatic 242, 3) := by decide +kernel
theorem dX10_orders_150 : decode cX10_orders 150 = .ok (.ifCond .eq 68, 3) := by decide +kernel
theorem dX10_orders_153 : decode cX10_orders 153 = .ok (.lload 9, 2) := by decide +kernel
theorem dX10_orders_155 : decode cX10_orders 155 = .ok (.iload 11, 2) := by decide +kernel
theorem dX10_orders_157 : decode cX10_orders 157 = .ok (.invokestatic 242, 3) := by decide +kernel
theorem dX10_orders_160 : decode cX10_orders 160 = .ok (.ifCond .ne 58, 3) := by decide +kernel
theorem dX10_orders_163 : decode cX10_orders 163 = .ok (.aload_n 0, 1) := by decide +kernel
theorem dX10_orders_164 : decode cX10_orders 164 = .ok (.getfield 92, 3) := by decide +kernel
theorem dX10_orders_167 : decode cX10_orders 167 = .ok (.iload 11, 2) := by decide +kernel
theorem dX10_orders_169 : decode cX10_orders 169 = .ok (.laload, 1) := by decide +kernel
theorem dX10_orders_170 : decode cX10_orders 170 = .ok (.lload 9, 2) := by decide +kernel
theorem dX10_orders_172 : decode cX10_orders 172 = .ok (.ldc2_w 257, 3) := by decide +kernel
theorem dX10_orders_175 : decode cX10_orders 175 = .ok (.lxor, 1) := by decide +kernel
theorem dX10_orders_176 : decode cX10_orders 176 = .ok (.land, 1) := by decide +kernel
theorem dX10_orders_177 : decode cX10_orders 177 = .ok (.lconst 0, 1) := by decide +kernel
theorem dX10_orders_178 : decode cX10_orders 178 = .ok (.lcmp, 1) := by decide +kernel
theorem dX10_orders_179 : decode cX10_orders 179 = .ok (.ifCond .eq 6, 3) := by decide +kernel
theorem dX10_orders_182 : decode cX10_orders 182 = .ok (.goto 36, 3) := by decide +kernel
theorem dX10_orders_185 : decode cX10_orders 185 = .ok (.aload_n 0, 1) := by decide +kernel
theorem dX10_orders_186 : decode cX10_orders 186 = .ok (.getfield 89, 3) := by decide +kernel
theorem dX10_orders_189 : decode cX10_orders 189 = .ok (.aload_n 0, 1) := by decide +kernel
theorem dX10_orders_190 : decode cX10_orders 190 = .ok (.getfield 254, 3) := by decide +kernel
theorem dX10_orders_193 : decode cX10_orders 193 = .ok (.iload 11, 2) := by decide +kernel
theorem dX10_orders_195 : decode cX10_orders 195 = .ok (.iastore, 1) := by decide +kernel
theorem dX10_orders_196 : decode cX10_orders 196 = .ok (.aload_n 0, 1) := by decide +kernel
theorem dX10_orders_197 : decode cX10_orders 197 = .ok (.dup, 1) := by decide +kernel
theorem dX10_orders_198 : decode cX10_orders 198 = .ok (.getfield 254, 3) := by decide +kernel
theorem dX10_orders_201 : decode cX10_orders 201 = .ok (.iconst 1, 1) := by decide +kernel
theorem dX10_orders_202 : decode cX10_orders 202 = .ok (.iadd, 1) := by decide +kernel
theorem dX10_orders_203 : decode cX10_orders 203 = .ok (.putfield 254, 3) := by decide +kernel
theorem dX10_orders_206 : decode cX10_orders 206 = .ok (.lload 9, 2) := by decide +kernel
theorem dX10_orders_208 : decode cX10_orders 208 = .ok (.lconst 1, 1) := by decide +kernel
theorem dX10_orders_209 : decode cX10_orders 209 = .ok (.iload 11, 2) := by decide +kernel
theorem dX10_orders_211 : decode cX10_orders 211 = .ok (.lshl, 1) := by decide +kernel
theorem dX10_orders_212 : decode cX10_orders 212 = .ok (.lor, 1) := by decide +kernel
theorem dX10_orders_213 : decode cX10_orders 213 = .ok (.lstore 9, 2) := by decide +kernel
theorem dX10_orders_215 : decode cX10_orders 215 = .ok (.iconst 1, 1) := by decide +kernel
theorem dX10_orders_216 : decode cX10_orders 216 = .ok (.istore 8, 2) := by decide +kernel
theorem dX10_orders_218 : decode cX10_orders 218 = .ok (.iinc 11 1, 3) := by decide +kernel
theorem dX10_orders_221 : decode cX10_orders 221 = .ok (.goto (-85), 3) := by decide +kernel
theorem dX10_orders_224 : decode cX10_orders 224 = .ok (.goto (-99), 3) := by decide +kernel
theorem dX10_orders_227 : decode cX10_orders 227 = .ok (.lload 9, 2) := by decide +kernel
theorem dX10_orders_229 : decode cX10_orders 229 = .ok (.lload 4, 2) := by decide +kernel
theorem dX10_orders_231 : decode cX10_orders 231 = .ok (.lcmp, 1) := by decide +kernel
theorem dX10_orders_232 : decode cX10_orders 232 = .ok (.ifCond .ne 7, 3) := by decide +kernel
theorem dX10_orders_235 : decode cX10_orders 235 = .ok (.iconst 1, 1) := by decide +kernel
theorem dX10_orders_236 : decode cX10_orders 236 = .ok (.goto 4, 3) := by decide +kernel
theorem dX10_orders_239 : decode cX10_orders 239 = .ok (.iconst 0, 1) := by decide +kernel
theorem dX10_orders_240 : decode cX10_orders 240 = .ok (.ireturn, 1) := by decide +kernel
theorem dX10_comes_0 : decode cX10_comes 0 = .ok (.lload_n 1, 1) := by decide +kernel
theorem dX10_comes_1 : decode cX10_comes 1 = .ok (.ldc2_w 259, 3) := by decide +kernel
theorem dX10_comes_4 : decode cX10_comes 4 = .ok (.lcmp, 1) := by decide +kernel
theorem dX10_comes_5 : decode cX10_comes 5 = .ok (.ifCond .gt 11, 3) := by decide +kernel
theorem dX10_comes_8 : decode cX10_comes 8 = .ok (.lload_n 1, 1) := by decide +kernel
theorem dX10_comes_9 : decode cX10_comes 9 = .ok (.ldc2_w 261, 3) := by decide +kernel
theorem dX10_comes_12 : decode cX10_comes 12 = .ok (.lcmp, 1) := by decide +kernel
theorem dX10_comes_13 : decode cX10_comes 13 = .ok (.ifCond .ge 8, 3) := by decide +kernel
theorem dX10_comes_16 : decode cX10_comes 16 = .ok (.aload_n 0, 1) := by decide +kernel
theorem dX10_comes_17 : decode cX10_comes 17 = .ok (.iconst 3, 1) := by decide +kernel
theorem dX10_comes_18 : decode cX10_comes 18 = .ok (.putfield 263, 3) := by decide +kernel
theorem dX10_comes_21 : decode cX10_comes 21 = .ok (.aload_n 0, 1) := by decide +kernel
theorem dX10_comes_22 : decode cX10_comes 22 = .ok (.getfield 101, 3) := by decide +kernel
theorem dX10_comes_25 : decode cX10_comes 25 = .ok (.aload_n 0, 1) := by decide +kernel
theorem dX10_comes_26 : decode cX10_comes 26 = .ok (.getfield 266, 3) := by decide +kernel
theorem dX10_comes_29 : decode cX10_comes 29 = .ok (.lload_n 1, 1) := by decide +kernel
theorem dX10_comes_30 : decode cX10_comes 30 = .ok (.lastore, 1) := by decide +kernel
theorem dX10_comes_31 : decode cX10_comes 31 = .ok (.aload_n 0, 1) := by decide +kernel
theorem dX10_comes_32 : decode cX10_comes 32 = .ok (.dup, 1) := by decide +kernel
theorem dX10_comes_33 : decode cX10_comes 33 = .ok (.getfield 266, 3) := by decide +kernel
theorem dX10_comes_36 : decode cX10_comes 36 = .ok (.iconst 1, 1) := by decide +kernel
theorem dX10_comes_37 : decode cX10_comes 37 = .ok (.iadd, 1) := by decide +kernel
theorem dX10_comes_38 : decode cX10_comes 38 = .ok (.putfield 266, 3) := by decide +kernel
theorem dX10_comes_41 : decode cX10_comes 41 = .ok (.return_, 1) := by decide +kernel
theorem dX10_times_0 : decode cX10_times 0 = .ok (.lload_n 1, 1) := by decide +kernel
theorem dX10_times_1 : decode cX10_times 1 = .ok (.lconst 0, 1) := by decide +kernel
theorem dX10_times_2 : decode cX10_times 2 = .ok (.lcmp, 1) := by decide +kernel
theorem dX10_times_3 : decode cX10_times 3 = .ok (.ifCond .ge 8, 3) := by decide +kernel
theorem dX10_times_6 : decode cX10_times 6 = .ok (.lload_n 1, 1) := by decide +kernel
theorem dX10_times_7 : decode cX10_times 7 = .ok (.lneg, 1) := by decide +kernel
theorem dX10_times_8 : decode cX10_times 8 = .ok (.goto 4, 3) := by decide +kernel
theorem dX10_times_11 : decode cX10_times 11 = .ok (.lload_n 1, 1) := by decide +kernel
theorem dX10_times_12 : decode cX10_times 12 = .ok (.lstore 5, 2) := by decide +kernel
theorem dX10_times_14 : decode cX10_times 14 = .ok (.lload_n 3, 1) := by decide +kernel
theorem dX10_times_15 : decode cX10_times 15 = .ok (.lconst 0, 1) := by decide +kernel
theorem dX10_times_16 : decode cX10_times 16 = .ok (.lcmp, 1) := by decide +kernel
theorem dX10_times_17 : decode cX10_times 17 = .ok (.ifCond .ge 8, 3) := by decide +kernel
theorem dX10_times_20 : decode cX10_times 20 = .ok (.lload_n 3, 1) := by decide +kernel
theorem dX10_times_21 : decode cX10_times 21 = .ok (.lneg, 1) := by decide +kernel
theorem dX10_times_22 : decode cX10_times 22 = .ok (.goto 4, 3) := by decide +kernel
theorem dX10_times_25 : decode cX10_times 25 = .ok (.lload_n 3, 1) := by decide +kernel
theorem dX10_times_26 : decode cX10_times 26 = .ok (.lstore 7, 2) := by decide +kernel
theorem dX10_times_28 : decode cX10_times 28 = .ok (.lload 5, 2) := by decide +kernel
theorem dX10_times_30 : decode cX10_times 30 = .ok (.lconst 0, 1) := by decide +kernel
theorem dX10_times_31 : decode cX10_times 31 = .ok (.lcmp, 1) := by decide +kernel
theorem dX10_times_32 : decode cX10_times 32 = .ok (.ifCond .eq 21, 3) := by decide +kernel
theorem dX10_times_35 : decode cX10_times 35 = .ok (.lload 7, 2) := by decide +kernel
theorem dX10_times_37 : decode cX10_times 37 = .ok (.ldc2_w 259, 3) := by decide +kernel
theorem dX10_times_40 : decode cX10_times 40 = .ok (.lload 5, 2) := by decide +kernel
theorem dX10_times_42 : decode cX10_times 42 = .ok (.ldiv, 1) := by decide +kernel
theorem dX10_times_43 : decode cX10_times 43 = .ok (.lcmp, 1) := by decide +kernel
theorem dX10_times_44 : decode cX10_times 44 = .ok (.ifCond .le 9, 3) := by decide +kernel
theorem dX10_times_47 : decode cX10_times 47 = .ok (.aload_n 0, 1) := by decide +kernel
theorem dX10_times_48 : decode cX10_times 48 = .ok (.iconst 3, 1) := by decide +kernel
theorem dX10_times_49 : decode cX10_times 49 = .ok (.putfield 263, 3) := by decide +kernel
theorem dX10_times_52 : decode cX10_times 52 = .ok (.return_, 1) := by decide +kernel
theorem dX10_times_53 : decode cX10_times 53 = .ok (.aload_n 0, 1) := by decide +kernel
theorem dX10_times_54 : decode cX10_times 54 = .ok (.lload_n 1, 1) := by decide +kernel
theorem dX10_times_55 : decode cX10_times 55 = .ok (.lload_n 3, 1) := by decide +kernel
theorem dX10_times_56 : decode cX10_times 56 = .ok (.lmul, 1) := by decide +kernel
theorem dX10_times_57 : decode cX10_times 57 = .ok (.invokevirtual 269, 3) := by decide +kernel
theorem dX10_times_60 : decode cX10_times 60 = .ok (.return_, 1) := by decide +kernel
theorem dX10_parts_0 : decode cX10_parts 0 = .ok (.lload_n 3, 1) := by decide +kernel
theorem dX10_parts_1 : decode cX10_parts 1 = .ok (.lconst 0, 1) := by decide +kernel
theorem dX10_parts_2 : decode cX10_parts 2 = .ok (.lcmp, 1) := by decide +kernel
theorem dX10_parts_3 : decode cX10_parts 3 = .ok (.ifCond .ne 9, 3) := by decide +kernel
theorem dX10_parts_6 : decode cX10_parts 6 = .ok (.aload_n 0, 1) := by decide +kernel
theorem dX10_parts_7 : decode cX10_parts 7 = .ok (.iconst 2, 1) := by decide +kernel
theorem dX10_parts_8 : decode cX10_parts 8 = .ok (.putfield 263, 3) := by decide +kernel
theorem dX10_parts_11 : decode cX10_parts 11 = .ok (.return_, 1) := by decide +kernel
theorem dX10_parts_12 : decode cX10_parts 12 = .ok (.lload_n 1, 1) := by decide +kernel
theorem dX10_parts_13 : decode cX10_parts 13 = .ok (.lload_n 3, 1) := by decide +kernel
theorem dX10_parts_14 : decode cX10_parts 14 = .ok (.ldiv, 1) := by decide +kernel
theorem dX10_parts_15 : decode cX10_parts 15 = .ok (.lstore 5, 2) := by decide +kernel
theorem dX10_parts_17 : decode cX10_parts 17 = .ok (.aload_n 0, 1) := by decide +kernel
theorem dX10_parts_18 : decode cX10_parts 18 = .ok (.lload_n 1, 1) := by decide +kernel
theorem dX10_parts_19 : decode cX10_parts 19 = .ok (.lload_n 3, 1) := by decide +kernel
theorem dX10_parts_20 : decode cX10_parts 20 = .ok (.lrem, 1) := by decide +kernel
theorem dX10_parts_21 : decode cX10_parts 21 = .ok (.lconst 0, 1) := by decide +kernel
theorem dX10_parts_22 : decode cX10_parts 22 = .ok (.lcmp, 1) := by decide +kernel
theorem dX10_parts_23 : decode cX10_parts 23 = .ok (.ifCond .eq 35, 3) := by decide +kernel
theorem dX10_parts_26 : decode cX10_parts 26 = .ok (.lload_n 1, 1) := by decide +kernel
theorem dX10_parts_27 : decode cX10_parts 27 = .ok (.lconst 0, 1) := by decide +kernel
theorem dX10_parts_28 : decode cX10_parts 28 = .ok (.lcmp, 1) := by decide +kernel
theorem dX10_parts_29 : decode cX10_parts 29 = .ok (.ifCond .ge 7, 3) := by decide +kernel
theorem dX10_parts_32 : decode cX10_parts 32 = .ok (.iconst 1, 1) := by decide +kernel
theorem dX10_parts_33 : decode cX10_parts 33 = .ok (.goto 4, 3) := by decide +kernel
theorem dX10_parts_36 : decode cX10_parts 36 = .ok (.iconst 0, 1) := by decide +kernel
theorem dX10_parts_37 : decode cX10_parts 37 = .ok (.lload_n 3, 1) := by decide +kernel
theorem dX10_parts_38 : decode cX10_parts 38 = .ok (.lconst 0, 1) := by decide +kernel
theorem dX10_parts_39 : decode cX10_parts 39 = .ok (.lcmp, 1) := by decide +kernel
theorem dX10_parts_40 : decode cX10_parts 40 = .ok (.ifCond .ge 7, 3) := by decide +kernel
theorem dX10_parts_43 : decode cX10_parts 43 = .ok (.iconst 1, 1) := by decide +kernel
theorem dX10_parts_44 : decode cX10_parts 44 = .ok (.goto 4, 3) := by decide +kernel
theorem dX10_parts_47 : decode cX10_parts 47 = .ok (.iconst 0, 1) := by decide +kernel
theorem dX10_parts_48 : decode cX10_parts 48 = .ok (.if_icmp .eq 10, 3) := by decide +kernel
theorem dX10_parts_51 : decode cX10_parts 51 = .ok (.lload 5, 2) := by decide +kernel
theorem dX10_parts_53 : decode cX10_parts 53 = .ok (.lconst 1, 1) := by decide +kernel
theorem dX10_parts_54 : decode cX10_parts 54 = .ok (.lsub, 1) := by decide +kernel
theorem dX10_parts_55 : decode cX10_parts 55 = .ok (.goto 5, 3) := by decide +kernel
theorem dX10_parts_58 : decode cX10_parts 58 = .ok (.lload 5, 2) := by decide +kernel
theorem dX10_parts_60 : decode cX10_parts 60 = .ok (.invokevirtual 269, 3) := by decide +kernel
theorem dX10_parts_63 : decode cX10_parts 63 = .ok (.return_, 1) := by decide +kernel
theorem dX10_two_0 : decode cX10_two 0 = .ok (.aload_n 0, 1) := by decide +kernel
theorem dX10_two_1 : decode cX10_two 1 = .ok (.dup, 1) := by decide +kernel
theorem dX10_two_2 : decode cX10_two 2 = .ok (.getfield 266, 3) := by decide +kernel
theorem dX10_two_5 : decode cX10_two 5 = .ok (.iconst 2, 1) := by decide +kernel
theorem dX10_two_6 : decode cX10_two 6 = .ok (.isub, 1) := by decide +kernel
theorem dX10_two_7 : decode cX10_two 7 = .ok (.putfield 266, 3) := by decide +kernel
theorem dX10_two_10 : decode cX10_two 10 = .ok (.aload_n 0, 1) := by decide +kernel
theorem dX10_two_11 : decode cX10_two 11 = .ok (.getfield 101, 3) := by decide +kernel
theorem dX10_two_14 : decode cX10_two 14 = .ok (.aload_n 0, 1) := by decide +kernel
theorem dX10_two_15 : decode cX10_two 15 = .ok (.getfield 266, 3) := by decide +kernel
theorem dX10_two_18 : decode cX10_two 18 = .ok (.laload, 1) := by decide +kernel
theorem dX10_two_19 : decode cX10_two 19 = .ok (.lstore_n 2, 1) := by decide +kernel
theorem dX10_two_20 : decode cX10_two 20 = .ok (.aload_n 0, 1) := by decide +kernel
theorem dX10_two_21 : decode cX10_two 21 = .ok (.getfield 101, 3) := by decide +kernel
theorem dX10_two_24 : decode cX10_two 24 = .ok (.aload_n 0, 1) := by decide +kernel
theorem dX10_two_25 : decode cX10_two 25 = .ok (.getfield 266, 3) := by decide +kernel
theorem dX10_two_28 : decode cX10_two 28 = .ok (.iconst 1, 1) := by decide +kernel
theorem dX10_two_29 : decode cX10_two 29 = .ok (.iadd, 1) := by decide +kernel
theorem dX10_two_30 : decode cX10_two 30 = .ok (.laload, 1) := by decide +kernel
theorem dX10_two_31 : decode cX10_two 31 = .ok (.lstore 4, 2) := by decide +kernel
theorem dX10_two_33 : decode cX10_two 33 = .ok (.iload_n 1, 1) := by decide +kernel
theorem dX10_two_34 : decode cX10_two 34 = .ok (.tableswitch 72 4 7 #[30, 41, 52, 62], 30) := by decide +kernel
theorem dX10_two_64 : decode cX10_two 64 = .ok (.aload_n 0, 1) := by decide +kernel
theorem dX10_two_65 : decode cX10_two 65 = .ok (.lload_n 2, 1) := by decide +kernel
theorem dX10_two_66 : decode cX10_two 66 = .ok (.lload 4, 2) := by decide +kernel
theorem dX10_two_68 : decode cX10_two 68 = .ok (.ladd, 1) := by decide +kernel
theorem dX10_two_69 : decode cX10_two 69 = .ok (.invokevirtual 269, 3) := by decide +kernel
theorem dX10_two_72 : decode cX10_two 72 = .ok (.goto 51, 3) := by decide +kernel
theorem dX10_two_75 : decode cX10_two 75 = .ok (.aload_n 0, 1) := by decide +kernel
theorem dX10_two_76 : decode cX10_two 76 = .ok (.lload_n 2, 1) := by decide +kernel
theorem dX10_two_77 : decode cX10_two 77 = .ok (.lload 4, 2) := by decide +kernel
theorem dX10_two_79 : decode cX10_two 79 = .ok (.lsub, 1) := by decide +kernel
theorem dX10_two_80 : decode cX10_two 80 = .ok (.invokevirtual 269, 3) := by decide +kernel
theorem dX10_two_83 : decode cX10_two 83 = .ok (.goto 40, 3) := by decide +kernel
theorem dX10_two_86 : decode cX10_two 86 = .ok (.aload_n 0, 1) := by decide +kernel
theorem dX10_two_87 : decode cX10_two 87 = .ok (.lload_n 2, 1) := by decide +kernel
theorem dX10_two_88 : decode cX10_two 88 = .ok (.lload 4, 2) := by decide +kernel
theorem dX10_two_90 : decode cX10_two 90 = .ok (.invokevirtual 273, 3) := by decide +kernel
theorem dX10_two_93 : decode cX10_two 93 = .ok (.goto 30, 3) := by decide +kernel
theorem dX10_two_96 : decode cX10_two 96 = .ok (.aload_n 0, 1) := by decide +kernel
theorem dX10_two_97 : decode cX10_two 97 = .ok (.lload_n 2, 1) := by decide +kernel
theorem dX10_two_98 : decode cX10_two 98 = .ok (.lload 4, 2) := by decide +kernel
theorem dX10_two_100 : decode cX10_two 100 = .ok (.invokevirtual 277, 3) := by decide +kernel
theorem dX10_two_103 : decode cX10_two 103 = .ok (.goto 20, 3) := by decide +kernel
theorem dX10_two_106 : decode cX10_two 106 = .ok (.aload_n 0, 1) := by decide +kernel
theorem dX10_two_107 : decode cX10_two 107 = .ok (.lload_n 2, 1) := by decide +kernel
theorem dX10_two_108 : decode cX10_two 108 = .ok (.lload 4, 2) := by decide +kernel
theorem dX10_two_110 : decode cX10_two 110 = .ok (.lcmp, 1) := by decide +kernel
theorem dX10_two_111 : decode cX10_two 111 = .ok (.ifCond .le 7, 3) := by decide +kernel
theorem dX10_two_114 : decode cX10_two 114 = .ok (.lload_n 2, 1) := by decide +kernel
theorem dX10_two_115 : decode cX10_two 115 = .ok (.goto 5, 3) := by decide +kernel
theorem dX10_two_118 : decode cX10_two 118 = .ok (.lload 4, 2) := by decide +kernel
theorem dX10_two_120 : decode cX10_two 120 = .ok (.invokevirtual 269, 3) := by decide +kernel
theorem dX10_two_123 : decode cX10_two 123 = .ok (.return_, 1) := by decide +kernel
theorem dX10_names_0 : decode cX10_names 0 = .ok (.aload_n 0, 1) := by decide +kernel
theorem dX10_names_1 : decode cX10_names 1 = .ok (.aload_n 0, 1) := by decide +kernel
theorem dX10_names_2 : decode cX10_names 2 = .ok (.getfield 98, 3) := by decide +kernel
theorem dX10_names_5 : decode cX10_names 5 = .ok (.iload_n 1, 1) := by decide +kernel
theorem dX10_names_6 : decode cX10_names 6 = .ok (.iaload, 1) := by decide +kernel
theorem dX10_names_7 : decode cX10_names 7 = .ok (.putfield 263, 3) := by decide +kernel
theorem dX10_names_10 : decode cX10_names 10 = .ok (.aload_n 0, 1) := by decide +kernel
theorem dX10_names_11 : decode cX10_names 11 = .ok (.getfield 101, 3) := by decide +kernel
theorem dX10_names_14 : decode cX10_names 14 = .ok (.aload_n 0, 1) := by decide +kernel
theorem dX10_names_15 : decode cX10_names 15 = .ok (.getfield 266, 3) := by decide +kernel
theorem dX10_names_18 : decode cX10_names 18 = .ok (.aload_n 0, 1) := by decide +kernel
theorem dX10_names_19 : decode cX10_names 19 = .ok (.getfield 95, 3) := by decide +kernel
theorem dX10_names_22 : decode cX10_names 22 = .ok (.iload_n 1, 1) := by decide +kernel
theorem dX10_names_23 : decode cX10_names 23 = .ok (.laload, 1) := by decide +kernel
theorem dX10_names_24 : decode cX10_names 24 = .ok (.lastore, 1) := by decide +kernel
theorem dX10_names_25 : decode cX10_names 25 = .ok (.aload_n 0, 1) := by decide +kernel
theorem dX10_names_26 : decode cX10_names 26 = .ok (.dup, 1) := by decide +kernel
theorem dX10_names_27 : decode cX10_names 27 = .ok (.getfield 266, 3) := by decide +kernel
theorem dX10_names_30 : decode cX10_names 30 = .ok (.iconst 1, 1) := by decide +kernel
theorem dX10_names_31 : decode cX10_names 31 = .ok (.iadd, 1) := by decide +kernel
theorem dX10_names_32 : decode cX10_names 32 = .ok (.putfield 266, 3) := by decide +kernel
theorem dX10_names_35 : decode cX10_names 35 = .ok (.return_, 1) := by decide +kernel
theorem dX10_range_0 : decode cX10_range 0 = .ok (.lconst 0, 1) := by decide +kernel
theorem dX10_range_1 : decode cX10_range 1 = .ok (.lstore_n 3, 1) := by decide +kernel
theorem dX10_range_2 : decode cX10_range 2 = .ok (.iconst 0, 1) := by decide +kernel
theorem dX10_range_3 : decode cX10_range 3 = .ok (.istore 5, 2) := by decide +kernel
theorem dX10_range_5 : decode cX10_range 5 = .ok (.iload 5, 2) := by decide +kernel
theorem dX10_range_7 : decode cX10_range 7 = .ok (.bipush 64, 2) := by decide +kernel
theorem dX10_range_9 : decode cX10_range 9 = .ok (.if_icmp .ge 78, 3) := by decide +kernel
theorem dX10_range_12 : decode cX10_range 12 = .ok (.aload_n 0, 1) := by decide +kernel
theorem dX10_range_13 : decode cX10_range 13 = .ok (.getfield 263, 3) := by decide +kernel
theorem dX10_range_16 : decode cX10_range 16 = .ok (.ifCond .ne 71, 3) := by decide +kernel
theorem dX10_range_19 : decode cX10_range 19 = .ok (.iload 5, 2) := by decide +kernel
theorem dX10_range_21 : decode cX10_range 21 = .ok (.iload_n 1, 1) := by decide +kernel
theorem dX10_range_22 : decode cX10_range 22 = .ok (.iload_n 2, 1) := by decide +kernel
theorem dX10_range_23 : decode cX10_range 23 = .ok (.invokestatic 239, 3) := by decide +kernel
theorem dX10_range_26 : decode cX10_range 26 = .ok (.ifCond .ne 6, 3) := by decide +kernel
theorem dX10_range_29 : decode cX10_range 29 = .ok (.goto 52, 3) := by decide +kernel
theorem dX10_range_32 : decode cX10_range 32 = .ok (.aload_n 0, 1) := by decide +kernel
theorem dX10_range_33 : decode cX10_range 33 = .ok (.aload_n 0, 1) := by decide +kernel
theorem dX10_range_34 : decode cX10_range 34 = .ok (.getfield 98, 3) := by decide +kernel
theorem dX10_range_37 : decode cX10_range 37 = .ok (.iload 5, 2) := by decide +kernel
theorem dX10_range_39 : decode cX10_range 39 = .ok (.iaload, 1) := by decide +kernel
theorem dX10_range_40 : decode cX10_range 40 = .ok (.putfield 263, 3) := by decide +kernel
theorem dX10_range_43 : decode cX10_range 43 = .ok (.lload_n 3, 1) := by decide +kernel
theorem dX10_range_44 : decode cX10_range 44 = .ok (.aload_n 0, 1) := by decide +kernel
theorem dX10_range_45 : decode cX10_range 45 = .ok (.getfield 95, 3) := by decide +kernel
theorem dX10_range_48 : decode cX10_range 48 = .ok (.iload 5, 2) := by decide +kernel
theorem dX10_range_50 : decode cX10_range 50 = .ok (.laload, 1) := by decide +kernel
theorem dX10_range_51 : decode cX10_range 51 = .ok (.ladd, 1) := by decide +kernel
theorem dX10_range_52 : decode cX10_range 52 = .ok (.lstore_n 3, 1) := by decide +kernel
theorem dX10_range_53 : decode cX10_range 53 = .ok (.aload_n 0, 1) := by decide +kernel
theorem dX10_range_54 : decode cX10_range 54 = .ok (.getfield 263, 3) := by decide +kernel
theorem dX10_range_57 : decode cX10_range 57 = .ok (.ifCond .ne 24, 3) := by decide +kernel
theorem dX10_range_60 : decode cX10_range 60 = .ok (.lload_n 3, 1) := by decide +kernel
theorem dX10_range_61 : decode cX10_range 61 = .ok (.ldc2_w 259, 3) := by decide +kernel
theorem dX10_range_64 : decode cX10_range 64 = .ok (.lcmp, 1) := by decide +kernel
theorem dX10_range_65 : decode cX10_range 65 = .ok (.ifCond .gt 11, 3) := by decide +kernel
theorem dX10_range_68 : decode cX10_range 68 = .ok (.lload_n 3, 1) := by decide +kernel
theorem dX10_range_69 : decode cX10_range 69 = .ok (.ldc2_w 261, 3) := by decide +kernel
theorem dX10_range_72 : decode cX10_range 72 = .ok (.lcmp, 1) := by decide +kernel
theorem dX10_range_73 : decode cX10_range 73 = .ok (.ifCond .ge 8, 3) := by decide +kernel
theorem dX10_range_76 : decode cX10_range 76 = .ok (.aload_n 0, 1) := by decide +kernel
theorem dX10_range_77 : decode cX10_range 77 = .ok (.iconst 3, 1) := by decide +kernel
theorem dX10_range_78 : decode cX10_range 78 = .ok (.putfield 263, 3) := by decide +kernel
theorem dX10_range_81 : decode cX10_range 81 = .ok (.iinc 5 1, 3) := by decide +kernel
theorem dX10_range_84 : decode cX10_range 84 = .ok (.goto (-79), 3) := by decide +kernel
theorem dX10_range_87 : decode cX10_range 87 = .ok (.aload_n 0, 1) := by decide +kernel
theorem dX10_range_88 : decode cX10_range 88 = .ok (.getfield 101, 3) := by decide +kernel
theorem dX10_range_91 : decode cX10_range 91 = .ok (.aload_n 0, 1) := by decide +kernel
theorem dX10_range_92 : decode cX10_range 92 = .ok (.getfield 266, 3) := by decide +kernel
theorem dX10_range_95 : decode cX10_range 95 = .ok (.lload_n 3, 1) := by decide +kernel
theorem dX10_range_96 : decode cX10_range 96 = .ok (.lastore, 1) := by decide +kernel
theorem dX10_range_97 : decode cX10_range 97 = .ok (.aload_n 0, 1) := by decide +kernel
theorem dX10_range_98 : decode cX10_range 98 = .ok (.dup, 1) := by decide +kernel
theorem dX10_range_99 : decode cX10_range 99 = .ok (.getfield 266, 3) := by decide +kernel
theorem dX10_range_102 : decode cX10_range 102 = .ok (.iconst 1, 1) := by decide +kernel
theorem dX10_range_103 : decode cX10_range 103 = .ok (.iadd, 1) := by decide +kernel
theorem dX10_range_104 : decode cX10_range 104 = .ok (.putfield 266, 3) := by decide +kernel
theorem dX10_range_107 : decode cX10_range 107 = .ok (.return_, 1) := by decide +kernel
theorem dX10_reckons_0 : decode cX10_reckons 0 = .ok (.aload_n 0, 1) := by decide +kernel
theorem dX10_reckons_1 : decode cX10_reckons 1 = .ok (.iconst 0, 1) := by decide +kernel
theorem dX10_reckons_2 : decode cX10_reckons 2 = .ok (.putfield 266, 3) := by decide +kernel
theorem dX10_reckons_5 : decode cX10_reckons 5 = .ok (.aload_n 0, 1) := by decide +kernel
theorem dX10_reckons_6 : decode cX10_reckons 6 = .ok (.iconst 0, 1) := by decide +kernel
theorem dX10_reckons_7 : decode cX10_reckons 7 = .ok (.putfield 263, 3) := by decide +kernel
theorem dX10_reckons_10 : decode cX10_reckons 10 = .ok (.iconst 0, 1) := by decide +kernel
theorem dX10_reckons_11 : decode cX10_reckons 11 = .ok (.istore_n 2, 1) := by decide +kernel
theorem dX10_reckons_12 : decode cX10_reckons 12 = .ok (.iload_n 2, 1) := by decide +kernel
theorem dX10_reckons_13 : decode cX10_reckons 13 = .ok (.aload_n 0, 1) := by decide +kernel
theorem dX10_reckons_14 : decode cX10_reckons 14 = .ok (.getfield 26, 3) := by decide +kernel
theorem dX10_reckons_17 : decode cX10_reckons 17 = .ok (.iload_n 1, 1) := by decide +kernel
theorem dX10_reckons_18 : decode cX10_reckons 18 = .ok (.iaload, 1) := by decide +kernel
theorem dX10_reckons_19 : decode cX10_reckons 19 = .ok (.if_icmp .ge 120, 3) := by decide +kernel
theorem dX10_reckons_22 : decode cX10_reckons 22 = .ok (.aload_n 0, 1) := by decide +kernel
theorem dX10_reckons_23 : decode cX10_reckons 23 = .ok (.getfield 263, 3) := by decide +kernel
theorem dX10_reckons_26 : decode cX10_reckons 26 = .ok (.ifCond .ne 113, 3) := by decide +kernel
theorem dX10_reckons_29 : decode cX10_reckons 29 = .ok (.aload_n 0, 1) := by decide +kernel
theorem dX10_reckons_30 : decode cX10_reckons 30 = .ok (.iload_n 1, 1) := by decide +kernel
theorem dX10_reckons_31 : decode cX10_reckons 31 = .ok (.iload_n 2, 1) := by decide +kernel
theorem dX10_reckons_32 : decode cX10_reckons 32 = .ok (.invokevirtual 229, 3) := by decide +kernel
theorem dX10_reckons_35 : decode cX10_reckons 35 = .ok (.istore_n 3, 1) := by decide +kernel
theorem dX10_reckons_36 : decode cX10_reckons 36 = .ok (.iload_n 3, 1) := by decide +kernel
theorem dX10_reckons_37 : decode cX10_reckons 37 = .ok (.ifCond .ne 17, 3) := by decide +kernel
theorem dX10_reckons_40 : decode cX10_reckons 40 = .ok (.aload_n 0, 1) := by decide +kernel
theorem dX10_reckons_41 : decode cX10_reckons 41 = .ok (.aload_n 0, 1) := by decide +kernel
theorem dX10_reckons_42 : decode cX10_reckons 42 = .ok (.iload_n 1, 1) := by decide +kernel
theorem dX10_reckons_43 : decode cX10_reckons 43 = .ok (.iload_n 2, 1) := by decide +kernel
theorem dX10_reckons_44 : decode cX10_reckons 44 = .ok (.invokevirtual 233, 3) := by decide +kernel
theorem dX10_reckons_47 : decode cX10_reckons 47 = .ok (.i2l, 1) := by decide +kernel
theorem dX10_reckons_48 : decode cX10_reckons 48 = .ok (.invokevirtual 269, 3) := by decide +kernel
theorem dX10_reckons_51 : decode cX10_reckons 51 = .ok (.goto 82, 3) := by decide +kernel
theorem dX10_reckons_54 : decode cX10_reckons 54 = .ok (.iload_n 3, 1) := by decide +kernel
theorem dX10_reckons_55 : decode cX10_reckons 55 = .ok (.iconst 1, 1) := by decide +kernel
theorem dX10_reckons_56 : decode cX10_reckons 56 = .ok (.if_icmp .ne 16, 3) := by decide +kernel
theorem dX10_reckons_59 : decode cX10_reckons 59 = .ok (.aload_n 0, 1) := by decide +kernel
theorem dX10_reckons_60 : decode cX10_reckons 60 = .ok (.aload_n 0, 1) := by decide +kernel
theorem dX10_reckons_61 : decode cX10_reckons 61 = .ok (.iload_n 1, 1) := by decide +kernel
theorem dX10_reckons_62 : decode cX10_reckons 62 = .ok (.iload_n 2, 1) := by decide +kernel
theorem dX10_reckons_63 : decode cX10_reckons 63 = .ok (.invokevirtual 233, 3) := by decide +kernel
theorem dX10_reckons_66 : decode cX10_reckons 66 = .ok (.invokevirtual 280, 3) := by decide +kernel
theorem dX10_reckons_69 : decode cX10_reckons 69 = .ok (.goto 64, 3) := by decide +kernel
theorem dX10_reckons_72 : decode cX10_reckons 72 = .ok (.iload_n 3, 1) := by decide +kernel
theorem dX10_reckons_73 : decode cX10_reckons 73 = .ok (.iconst 2, 1) := by decide +kernel
theorem dX10_reckons_74 : decode cX10_reckons 74 = .ok (.if_icmp .ne 22, 3) := by decide +kernel
theorem dX10_reckons_77 : decode cX10_reckons 77 = .ok (.aload_n 0, 1) := by decide +kernel
theorem dX10_reckons_78 : decode cX10_reckons 78 = .ok (.aload_n 0, 1) := by decide +kernel
theorem dX10_reckons_79 : decode cX10_reckons 79 = .ok (.iload_n 1, 1) := by decide +kernel
theorem dX10_reckons_80 : decode cX10_reckons 80 = .ok (.iload_n 2, 1) := by decide +kernel
theorem dX10_reckons_81 : decode cX10_reckons 81 = .ok (.invokevirtual 233, 3) := by decide +kernel
theorem dX10_reckons_84 : decode cX10_reckons 84 = .ok (.aload_n 0, 1) := by decide +kernel
theorem dX10_reckons_85 : decode cX10_reckons 85 = .ok (.iload_n 1, 1) := by decide +kernel
theorem dX10_reckons_86 : decode cX10_reckons 86 = .ok (.iload_n 2, 1) := by decide +kernel
theorem dX10_reckons_87 : decode cX10_reckons 87 = .ok (.invokevirtual 236, 3) := by decide +kernel
theorem dX10_reckons_90 : decode cX10_reckons 90 = .ok (.invokevirtual 283, 3) := by decide +kernel
theorem dX10_reckons_93 : decode cX10_reckons 93 = .ok (.goto 40, 3) := by decide +kernel
theorem dX10_reckons_96 : decode cX10_reckons 96 = .ok (.iload_n 3, 1) := by decide +kernel
theorem dX10_reckons_97 : decode cX10_reckons 97 = .ok (.iconst 3, 1) := by decide +kernel
theorem dX10_reckons_98 : decode cX10_reckons 98 = .ok (.if_icmp .ne 30, 3) := by decide +kernel
theorem dX10_reckons_101 : decode cX10_reckons 101 = .ok (.aload_n 0, 1) := by decide +kernel
theorem dX10_reckons_102 : decode cX10_reckons 102 = .ok (.dup, 1) := by decide +kernel
theorem dX10_reckons_103 : decode cX10_reckons 103 = .ok (.getfield 266, 3) := by decide +kernel
theorem dX10_reckons_106 : decode cX10_reckons 106 = .ok (.iconst 1, 1) := by decide +kernel
theorem dX10_reckons_107 : decode cX10_reckons 107 = .ok (.isub, 1) := by decide +kernel
theorem dX10_reckons_108 : decode cX10_reckons 108 = .ok (.putfield 266, 3) := by decide +kernel
theorem dX10_reckons_111 : decode cX10_reckons 111 = .ok (.aload_n 0, 1) := by decide +kernel
theorem dX10_reckons_112 : decode cX10_reckons 112 = .ok (.aload_n 0, 1) := by decide +kernel
theorem dX10_reckons_113 : decode cX10_reckons 113 = .ok (.getfield 101, 3) := by decide +kernel
theorem dX10_reckons_116 : decode cX10_reckons 116 = .ok (.aload_n 0, 1) := by decide +kernel
theorem dX10_reckons_117 : decode cX10_reckons 117 = .ok (.getfield 266, 3) := by decide +kernel
theorem dX10_reckons_120 : decode cX10_reckons 120 = .ok (.laload, 1) := by decide +kernel
theorem dX10_reckons_121 : decode cX10_reckons 121 = .ok (.lneg, 1) := by decide +kernel
theorem dX10_reckons_122 : decode cX10_reckons 122 = .ok (.invokevirtual 269, 3) := by decide +kernel
theorem dX10_reckons_125 : decode cX10_reckons 125 = .ok (.goto 8, 3) := by decide +kernel
theorem dX10_reckons_128 : decode cX10_reckons 128 = .ok (.aload_n 0, 1) := by decide +kernel
theorem dX10_reckons_129 : decode cX10_reckons 129 = .ok (.iload_n 3, 1) := by decide +kernel
theorem dX10_reckons_130 : decode cX10_reckons 130 = .ok (.invokevirtual 286, 3) := by decide +kernel
theorem dX10_reckons_133 : decode cX10_reckons 133 = .ok (.iinc 2 1, 3) := by decide +kernel
theorem dX10_reckons_136 : decode cX10_reckons 136 = .ok (.goto (-124), 3) := by decide +kernel
theorem dX10_reckons_139 : decode cX10_reckons 139 = .ok (.return_, 1) := by decide +kernel
theorem dX10_works_0 : decode cX10_works 0 = .ok (.iconst 0, 1) := by decide +kernel
theorem dX10_works_1 : decode cX10_works 1 = .ok (.istore 5, 2) := by decide +kernel
theorem dX10_works_3 : decode cX10_works 3 = .ok (.iload 5, 2) := by decide +kernel
theorem dX10_works_5 : decode cX10_works 5 = .ok (.aload_n 0, 1) := by decide +kernel
theorem dX10_works_6 : decode cX10_works 6 = .ok (.getfield 254, 3) := by decide +kernel
theorem dX10_works_9 : decode cX10_works 9 = .ok (.if_icmp .ge 210, 3) := by decide +kernel
theorem dX10_works_12 : decode cX10_works 12 = .ok (.aload_n 0, 1) := by decide +kernel
theorem dX10_works_13 : decode cX10_works 13 = .ok (.getfield 89, 3) := by decide +kernel
theorem dX10_works_16 : decode cX10_works 16 = .ok (.iload 5, 2) := by decide +kernel
theorem dX10_works_18 : decode cX10_works 18 = .ok (.iaload, 1) := by decide +kernel
theorem dX10_works_19 : decode cX10_works 19 = .ok (.istore 6, 2) := by decide +kernel
theorem dX10_works_21 : decode cX10_works 21 = .ok (.bipush 64, 2) := by decide +kernel
theorem dX10_works_23 : decode cX10_works 23 = .ok (.iload_n 1, 1) := by decide +kernel
theorem dX10_works_24 : decode cX10_works 24 = .ok (.imul, 1) := by decide +kernel
theorem dX10_works_25 : decode cX10_works 25 = .ok (.iload 6, 2) := by decide +kernel
theorem dX10_works_27 : decode cX10_works 27 = .ok (.iadd, 1) := by decide +kernel
theorem dX10_works_28 : decode cX10_works 28 = .ok (.istore 7, 2) := by decide +kernel
theorem dX10_works_30 : decode cX10_works 30 = .ok (.aload_n 0, 1) := by decide +kernel
theorem dX10_works_31 : decode cX10_works 31 = .ok (.getfield 98, 3) := by decide +kernel
theorem dX10_works_34 : decode cX10_works 34 = .ok (.iload 6, 2) := by decide +kernel
theorem dX10_works_36 : decode cX10_works 36 = .ok (.iconst 0, 1) := by decide +kernel
theorem dX10_works_37 : decode cX10_works 37 = .ok (.iastore, 1) := by decide +kernel
theorem dX10_works_38 : decode cX10_works 38 = .ok (.aload_n 0, 1) := by decide +kernel
theorem dX10_works_39 : decode cX10_works 39 = .ok (.getfield 95, 3) := by decide +kernel
theorem dX10_works_42 : decode cX10_works 42 = .ok (.iload 6, 2) := by decide +kernel
theorem dX10_works_44 : decode cX10_works 44 = .ok (.lconst 0, 1) := by decide +kernel
theorem dX10_works_45 : decode cX10_works 45 = .ok (.lastore, 1) := by decide +kernel
theorem dX10_works_46 : decode cX10_works 46 = .ok (.aload_n 0, 1) := by decide +kernel
theorem dX10_works_47 : decode cX10_works 47 = .ok (.getfield 48, 3) := by decide +kernel
theorem dX10_works_50 : decode cX10_works 50 = .ok (.iload 6, 2) := by decide +kernel
theorem dX10_works_52 : decode cX10_works 52 = .ok (.baload, 1) := by decide +kernel
theorem dX10_works_53 : decode cX10_works 53 = .ok (.ifCond .eq 26, 3) := by decide +kernel
theorem dX10_works_56 : decode cX10_works 56 = .ok (.aload_n 0, 1) := by decide +kernel
theorem dX10_works_57 : decode cX10_works 57 = .ok (.getfield 95, 3) := by decide +kernel
theorem dX10_works_60 : decode cX10_works 60 = .ok (.iload 6, 2) := by decide +kernel
theorem dX10_works_62 : decode cX10_works 62 = .ok (.aload_n 0, 1) := by decide +kernel
theorem dX10_works_63 : decode cX10_works 63 = .ok (.getfield 55, 3) := by decide +kernel
theorem dX10_works_66 : decode cX10_works 66 = .ok (.bipush 64, 2) := by decide +kernel
theorem dX10_works_68 : decode cX10_works 68 = .ok (.iload_n 3, 1) := by decide +kernel
theorem dX10_works_69 : decode cX10_works 69 = .ok (.imul, 1) := by decide +kernel
theorem dX10_works_70 : decode cX10_works 70 = .ok (.iload 6, 2) := by decide +kernel
theorem dX10_works_72 : decode cX10_works 72 = .ok (.iadd, 1) := by decide +kernel
theorem dX10_works_73 : decode cX10_works 73 = .ok (.iaload, 1) := by decide +kernel
theorem dX10_works_74 : decode cX10_works 74 = .ok (.i2l, 1) := by decide +kernel
theorem dX10_works_75 : decode cX10_works 75 = .ok (.lastore, 1) := by decide +kernel
theorem dX10_works_76 : decode cX10_works 76 = .ok (.goto 137, 3) := by decide +kernel
theorem dX10_works_79 : decode cX10_works 79 = .ok (.aload_n 0, 1) := by decide +kernel
theorem dX10_works_80 : decode cX10_works 80 = .ok (.iload 6, 2) := by decide +kernel
theorem dX10_works_82 : decode cX10_works 82 = .ok (.iload_n 2, 1) := by decide +kernel
theorem dX10_works_83 : decode cX10_works 83 = .ok (.iload 4, 2) := by decide +kernel
theorem dX10_works_85 : decode cX10_works 85 = .ok (.invokevirtual 246, 3) := by decide +kernel
theorem dX10_works_88 : decode cX10_works 88 = .ok (.ifCond .eq 44, 3) := by decide +kernel
theorem dX10_works_91 : decode cX10_works 91 = .ok (.aload_n 0, 1) := by decide +kernel
theorem dX10_works_92 : decode cX10_works 92 = .ok (.getfield 95, 3) := by decide +kernel
theorem dX10_works_95 : decode cX10_works 95 = .ok (.iload 6, 2) := by decide +kernel
theorem dX10_works_97 : decode cX10_works 97 = .ok (.aload_n 0, 1) := by decide +kernel
theorem dX10_works_98 : decode cX10_works 98 = .ok (.getfield 58, 3) := by decide +kernel
theorem dX10_works_101 : decode cX10_works 101 = .ok (.bipush 64, 2) := by decide +kernel
theorem dX10_works_103 : decode cX10_works 103 = .ok (.iload_n 3, 1) := by decide +kernel
theorem dX10_works_104 : decode cX10_works 104 = .ok (.imul, 1) := by decide +kernel
theorem dX10_works_105 : decode cX10_works 105 = .ok (.iload 6, 2) := by decide +kernel
theorem dX10_works_107 : decode cX10_works 107 = .ok (.iadd, 1) := by decide +kernel
theorem dX10_works_108 : decode cX10_works 108 = .ok (.laload, 1) := by decide +kernel
theorem dX10_works_109 : decode cX10_works 109 = .ok (.lastore, 1) := by decide +kernel
theorem dX10_works_110 : decode cX10_works 110 = .ok (.aload_n 0, 1) := by decide +kernel
theorem dX10_works_111 : decode cX10_works 111 = .ok (.getfield 98, 3) := by decide +kernel
theorem dX10_works_114 : decode cX10_works 114 = .ok (.iload 6, 2) := by decide +kernel
theorem dX10_works_116 : decode cX10_works 116 = .ok (.aload_n 0, 1) := by decide +kernel
theorem dX10_works_117 : decode cX10_works 117 = .ok (.getfield 61, 3) := by decide +kernel
theorem dX10_works_120 : decode cX10_works 120 = .ok (.bipush 64, 2) := by decide +kernel
theorem dX10_works_122 : decode cX10_works 122 = .ok (.iload_n 3, 1) := by decide +kernel
theorem dX10_works_123 : decode cX10_works 123 = .ok (.imul, 1) := by decide +kernel
theorem dX10_works_124 : decode cX10_works 124 = .ok (.iload 6, 2) := by decide +kernel
theorem dX10_works_126 : decode cX10_works 126 = .ok (.iadd, 1) := by decide +kernel
theorem dX10_works_127 : decode cX10_works 127 = .ok (.iaload, 1) := by decide +kernel
theorem dX10_works_128 : decode cX10_works 128 = .ok (.iastore, 1) := by decide +kernel
theorem dX10_works_129 : decode cX10_works 129 = .ok (.goto 84, 3) := by decide +kernel
theorem dX10_works_132 : decode cX10_works 132 = .ok (.aload_n 0, 1) := by decide +kernel
theorem dX10_works_133 : decode cX10_works 133 = .ok (.getfield 13, 3) := by decide +kernel
theorem dX10_works_136 : decode cX10_works 136 = .ok (.iload 7, 2) := by decide +kernel
theorem dX10_works_138 : decode cX10_works 138 = .ok (.iaload, 1) := by decide +kernel
theorem dX10_works_139 : decode cX10_works 139 = .ok (.iconst 1, 1) := by decide +kernel
theorem dX10_works_140 : decode cX10_works 140 = .ok (.if_icmp .ne 21, 3) := by decide +kernel
theorem dX10_works_143 : decode cX10_works 143 = .ok (.aload_n 0, 1) := by decide +kernel
theorem dX10_works_144 : decode cX10_works 144 = .ok (.getfield 95, 3) := by decide +kernel
theorem dX10_works_147 : decode cX10_works 147 = .ok (.iload 6, 2) := by decide +kernel
theorem dX10_works_149 : decode cX10_works 149 = .ok (.aload_n 0, 1) := by decide +kernel
theorem dX10_works_150 : decode cX10_works 150 = .ok (.getfield 17, 3) := by decide +kernel
theorem dX10_works_153 : decode cX10_works 153 = .ok (.iload 7, 2) := by decide +kernel
theorem dX10_works_155 : decode cX10_works 155 = .ok (.iaload, 1) := by decide +kernel
theorem dX10_works_156 : decode cX10_works 156 = .ok (.i2l, 1) := by decide +kernel
theorem dX10_works_157 : decode cX10_works 157 = .ok (.lastore, 1) := by decide +kernel
theorem dX10_works_158 : decode cX10_works 158 = .ok (.goto 55, 3) := by decide +kernel
theorem dX10_works_161 : decode cX10_works 161 = .ok (.aload_n 0, 1) := by decide +kernel
theorem dX10_works_162 : decode cX10_works 162 = .ok (.getfield 13, 3) := by decide +kernel
theorem dX10_works_165 : decode cX10_works 165 = .ok (.iload 7, 2) := by decide +kernel
theorem dX10_works_167 : decode cX10_works 167 = .ok (.iaload, 1) := by decide +kernel
theorem dX10_works_168 : decode cX10_works 168 = .ok (.iconst 2, 1) := by decide +kernel
theorem dX10_works_169 : decode cX10_works 169 = .ok (.if_icmp .ne 44, 3) := by decide +kernel
theorem dX10_works_172 : decode cX10_works 172 = .ok (.aload_n 0, 1) := by decide +kernel
theorem dX10_works_173 : decode cX10_works 173 = .ok (.iload 7, 2) := by decide +kernel
theorem dX10_works_175 : decode cX10_works 175 = .ok (.invokevirtual 289, 3) := by decide +kernel
theorem dX10_works_178 : decode cX10_works 178 = .ok (.aload_n 0, 1) := by decide +kernel
theorem dX10_works_179 : decode cX10_works 179 = .ok (.getfield 98, 3) := by decide +kernel
theorem dX10_works_182 : decode cX10_works 182 = .ok (.iload 6, 2) := by decide +kernel
theorem dX10_works_184 : decode cX10_works 184 = .ok (.aload_n 0, 1) := by decide +kernel
theorem dX10_works_185 : decode cX10_works 185 = .ok (.getfield 263, 3) := by decide +kernel
theorem dX10_works_188 : decode cX10_works 188 = .ok (.iastore, 1) := by decide +kernel
theorem dX10_works_189 : decode cX10_works 189 = .ok (.aload_n 0, 1) := by decide +kernel
theorem dX10_works_190 : decode cX10_works 190 = .ok (.getfield 95, 3) := by decide +kernel
theorem dX10_works_193 : decode cX10_works 193 = .ok (.iload 6, 2) := by decide +kernel
theorem dX10_works_195 : decode cX10_works 195 = .ok (.aload_n 0, 1) := by decide +kernel
theorem dX10_works_196 : decode cX10_works 196 = .ok (.getfield 263, 3) := by decide +kernel
theorem dX10_works_199 : decode cX10_works 199 = .ok (.ifCond .ne 12, 3) := by decide +kernel
theorem dX10_works_202 : decode cX10_works 202 = .ok (.aload_n 0, 1) := by decide +kernel
theorem dX10_works_203 : decode cX10_works 203 = .ok (.getfield 101, 3) := by decide +kernel
theorem dX10_works_206 : decode cX10_works 206 = .ok (.iconst 0, 1) := by decide +kernel
theorem dX10_works_207 : decode cX10_works 207 = .ok (.laload, 1) := by decide +kernel
theorem dX10_works_208 : decode cX10_works 208 = .ok (.goto 4, 3) := by decide +kernel
theorem dX10_works_211 : decode cX10_works 211 = .ok (.lconst 0, 1) := by decide +kernel
theorem dX10_works_212 : decode cX10_works 212 = .ok (.lastore, 1) := by decide +kernel
theorem dX10_works_213 : decode cX10_works 213 = .ok (.iinc 5 1, 3) := by decide +kernel
theorem dX10_works_216 : decode cX10_works 216 = .ok (.goto (-213), 3) := by decide +kernel
theorem dX10_works_219 : decode cX10_works 219 = .ok (.return_, 1) := by decide +kernel
theorem dX10_tells_0 : decode cX10_tells 0 = .ok (.iload 4, 2) := by decide +kernel
theorem dX10_tells_2 : decode cX10_tells 2 = .ok (.ifCond .eq 7, 3) := by decide +kernel
theorem dX10_tells_5 : decode cX10_tells 5 = .ok (.aload_n 0, 1) := by decide +kernel
theorem dX10_tells_6 : decode cX10_tells 6 = .ok (.invokevirtual 292, 3) := by decide +kernel
theorem dX10_tells_9 : decode cX10_tells 9 = .ok (.aload_n 0, 1) := by decide +kernel
theorem dX10_tells_10 : decode cX10_tells 10 = .ok (.iload_n 1, 1) := by decide +kernel
theorem dX10_tells_11 : decode cX10_tells 11 = .ok (.iload_n 2, 1) := by decide +kernel
theorem dX10_tells_12 : decode cX10_tells 12 = .ok (.iload 4, 2) := by decide +kernel
theorem dX10_tells_14 : decode cX10_tells 14 = .ok (.invokevirtual 295, 3) := by decide +kernel
theorem dX10_tells_17 : decode cX10_tells 17 = .ok (.istore 5, 2) := by decide +kernel
theorem dX10_tells_19 : decode cX10_tells 19 = .ok (.iload 5, 2) := by decide +kernel
theorem dX10_tells_21 : decode cX10_tells 21 = .ok (.ifCond .eq 12, 3) := by decide +kernel
theorem dX10_tells_24 : decode cX10_tells 24 = .ok (.aload_n 0, 1) := by decide +kernel
theorem dX10_tells_25 : decode cX10_tells 25 = .ok (.iload_n 1, 1) := by decide +kernel
theorem dX10_tells_26 : decode cX10_tells 26 = .ok (.iload_n 2, 1) := by decide +kernel
theorem dX10_tells_27 : decode cX10_tells 27 = .ok (.iload_n 3, 1) := by decide +kernel
theorem dX10_tells_28 : decode cX10_tells 28 = .ok (.iload 4, 2) := by decide +kernel
theorem dX10_tells_30 : decode cX10_tells 30 = .ok (.invokevirtual 298, 3) := by decide +kernel
theorem dX10_tells_33 : decode cX10_tells 33 = .ok (.aload_n 0, 1) := by decide +kernel
theorem dX10_tells_34 : decode cX10_tells 34 = .ok (.iload 5, 2) := by decide +kernel
theorem dX10_tells_36 : decode cX10_tells 36 = .ok (.ifCond .eq 12, 3) := by decide +kernel
theorem dX10_tells_39 : decode cX10_tells 39 = .ok (.aload_n 0, 1) := by decide +kernel
theorem dX10_tells_40 : decode cX10_tells 40 = .ok (.getfield 98, 3) := by decide +kernel
theorem dX10_tells_43 : decode cX10_tells 43 = .ok (.iload_n 2, 1) := by decide +kernel
theorem dX10_tells_44 : decode cX10_tells 44 = .ok (.iaload, 1) := by decide +kernel
theorem dX10_tells_45 : decode cX10_tells 45 = .ok (.goto 4, 3) := by decide +kernel
theorem dX10_tells_48 : decode cX10_tells 48 = .ok (.iconst 1, 1) := by decide +kernel
theorem dX10_tells_49 : decode cX10_tells 49 = .ok (.putfield 302, 3) := by decide +kernel
theorem dX10_tells_52 : decode cX10_tells 52 = .ok (.aload_n 0, 1) := by decide +kernel
theorem dX10_tells_53 : decode cX10_tells 53 = .ok (.iload 5, 2) := by decide +kernel
theorem dX10_tells_55 : decode cX10_tells 55 = .ok (.ifCond .eq 12, 3) := by decide +kernel
theorem dX10_tells_58 : decode cX10_tells 58 = .ok (.aload_n 0, 1) := by decide +kernel
theorem dX10_tells_59 : decode cX10_tells 59 = .ok (.getfield 95, 3) := by decide +kernel
theorem dX10_tells_62 : decode cX10_tells 62 = .ok (.iload_n 2, 1) := by decide +kernel
theorem dX10_tells_63 : decode cX10_tells 63 = .ok (.laload, 1) := by decide +kernel
theorem dX10_tells_64 : decode cX10_tells 64 = .ok (.goto 4, 3) := by decide +kernel
theorem dX10_tells_67 : decode cX10_tells 67 = .ok (.lconst 0, 1) := by decide +kernel
theorem dX10_tells_68 : decode cX10_tells 68 = .ok (.putfield 305, 3) := by decide +kernel
theorem dX10_tells_71 : decode cX10_tells 71 = .ok (.return_, 1) := by decide +kernel
theorem dX10_tasks_0 : decode cX10_tasks 0 = .ok (.aload_n 0, 1) := by decide +kernel
theorem dX10_tasks_1 : decode cX10_tasks 1 = .ok (.getfield 122, 3) := by decide +kernel
theorem dX10_tasks_4 : decode cX10_tasks 4 = .ok (.ifCond .eq 4, 3) := by decide +kernel
theorem dX10_tasks_7 : decode cX10_tasks 7 = .ok (.return_, 1) := by decide +kernel
theorem dX10_tasks_8 : decode cX10_tasks 8 = .ok (.aload_n 0, 1) := by decide +kernel
theorem dX10_tasks_9 : decode cX10_tasks 9 = .ok (.iconst 1, 1) := by decide +kernel
theorem dX10_tasks_10 : decode cX10_tasks 10 = .ok (.putfield 122, 3) := by decide +kernel
theorem dX10_tasks_13 : decode cX10_tasks 13 = .ok (.iconst 0, 1) := by decide +kernel
theorem dX10_tasks_14 : decode cX10_tasks 14 = .ok (.istore_n 1, 1) := by decide +kernel
theorem dX10_tasks_15 : decode cX10_tasks 15 = .ok (.iload_n 1, 1) := by decide +kernel
theorem dX10_tasks_16 : decode cX10_tasks 16 = .ok (.bipush 64, 2) := by decide +kernel
theorem dX10_tasks_18 : decode cX10_tasks 18 = .ok (.if_icmp .ge 106, 3) := by decide +kernel
theorem dX10_tasks_21 : decode cX10_tasks 21 = .ok (.aload_n 0, 1) := by decide +kernel
theorem dX10_tasks_22 : decode cX10_tasks 22 = .ok (.iload_n 1, 1) := by decide +kernel
theorem dX10_tasks_23 : decode cX10_tasks 23 = .ok (.invokevirtual 201, 3) := by decide +kernel
theorem dX10_tasks_26 : decode cX10_tasks 26 = .ok (.ifCond .ne 6, 3) := by decide +kernel
theorem dX10_tasks_29 : decode cX10_tasks 29 = .ok (.goto 89, 3) := by decide +kernel
theorem dX10_tasks_32 : decode cX10_tasks 32 = .ok (.aload_n 0, 1) := by decide +kernel
theorem dX10_tasks_33 : decode cX10_tasks 33 = .ok (.iconst 0, 1) := by decide +kernel
theorem dX10_tasks_34 : decode cX10_tasks 34 = .ok (.iload_n 1, 1) := by decide +kernel
theorem dX10_tasks_35 : decode cX10_tasks 35 = .ok (.iconst 0, 1) := by decide +kernel
theorem dX10_tasks_36 : decode cX10_tasks 36 = .ok (.invokevirtual 295, 3) := by decide +kernel
theorem dX10_tasks_39 : decode cX10_tasks 39 = .ok (.istore_n 2, 1) := by decide +kernel
theorem dX10_tasks_40 : decode cX10_tasks 40 = .ok (.iconst 0, 1) := by decide +kernel
theorem dX10_tasks_41 : decode cX10_tasks 41 = .ok (.istore_n 3, 1) := by decide +kernel
theorem dX10_tasks_42 : decode cX10_tasks 42 = .ok (.iload_n 3, 1) := by decide +kernel
theorem dX10_tasks_43 : decode cX10_tasks 43 = .ok (.aload_n 0, 1) := by decide +kernel
theorem dX10_tasks_44 : decode cX10_tasks 44 = .ok (.getfield 210, 3) := by decide +kernel
theorem dX10_tasks_47 : decode cX10_tasks 47 = .ok (.if_icmp .ge 71, 3) := by decide +kernel
theorem dX10_tasks_50 : decode cX10_tasks 50 = .ok (.iload_n 2, 1) := by decide +kernel
theorem dX10_tasks_51 : decode cX10_tasks 51 = .ok (.ifCond .eq 11, 3) := by decide +kernel
theorem dX10_tasks_54 : decode cX10_tasks 54 = .ok (.aload_n 0, 1) := by decide +kernel
theorem dX10_tasks_55 : decode cX10_tasks 55 = .ok (.iconst 0, 1) := by decide +kernel
theorem dX10_tasks_56 : decode cX10_tasks 56 = .ok (.iload_n 1, 1) := by decide +kernel
theorem dX10_tasks_57 : decode cX10_tasks 57 = .ok (.iload_n 3, 1) := by decide +kernel
theorem dX10_tasks_58 : decode cX10_tasks 58 = .ok (.iconst 0, 1) := by decide +kernel
theorem dX10_tasks_59 : decode cX10_tasks 59 = .ok (.invokevirtual 298, 3) := by decide +kernel
theorem dX10_tasks_62 : decode cX10_tasks 62 = .ok (.aload_n 0, 1) := by decide +kernel
theorem dX10_tasks_63 : decode cX10_tasks 63 = .ok (.getfield 61, 3) := by decide +kernel
theorem dX10_tasks_66 : decode cX10_tasks 66 = .ok (.bipush 64, 2) := by decide +kernel
theorem dX10_tasks_68 : decode cX10_tasks 68 = .ok (.iload_n 3, 1) := by decide +kernel
theorem dX10_tasks_69 : decode cX10_tasks 69 = .ok (.imul, 1) := by decide +kernel
theorem dX10_tasks_70 : decode cX10_tasks 70 = .ok (.iload_n 1, 1) := by decide +kernel
theorem dX10_tasks_71 : decode cX10_tasks 71 = .ok (.iadd, 1) := by decide +kernel
theorem dX10_tasks_72 : decode cX10_tasks 72 = .ok (.iload_n 2, 1) := by decide +kernel
theorem dX10_tasks_73 : decode cX10_tasks 73 = .ok (.ifCond .eq 12, 3) := by decide +kernel
theorem dX10_tasks_76 : decode cX10_tasks 76 = .ok (.aload_n 0, 1) := by decide +kernel
theorem dX10_tasks_77 : decode cX10_tasks 77 = .ok (.getfield 98, 3) := by decide +kernel
theorem dX10_tasks_80 : decode cX10_tasks 80 = .ok (.iload_n 1, 1) := by decide +kernel
theorem dX10_tasks_81 : decode cX10_tasks 81 = .ok (.iaload, 1) := by decide +kernel
theorem dX10_tasks_82 : decode cX10_tasks 82 = .ok (.goto 4, 3) := by decide +kernel
theorem dX10_tasks_85 : decode cX10_tasks 85 = .ok (.iconst 1, 1) := by decide +kernel
theorem dX10_tasks_86 : decode cX10_tasks 86 = .ok (.iastore, 1) := by decide +kernel
theorem dX10_tasks_87 : decode cX10_tasks 87 = .ok (.aload_n 0, 1) := by decide +kernel
theorem dX10_tasks_88 : decode cX10_tasks 88 = .ok (.getfield 58, 3) := by decide +kernel
theorem dX10_tasks_91 : decode cX10_tasks 91 = .ok (.bipush 64, 2) := by decide +kernel
theorem dX10_tasks_93 : decode cX10_tasks 93 = .ok (.iload_n 3, 1) := by decide +kernel
theorem dX10_tasks_94 : decode cX10_tasks 94 = .ok (.imul, 1) := by decide +kernel
theorem dX10_tasks_95 : decode cX10_tasks 95 = .ok (.iload_n 1, 1) := by decide +kernel
theorem dX10_tasks_96 : decode cX10_tasks 96 = .ok (.iadd, 1) := by decide +kernel
theorem dX10_tasks_97 : decode cX10_tasks 97 = .ok (.iload_n 2, 1) := by decide +kernel
theorem dX10_tasks_98 : decode cX10_tasks 98 = .ok (.ifCond .eq 12, 3) := by decide +kernel
theorem dX10_tasks_101 : decode cX10_tasks 101 = .ok (.aload_n 0, 1) := by decide +kernel
theorem dX10_tasks_102 : decode cX10_tasks 102 = .ok (.getfield 95, 3) := by decide +kernel
theorem dX10_tasks_105 : decode cX10_tasks 105 = .ok (.iload_n 1, 1) := by decide +kernel
theorem dX10_tasks_106 : decode cX10_tasks 106 = .ok (.laload, 1) := by decide +kernel
theorem dX10_tasks_107 : decode cX10_tasks 107 = .ok (.goto 4, 3) := by decide +kernel
theorem dX10_tasks_110 : decode cX10_tasks 110 = .ok (.lconst 0, 1) := by decide +kernel
theorem dX10_tasks_111 : decode cX10_tasks 111 = .ok (.lastore, 1) := by decide +kernel
theorem dX10_tasks_112 : decode cX10_tasks 112 = .ok (.iinc 3 1, 3) := by decide +kernel
theorem dX10_tasks_115 : decode cX10_tasks 115 = .ok (.goto (-73), 3) := by decide +kernel
theorem dX10_tasks_118 : decode cX10_tasks 118 = .ok (.iinc 1 1, 3) := by decide +kernel
theorem dX10_tasks_121 : decode cX10_tasks 121 = .ok (.goto (-106), 3) := by decide +kernel
theorem dX10_tasks_124 : decode cX10_tasks 124 = .ok (.return_, 1) := by decide +kernel
theorem dX10_is_0 : decode cX10_is 0 = .ok (.iload_n 1, 1) := by decide +kernel
theorem dX10_is_1 : decode cX10_is 1 = .ok (.invokestatic 115, 3) := by decide +kernel
theorem dX10_is_4 : decode cX10_is 4 = .ok (.ifCond .eq 28, 3) := by decide +kernel
theorem dX10_is_7 : decode cX10_is 7 = .ok (.iload_n 2, 1) := by decide +kernel
theorem dX10_is_8 : decode cX10_is 8 = .ok (.invokestatic 119, 3) := by decide +kernel
theorem dX10_is_11 : decode cX10_is 11 = .ok (.ifCond .eq 21, 3) := by decide +kernel
theorem dX10_is_14 : decode cX10_is 14 = .ok (.iload_n 3, 1) := by decide +kernel
theorem dX10_is_15 : decode cX10_is 15 = .ok (.iconst 0, 1) := by decide +kernel
theorem dX10_is_16 : decode cX10_is 16 = .ok (.aload_n 0, 1) := by decide +kernel
theorem dX10_is_17 : decode cX10_is 17 = .ok (.getfield 210, 3) := by decide +kernel
theorem dX10_is_20 : decode cX10_is 20 = .ok (.iconst 1, 1) := by decide +kernel
theorem dX10_is_21 : decode cX10_is 21 = .ok (.isub, 1) := by decide +kernel
theorem dX10_is_22 : decode cX10_is 22 = .ok (.invokestatic 104, 3) := by decide +kernel
theorem dX10_is_25 : decode cX10_is 25 = .ok (.ifCond .eq 7, 3) := by decide +kernel
theorem dX10_is_28 : decode cX10_is 28 = .ok (.iconst 1, 1) := by decide +kernel
theorem dX10_is_29 : decode cX10_is 29 = .ok (.goto 4, 3) := by decide +kernel
theorem dX10_is_32 : decode cX10_is 32 = .ok (.iconst 0, 1) := by decide +kernel
theorem dX10_is_33 : decode cX10_is 33 = .ok (.ireturn, 1) := by decide +kernel
theorem dX10_value_0 : decode cX10_value 0 = .ok (.aload_n 0, 1) := by decide +kernel
theorem dX10_value_1 : decode cX10_value 1 = .ok (.iload_n 1, 1) := by decide +kernel
theorem dX10_value_2 : decode cX10_value 2 = .ok (.iload_n 2, 1) := by decide +kernel
theorem dX10_value_3 : decode cX10_value 3 = .ok (.iload_n 3, 1) := by decide +kernel
theorem dX10_value_4 : decode cX10_value 4 = .ok (.invokevirtual 309, 3) := by decide +kernel
theorem dX10_value_7 : decode cX10_value 7 = .ok (.ifCond .ne 7, 3) := by decide +kernel
theorem dX10_value_10 : decode cX10_value 10 = .ok (.ldc2_w 257, 3) := by decide +kernel
theorem dX10_value_13 : decode cX10_value 13 = .ok (.lreturn, 1) := by decide +kernel
theorem dX10_value_14 : decode cX10_value 14 = .ok (.aload_n 0, 1) := by decide +kernel
theorem dX10_value_15 : decode cX10_value 15 = .ok (.iload_n 1, 1) := by decide +kernel
theorem dX10_value_16 : decode cX10_value 16 = .ok (.iload_n 2, 1) := by decide +kernel
theorem dX10_value_17 : decode cX10_value 17 = .ok (.iload_n 3, 1) := by decide +kernel
theorem dX10_value_18 : decode cX10_value 18 = .ok (.iconst 0, 1) := by decide +kernel
theorem dX10_value_19 : decode cX10_value 19 = .ok (.invokevirtual 312, 3) := by decide +kernel
theorem dX10_value_22 : decode cX10_value 22 = .ok (.aload_n 0, 1) := by decide +kernel
theorem dX10_value_23 : decode cX10_value 23 = .ok (.getfield 305, 3) := by decide +kernel
theorem dX10_value_26 : decode cX10_value 26 = .ok (.lreturn, 1) := by decide +kernel
theorem dX10_error_0 : decode cX10_error 0 = .ok (.aload_n 0, 1) := by decide +kernel
theorem dX10_error_1 : decode cX10_error 1 = .ok (.iload_n 1, 1) := by decide +kernel
theorem dX10_error_2 : decode cX10_error 2 = .ok (.iload_n 2, 1) := by decide +kernel
theorem dX10_error_3 : decode cX10_error 3 = .ok (.iload_n 3, 1) := by decide +kernel
theorem dX10_error_4 : decode cX10_error 4 = .ok (.invokevirtual 309, 3) := by decide +kernel
theorem dX10_error_7 : decode cX10_error 7 = .ok (.ifCond .ne 5, 3) := by decide +kernel
theorem dX10_error_10 : decode cX10_error 10 = .ok (.iconst (-1), 1) := by decide +kernel
theorem dX10_error_11 : decode cX10_error 11 = .ok (.ireturn, 1) := by decide +kernel
theorem dX10_error_12 : decode cX10_error 12 = .ok (.aload_n 0, 1) := by decide +kernel
theorem dX10_error_13 : decode cX10_error 13 = .ok (.iload_n 1, 1) := by decide +kernel
theorem dX10_error_14 : decode cX10_error 14 = .ok (.iload_n 2, 1) := by decide +kernel
theorem dX10_error_15 : decode cX10_error 15 = .ok (.iload_n 3, 1) := by decide +kernel
theorem dX10_error_16 : decode cX10_error 16 = .ok (.iconst 0, 1) := by decide +kernel
theorem dX10_error_17 : decode cX10_error 17 = .ok (.invokevirtual 312, 3) := by decide +kernel
theorem dX10_error_20 : decode cX10_error 20 = .ok (.aload_n 0, 1) := by decide +kernel
theorem dX10_error_21 : decode cX10_error 21 = .ok (.getfield 302, 3) := by decide +kernel
theorem dX10_error_24 : decode cX10_error 24 = .ok (.ireturn, 1) := by decide +kernel
theorem dX10_right_0 : decode cX10_right 0 = .ok (.aload_n 0, 1) := by decide +kernel
theorem dX10_right_1 : decode cX10_right 1 = .ok (.iload_n 1, 1) := by decide +kernel
theorem dX10_right_2 : decode cX10_right 2 = .ok (.iload_n 2, 1) := by decide +kernel
theorem dX10_right_3 : decode cX10_right 3 = .ok (.iload_n 3, 1) := by decide +kernel
theorem dX10_right_4 : decode cX10_right 4 = .ok (.invokevirtual 309, 3) := by decide +kernel
theorem dX10_right_7 : decode cX10_right 7 = .ok (.ifCond .ne 7, 3) := by decide +kernel
theorem dX10_right_10 : decode cX10_right 10 = .ok (.ldc2_w 257, 3) := by decide +kernel
theorem dX10_right_13 : decode cX10_right 13 = .ok (.lreturn, 1) := by decide +kernel
theorem dX10_right_14 : decode cX10_right 14 = .ok (.aload_n 0, 1) := by decide +kernel
theorem dX10_right_15 : decode cX10_right 15 = .ok (.iload_n 1, 1) := by decide +kernel
theorem dX10_right_16 : decode cX10_right 16 = .ok (.iload_n 2, 1) := by decide +kernel
theorem dX10_right_17 : decode cX10_right 17 = .ok (.iload_n 3, 1) := by decide +kernel
theorem dX10_right_18 : decode cX10_right 18 = .ok (.iconst 1, 1) := by decide +kernel
theorem dX10_right_19 : decode cX10_right 19 = .ok (.invokevirtual 312, 3) := by decide +kernel
theorem dX10_right_22 : decode cX10_right 22 = .ok (.aload_n 0, 1) := by decide +kernel
theorem dX10_right_23 : decode cX10_right 23 = .ok (.getfield 305, 3) := by decide +kernel
theorem dX10_right_26 : decode cX10_right 26 = .ok (.lreturn, 1) := by decide +kernel
theorem dX10_rightError_0 : decode cX10_rightError 0 = .ok (.aload_n 0, 1) := by decide +kernel
theorem dX10_rightError_1 : decode cX10_rightError 1 = .ok (.iload_n 1, 1) := by decide +kernel
theorem dX10_rightError_2 : decode cX10_rightError 2 = .ok (.iload_n 2, 1) := by decide +kernel
theorem dX10_rightError_3 : decode cX10_rightError 3 = .ok (.iload_n 3, 1) := by decide +kernel
theorem dX10_rightError_4 : decode cX10_rightError 4 = .ok (.invokevirtual 309, 3) := by decide +kernel
theorem dX10_rightError_7 : decode cX10_rightError 7 = .ok (.ifCond .ne 5, 3) := by decide +kernel
theorem dX10_rightError_10 : decode cX10_rightError 10 = .ok (.iconst (-1), 1) := by decide +kernel
theorem dX10_rightError_11 : decode cX10_rightError 11 = .ok (.ireturn, 1) := by decide +kernel
theorem dX10_rightError_12 : decode cX10_rightError 12 = .ok (.aload_n 0, 1) := by decide +kernel
theorem dX10_rightError_13 : decode cX10_rightError 13 = .ok (.iload_n 1, 1) := by decide +kernel
theorem dX10_rightError_14 : decode cX10_rightError 14 = .ok (.iload_n 2, 1) := by decide +kernel
theorem dX10_rightError_15 : decode cX10_rightError 15 = .ok (.iload_n 3, 1) := by decide +kernel
theorem dX10_rightError_16 : decode cX10_rightError 16 = .ok (.iconst 1, 1) := by decide +kernel
theorem dX10_rightError_17 : decode cX10_rightError 17 = .ok (.invokevirtual 312, 3) := by decide +kernel
theorem dX10_rightError_20 : decode cX10_rightError 20 = .ok (.aload_n 0, 1) := by decide +kernel
theorem dX10_rightError_21 : decode cX10_rightError 21 = .ok (.getfield 302, 3) := by decide +kernel
theorem dX10_rightError_24 : decode cX10_rightError 24 = .ok (.ireturn, 1) := by decide +kernel
theorem dX10_isAlike_0 : decode cX10_isAlike 0 = .ok (.aload_n 0, 1) := by decide +kernel
theorem dX10_isAlike_1 : decode cX10_isAlike 1 = .ok (.invokevirtual 292, 3) := by decide +kernel
theorem dX10_isAlike_4 : decode cX10_isAlike 4 = .ok (.aload_n 0, 1) := by decide +kernel
theorem dX10_isAlike_5 : decode cX10_isAlike 5 = .ok (.iload_n 1, 1) := by decide +kernel
theorem dX10_isAlike_6 : decode cX10_isAlike 6 = .ok (.iload_n 2, 1) := by decide +kernel
theorem dX10_isAlike_7 : decode cX10_isAlike 7 = .ok (.iload_n 3, 1) := by decide +kernel
theorem dX10_isAlike_8 : decode cX10_isAlike 8 = .ok (.invokevirtual 295, 3) := by decide +kernel
theorem dX10_isAlike_11 : decode cX10_isAlike 11 = .ok (.istore 4, 2) := by decide +kernel
theorem dX10_isAlike_13 : decode cX10_isAlike 13 = .ok (.iconst 0, 1) := by decide +kernel
theorem dX10_isAlike_14 : decode cX10_isAlike 14 = .ok (.istore 5, 2) := by decide +kernel
theorem dX10_isAlike_16 : decode cX10_isAlike 16 = .ok (.iload 5, 2) := by decide +kernel
theorem dX10_isAlike_18 : decode cX10_isAlike 18 = .ok (.aload_n 0, 1) := by decide +kernel
theorem dX10_isAlike_19 : decode cX10_isAlike 19 = .ok (.getfield 210, 3) := by decide +kernel
theorem dX10_isAlike_22 : decode cX10_isAlike 22 = .ok (.if_icmp .ge 86, 3) := by decide +kernel
theorem dX10_isAlike_25 : decode cX10_isAlike 25 = .ok (.iload 4, 2) := by decide +kernel
theorem dX10_isAlike_27 : decode cX10_isAlike 27 = .ok (.ifCond .eq 12, 3) := by decide +kernel
theorem dX10_isAlike_30 : decode cX10_isAlike 30 = .ok (.aload_n 0, 1) := by decide +kernel
theorem dX10_isAlike_31 : decode cX10_isAlike 31 = .ok (.iload_n 1, 1) := by decide +kernel
theorem dX10_isAlike_32 : decode cX10_isAlike 32 = .ok (.iload_n 2, 1) := by decide +kernel
theorem dX10_isAlike_33 : decode cX10_isAlike 33 = .ok (.iload 5, 2) := by decide +kernel
theorem dX10_isAlike_35 : decode cX10_isAlike 35 = .ok (.iload_n 3, 1) := by decide +kernel
theorem dX10_isAlike_36 : decode cX10_isAlike 36 = .ok (.invokevirtual 298, 3) := by decide +kernel
theorem dX10_isAlike_39 : decode cX10_isAlike 39 = .ok (.iload 4, 2) := by decide +kernel
theorem dX10_isAlike_41 : decode cX10_isAlike 41 = .ok (.ifCond .eq 12, 3) := by decide +kernel
theorem dX10_isAlike_44 : decode cX10_isAlike 44 = .ok (.aload_n 0, 1) := by decide +kernel
theorem dX10_isAlike_45 : decode cX10_isAlike 45 = .ok (.getfield 98, 3) := by decide +kernel
theorem dX10_isAlike_48 : decode cX10_isAlike 48 = .ok (.iload_n 2, 1) := by decide +kernel
theorem dX10_isAlike_49 : decode cX10_isAlike 49 = .ok (.iaload, 1) := by decide +kernel
theorem dX10_isAlike_50 : decode cX10_isAlike 50 = .ok (.goto 4, 3) := by decide +kernel
theorem dX10_isAlike_53 : decode cX10_isAlike 53 = .ok (.iconst 1, 1) := by decide +kernel
theorem dX10_isAlike_54 : decode cX10_isAlike 54 = .ok (.istore 6, 2) := by decide +kernel
theorem dX10_isAlike_56 : decode cX10_isAlike 56 = .ok (.iload 6, 2) := by decide +kernel
theorem dX10_isAlike_58 : decode cX10_isAlike 58 = .ok (.aload_n 0, 1) := by decide +kernel
theorem dX10_isAlike_59 : decode cX10_isAlike 59 = .ok (.getfield 61, 3) := by decide +kernel
theorem dX10_isAlike_62 : decode cX10_isAlike 62 = .ok (.bipush 64, 2) := by decide +kernel
theorem dX10_isAlike_64 : decode cX10_isAlike 64 = .ok (.iload 5, 2) := by decide +kernel
theorem dX10_isAlike_66 : decode cX10_isAlike 66 = .ok (.imul, 1) := by decide +kernel
theorem dX10_isAlike_67 : decode cX10_isAlike 67 = .ok (.iload_n 2, 1) := by decide +kernel
theorem dX10_isAlike_68 : decode cX10_isAlike 68 = .ok (.iadd, 1) := by decide +kernel
theorem dX10_isAlike_69 : decode cX10_isAlike 69 = .ok (.iaload, 1) := by decide +kernel
theorem dX10_isAlike_70 : decode cX10_isAlike 70 = .ok (.if_icmp .ne 30, 3) := by decide +kernel
theorem dX10_isAlike_73 : decode cX10_isAlike 73 = .ok (.iload 6, 2) := by decide +kernel
theorem dX10_isAlike_75 : decode cX10_isAlike 75 = .ok (.ifCond .ne 27, 3) := by decide +kernel
theorem dX10_isAlike_78 : decode cX10_isAlike 78 = .ok (.aload_n 0, 1) := by decide +kernel
theorem dX10_isAlike_79 : decode cX10_isAlike 79 = .ok (.getfield 95, 3) := by decide +kernel
theorem dX10_isAlike_82 : decode cX10_isAlike 82 = .ok (.iload_n 2, 1) := by decide +kernel
theorem dX10_isAlike_83 : decode cX10_isAlike 83 = .ok (.laload, 1) := by decide +kernel
theorem dX10_isAlike_84 : decode cX10_isAlike 84 = .ok (.aload_n 0, 1) := by decide +kernel
theorem dX10_isAlike_85 : decode cX10_isAlike 85 = .ok (.getfield 58, 3) := by decide +kernel
theorem dX10_isAlike_88 : decode cX10_isAlike 88 = .ok (.bipush 64, 2) := by decide +kernel
theorem dX10_isAlike_90 : decode cX10_isAlike 90 = .ok (.iload 5, 2) := by decide +kernel
theorem dX10_isAlike_92 : decode cX10_isAlike 92 = .ok (.imul, 1) := by decide +kernel
theorem dX10_isAlike_93 : decode cX10_isAlike 93 = .ok (.iload_n 2, 1) := by decide +kernel
theorem dX10_isAlike_94 : decode cX10_isAlike 94 = .ok (.iadd, 1) := by decide +kernel
theorem dX10_isAlike_95 : decode cX10_isAlike 95 = .ok (.laload, 1) := by decide +kernel
theorem dX10_isAlike_96 : decode cX10_isAlike 96 = .ok (.lcmp, 1) := by decide +kernel
theorem dX10_isAlike_97 : decode cX10_isAlike 97 = .ok (.ifCond .eq 5, 3) := by decide +kernel
theorem dX10_isAlike_100 : decode cX10_isAlike 100 = .ok (.iconst 0, 1) := by decide +kernel
theorem dX10_isAlike_101 : decode cX10_isAlike 101 = .ok (.ireturn, 1) := by decide +kernel
theorem dX10_isAlike_102 : decode cX10_isAlike 102 = .ok (.iinc 5 1, 3) := by decide +kernel
theorem dX10_isAlike_105 : decode cX10_isAlike 105 = .ok (.goto (-89), 3) := by decide +kernel
theorem dX10_isAlike_108 : decode cX10_isAlike 108 = .ok (.iconst 1, 1) := by decide +kernel
theorem dX10_isAlike_109 : decode cX10_isAlike 109 = .ok (.ireturn, 1) := by decide +kernel
theorem dX10_tries_0 : decode cX10_tries 0 = .ok (.bipush 64, 2) := by decide +kernel
theorem dX10_tries_2 : decode cX10_tries 2 = .ok (.iload_n 1, 1) := by decide +kernel
theorem dX10_tries_3 : decode cX10_tries 3 = .ok (.imul, 1) := by decide +kernel
theorem dX10_tries_4 : decode cX10_tries 4 = .ok (.iload_n 2, 1) := by decide +kernel
theorem dX10_tries_5 : decode cX10_tries 5 = .ok (.iadd, 1) := by decide +kernel
theorem dX10_tries_6 : decode cX10_tries 6 = .ok (.istore 7, 2) := by decide +kernel
theorem dX10_tries_8 : decode cX10_tries 8 = .ok (.aload_n 0, 1) := by decide +kernel
theorem dX10_tries_9 : decode cX10_tries 9 = .ok (.bipush 40, 2) := by decide +kernel
theorem dX10_tries_11 : decode cX10_tries 11 = .ok (.iload 7, 2) := by decide +kernel
theorem dX10_tries_13 : decode cX10_tries 13 = .ok (.imul, 1) := by decide +kernel
theorem dX10_tries_14 : decode cX10_tries 14 = .ok (.iload_n 3, 1) := by decide +kernel
theorem dX10_tries_15 : decode cX10_tries 15 = .ok (.iadd, 1) := by decide +kernel
theorem dX10_tries_16 : decode cX10_tries 16 = .ok (.putfield 85, 3) := by decide +kernel
theorem dX10_tries_19 : decode cX10_tries 19 = .ok (.aload_n 0, 1) := by decide +kernel
theorem dX10_tries_20 : decode cX10_tries 20 = .ok (.iload 4, 2) := by decide +kernel
theorem dX10_tries_22 : decode cX10_tries 22 = .ok (.putfield 217, 3) := by decide +kernel
theorem dX10_tries_25 : decode cX10_tries 25 = .ok (.aload_n 0, 1) := by decide +kernel
theorem dX10_tries_26 : decode cX10_tries 26 = .ok (.iload 5, 2) := by decide +kernel
theorem dX10_tries_28 : decode cX10_tries 28 = .ok (.putfield 220, 3) := by decide +kernel
theorem dX10_tries_31 : decode cX10_tries 31 = .ok (.aload_n 0, 1) := by decide +kernel
theorem dX10_tries_32 : decode cX10_tries 32 = .ok (.iload 6, 2) := by decide +kernel
theorem dX10_tries_34 : decode cX10_tries 34 = .ok (.putfield 223, 3) := by decide +kernel
theorem dX10_tries_37 : decode cX10_tries 37 = .ok (.aload_n 0, 1) := by decide +kernel
theorem dX10_tries_38 : decode cX10_tries 38 = .ok (.iload_n 1, 1) := by decide +kernel
theorem dX10_tries_39 : decode cX10_tries 39 = .ok (.iload_n 2, 1) := by decide +kernel
theorem dX10_tries_40 : decode cX10_tries 40 = .ok (.iconst 1, 1) := by decide +kernel
theorem dX10_tries_41 : decode cX10_tries 41 = .ok (.invokevirtual 315, 3) := by decide +kernel
theorem dX10_tries_44 : decode cX10_tries 44 = .ok (.istore 8, 2) := by decide +kernel
theorem dX10_tries_46 : decode cX10_tries 46 = .ok (.aload_n 0, 1) := by decide +kernel
theorem dX10_tries_47 : decode cX10_tries 47 = .ok (.iconst (-1), 1) := by decide +kernel
theorem dX10_tries_48 : decode cX10_tries 48 = .ok (.putfield 85, 3) := by decide +kernel
theorem dX10_tries_51 : decode cX10_tries 51 = .ok (.iload 8, 2) := by decide +kernel
theorem dX10_tries_53 : decode cX10_tries 53 = .ok (.ireturn, 1) := by decide +kernel
theorem dX10_signOf_0 : decode cX10_signOf 0 = .ok (.iload_n 0, 1) := by decide +kernel
theorem dX10_signOf_1 : decode cX10_signOf 1 = .ok (.iconst 4, 1) := by decide +kernel
theorem dX10_signOf_2 : decode cX10_signOf 2 = .ok (.if_icmp .ne 8, 3) := by decide +kernel
theorem dX10_signOf_5 : decode cX10_signOf 5 = .ok (.bipush 43, 2) := by decide +kernel
theorem dX10_signOf_7 : decode cX10_signOf 7 = .ok (.goto 26, 3) := by decide +kernel
theorem dX10_signOf_10 : decode cX10_signOf 10 = .ok (.iload_n 0, 1) := by decide +kernel
theorem dX10_signOf_11 : decode cX10_signOf 11 = .ok (.iconst 5, 1) := by decide +kernel
theorem dX10_signOf_12 : decode cX10_signOf 12 = .ok (.if_icmp .ne 8, 3) := by decide +kernel
theorem dX10_signOf_15 : decode cX10_signOf 15 = .ok (.bipush 45, 2) := by decide +kernel
theorem dX10_signOf_17 : decode cX10_signOf 17 = .ok (.goto 16, 3) := by decide +kernel
theorem dX10_signOf_20 : decode cX10_signOf 20 = .ok (.iload_n 0, 1) := by decide +kernel
theorem dX10_signOf_21 : decode cX10_signOf 21 = .ok (.bipush 6, 2) := by decide +kernel
theorem dX10_signOf_23 : decode cX10_signOf 23 = .ok (.if_icmp .ne 8, 3) := by decide +kernel
theorem dX10_signOf_26 : decode cX10_signOf 26 = .ok (.bipush 42, 2) := by decide +kernel
theorem dX10_signOf_28 : decode cX10_signOf 28 = .ok (.goto 5, 3) := by decide +kernel
theorem dX10_signOf_31 : decode cX10_signOf 31 = .ok (.bipush 47, 2) := by decide +kernel
theorem dX10_signOf_33 : decode cX10_signOf 33 = .ok (.ireturn, 1) := by decide +kernel
theorem dX10_beside_0 : decode cX10_beside 0 = .ok (.iload_n 1, 1) := by decide +kernel
theorem dX10_beside_1 : decode cX10_beside 1 = .ok (.tableswitch 72 0 2 #[27, 42, 57], 27) := by decide +kernel
theorem dX10_beside_28 : decode cX10_beside 28 = .ok (.iload_n 0, 1) := by decide +kernel
theorem dX10_beside_29 : decode cX10_beside 29 = .ok (.bipush 8, 2) := by decide +kernel
theorem dX10_beside_31 : decode cX10_beside 31 = .ok (.if_icmp .lt 10, 3) := by decide +kernel
theorem dX10_beside_34 : decode cX10_beside 34 = .ok (.iload_n 0, 1) := by decide +kernel
theorem dX10_beside_35 : decode cX10_beside 35 = .ok (.bipush 8, 2) := by decide +kernel
theorem dX10_beside_37 : decode cX10_beside 37 = .ok (.isub, 1) := by decide +kernel
theorem dX10_beside_38 : decode cX10_beside 38 = .ok (.goto 4, 3) := by decide +kernel
theorem dX10_beside_41 : decode cX10_beside 41 = .ok (.iconst (-1), 1) := by decide +kernel
theorem dX10_beside_42 : decode cX10_beside 42 = .ok (.ireturn, 1) := by decide +kernel
theorem dX10_beside_43 : decode cX10_beside 43 = .ok (.iload_n 0, 1) := by decide +kernel
theorem dX10_beside_44 : decode cX10_beside 44 = .ok (.bipush 56, 2) := by decide +kernel
theorem dX10_beside_46 : decode cX10_beside 46 = .ok (.if_icmp .ge 10, 3) := by decide +kernel
theorem dX10_beside_49 : decode cX10_beside 49 = .ok (.iload_n 0, 1) := by decide +kernel
theorem dX10_beside_50 : decode cX10_beside 50 = .ok (.bipush 8, 2) := by decide +kernel
theorem dX10_beside_52 : decode cX10_beside 52 = .ok (.iadd, 1) := by decide +kernel
theorem dX10_beside_53 : decode cX10_beside 53 = .ok (.goto 4, 3) := by decide +kernel
theorem dX10_beside_56 : decode cX10_beside 56 = .ok (.iconst (-1), 1) := by decide +kernel
theorem dX10_beside_57 : decode cX10_beside 57 = .ok (.ireturn, 1) := by decide +kernel
theorem dX10_beside_58 : decode cX10_beside 58 = .ok (.iload_n 0, 1) := by decide +kernel
theorem dX10_beside_59 : decode cX10_beside 59 = .ok (.bipush 8, 2) := by decide +kernel
theorem dX10_beside_61 : decode cX10_beside 61 = .ok (.irem, 1) := by decide +kernel
theorem dX10_beside_62 : decode cX10_beside 62 = .ok (.ifCond .le 9, 3) := by decide +kernel
theorem dX10_beside_65 : decode cX10_beside 65 = .ok (.iload_n 0, 1) := by decide +kernel
theorem dX10_beside_66 : decode cX10_beside 66 = .ok (.iconst 1, 1) := by decide +kernel
theorem dX10_beside_67 : decode cX10_beside 67 = .ok (.isub, 1) := by decide +kernel
theorem dX10_beside_68 : decode cX10_beside 68 = .ok (.goto 4, 3) := by decide +kernel
theorem dX10_beside_71 : decode cX10_beside 71 = .ok (.iconst (-1), 1) := by decide +kernel
theorem dX10_beside_72 : decode cX10_beside 72 = .ok (.ireturn, 1) := by decide +kernel
theorem dX10_beside_73 : decode cX10_beside 73 = .ok (.iload_n 0, 1) := by decide +kernel
theorem dX10_beside_74 : decode cX10_beside 74 = .ok (.bipush 8, 2) := by decide +kernel
theorem dX10_beside_76 : decode cX10_beside 76 = .ok (.irem, 1) := by decide +kernel
theorem dX10_beside_77 : decode cX10_beside 77 = .ok (.bipush 7, 2) := by decide +kernel
theorem dX10_beside_79 : decode cX10_beside 79 = .ok (.if_icmp .ge 9, 3) := by decide +kernel
theorem dX10_beside_82 : decode cX10_beside 82 = .ok (.iload_n 0, 1) := by decide +kernel
theorem dX10_beside_83 : decode cX10_beside 83 = .ok (.iconst 1, 1) := by decide +kernel
theorem dX10_beside_84 : decode cX10_beside 84 = .ok (.iadd, 1) := by decide +kernel
theorem dX10_beside_85 : decode cX10_beside 85 = .ok (.goto 4, 3) := by decide +kernel
theorem dX10_beside_88 : decode cX10_beside 88 = .ok (.iconst (-1), 1) := by decide +kernel
theorem dX10_beside_89 : decode cX10_beside 89 = .ok (.ireturn, 1) := by decide +kernel
theorem dX10_slips_0 : decode cX10_slips 0 = .ok (.bipush 40, 2) := by decide +kernel
theorem dX10_slips_2 : decode cX10_slips 2 = .ok (.bipush 64, 2) := by decide +kernel
theorem dX10_slips_4 : decode cX10_slips 4 = .ok (.iload_n 1, 1) := by decide +kernel
theorem dX10_slips_5 : decode cX10_slips 5 = .ok (.imul, 1) := by decide +kernel
theorem dX10_slips_6 : decode cX10_slips 6 = .ok (.iload_n 2, 1) := by decide +kernel
theorem dX10_slips_7 : decode cX10_slips 7 = .ok (.iadd, 1) := by decide +kernel
theorem dX10_slips_8 : decode cX10_slips 8 = .ok (.imul, 1) := by decide +kernel
theorem dX10_slips_9 : decode cX10_slips 9 = .ok (.iload_n 3, 1) := by decide +kernel
theorem dX10_slips_10 : decode cX10_slips 10 = .ok (.iadd, 1) := by decide +kernel
theorem dX10_slips_11 : decode cX10_slips 11 = .ok (.istore 6, 2) := by decide +kernel
theorem dX10_slips_13 : decode cX10_slips 13 = .ok (.aload_n 0, 1) := by decide +kernel
theorem dX10_slips_14 : decode cX10_slips 14 = .ok (.getfield 29, 3) := by decide +kernel
theorem dX10_slips_17 : decode cX10_slips 17 = .ok (.iload 6, 2) := by decide +kernel
theorem dX10_slips_19 : decode cX10_slips 19 = .ok (.iaload, 1) := by decide +kernel
theorem dX10_slips_20 : decode cX10_slips 20 = .ok (.istore 7, 2) := by decide +kernel
theorem dX10_slips_22 : decode cX10_slips 22 = .ok (.aload_n 0, 1) := by decide +kernel
theorem dX10_slips_23 : decode cX10_slips 23 = .ok (.iload 4, 2) := by decide +kernel
theorem dX10_slips_25 : decode cX10_slips 25 = .ok (.putfield 318, 3) := by decide +kernel
theorem dX10_slips_28 : decode cX10_slips 28 = .ok (.iload 7, 2) := by decide +kernel
theorem dX10_slips_30 : decode cX10_slips 30 = .ok (.iconst 4, 1) := by decide +kernel
theorem dX10_slips_31 : decode cX10_slips 31 = .ok (.if_icmp .lt 61, 3) := by decide +kernel
theorem dX10_slips_34 : decode cX10_slips 34 = .ok (.iload 7, 2) := by decide +kernel
theorem dX10_slips_36 : decode cX10_slips 36 = .ok (.bipush 7, 2) := by decide +kernel
theorem dX10_slips_38 : decode cX10_slips 38 = .ok (.if_icmp .gt 54, 3) := by decide +kernel
theorem dX10_slips_41 : decode cX10_slips 41 = .ok (.iconst 4, 1) := by decide +kernel
theorem dX10_slips_42 : decode cX10_slips 42 = .ok (.istore 8, 2) := by decide +kernel
theorem dX10_slips_44 : decode cX10_slips 44 = .ok (.iload 8, 2) := by decide +kernel
theorem dX10_slips_46 : decode cX10_slips 46 = .ok (.bipush 7, 2) := by decide +kernel
theorem dX10_slips_48 : decode cX10_slips 48 = .ok (.if_icmp .gt 41, 3) := by decide +kernel
theorem dX10_slips_51 : decode cX10_slips 51 = .ok (.aload_n 0, 1) := by decide +kernel
theorem dX10_slips_52 : decode cX10_slips 52 = .ok (.iload 8, 2) := by decide +kernel
theorem dX10_slips_54 : decode cX10_slips 54 = .ok (.invokestatic 321, 3) := by decide +kernel
theorem dX10_slips_57 : decode cX10_slips 57 = .ok (.putfield 324, 3) := by decide +kernel
theorem dX10_slips_60 : decode cX10_slips 60 = .ok (.iload 8, 2) := by decide +kernel
theorem dX10_slips_62 : decode cX10_slips 62 = .ok (.iload 7, 2) := by decide +kernel
theorem dX10_slips_64 : decode cX10_slips 64 = .ok (.if_icmp .eq 19, 3) := by decide +kernel
theorem dX10_slips_67 : decode cX10_slips 67 = .ok (.aload_n 0, 1) := by decide +kernel
theorem dX10_slips_68 : decode cX10_slips 68 = .ok (.iload_n 1, 1) := by decide +kernel
theorem dX10_slips_69 : decode cX10_slips 69 = .ok (.iload_n 2, 1) := by decide +kernel
theorem dX10_slips_70 : decode cX10_slips 70 = .ok (.iload_n 3, 1) := by decide +kernel
theorem dX10_slips_71 : decode cX10_slips 71 = .ok (.iload 8, 2) := by decide +kernel
theorem dX10_slips_73 : decode cX10_slips 73 = .ok (.iconst 0, 1) := by decide +kernel
theorem dX10_slips_74 : decode cX10_slips 74 = .ok (.iconst 0, 1) := by decide +kernel
theorem dX10_slips_75 : decode cX10_slips 75 = .ok (.invokevirtual 327, 3) := by decide +kernel
theorem dX10_slips_78 : decode cX10_slips 78 = .ok (.ifCond .eq 5, 3) := by decide +kernel
theorem dX10_slips_81 : decode cX10_slips 81 = .ok (.iconst 1, 1) := by decide +kernel
theorem dX10_slips_82 : decode cX10_slips 82 = .ok (.ireturn, 1) := by decide +kernel
theorem dX10_slips_83 : decode cX10_slips 83 = .ok (.iinc 8 1, 3) := by decide +kernel
theorem dX10_slips_86 : decode cX10_slips 86 = .ok (.goto (-42), 3) := by decide +kernel
theorem dX10_slips_89 : decode cX10_slips 89 = .ok (.goto 193, 3) := by decide +kernel
theorem dX10_slips_92 : decode cX10_slips 92 = .ok (.iload 7, 2) := by decide +kernel
theorem dX10_slips_94 : decode cX10_slips 94 = .ok (.ifCond .ne 70, 3) := by decide +kernel
theorem dX10_slips_97 : decode cX10_slips 97 = .ok (.iconst 0, 1) := by decide +kernel
theorem dX10_slips_98 : decode cX10_slips 98 = .ok (.istore 8, 2) := by decide +kernel
theorem dX10_slips_100 : decode cX10_slips 100 = .ok (.iload 8, 2) := by decide +kernel
theorem dX10_slips_102 : decode cX10_slips 102 = .ok (.iconst 2, 1) := by decide +kernel
theorem dX10_slips_103 : decode cX10_slips 103 = .ok (.if_icmp .ge 58, 3) := by decide +kernel
theorem dX10_slips_106 : decode cX10_slips 106 = .ok (.aload_n 0, 1) := by decide +kernel
theorem dX10_slips_107 : decode cX10_slips 107 = .ok (.iload 8, 2) := by decide +kernel
theorem dX10_slips_109 : decode cX10_slips 109 = .ok (.ifCond .ne 15, 3) := by decide +kernel
theorem dX10_slips_112 : decode cX10_slips 112 = .ok (.aload_n 0, 1) := by decide +kernel
theorem dX10_slips_113 : decode cX10_slips 113 = .ok (.getfield 32, 3) := by decide +kernel
theorem dX10_slips_116 : decode cX10_slips 116 = .ok (.iload 6, 2) := by decide +kernel
theorem dX10_slips_118 : decode cX10_slips 118 = .ok (.iaload, 1) := by decide +kernel
theorem dX10_slips_119 : decode cX10_slips 119 = .ok (.iconst 1, 1) := by decide +kernel
theorem dX10_slips_120 : decode cX10_slips 120 = .ok (.iadd, 1) := by decide +kernel
theorem dX10_slips_121 : decode cX10_slips 121 = .ok (.goto 12, 3) := by decide +kernel
theorem dX10_slips_124 : decode cX10_slips 124 = .ok (.aload_n 0, 1) := by decide +kernel
theorem dX10_slips_125 : decode cX10_slips 125 = .ok (.getfield 32, 3) := by decide +kernel
theorem dX10_slips_128 : decode cX10_slips 128 = .ok (.iload 6, 2) := by decide +kernel
theorem dX10_slips_130 : decode cX10_slips 130 = .ok (.iaload, 1) := by decide +kernel
theorem dX10_slips_131 : decode cX10_slips 131 = .ok (.iconst 1, 1) := by decide +kernel
theorem dX10_slips_132 : decode cX10_slips 132 = .ok (.isub, 1) := by decide +kernel
theorem dX10_slips_133 : decode cX10_slips 133 = .ok (.putfield 324, 3) := by decide +kernel
theorem dX10_slips_136 : decode cX10_slips 136 = .ok (.aload_n 0, 1) := by decide +kernel
theorem dX10_slips_137 : decode cX10_slips 137 = .ok (.iload_n 1, 1) := by decide +kernel
theorem dX10_slips_138 : decode cX10_slips 138 = .ok (.iload_n 2, 1) := by decide +kernel
theorem dX10_slips_139 : decode cX10_slips 139 = .ok (.iload_n 3, 1) := by decide +kernel
theorem dX10_slips_140 : decode cX10_slips 140 = .ok (.iload 7, 2) := by decide +kernel
theorem dX10_slips_142 : decode cX10_slips 142 = .ok (.aload_n 0, 1) := by decide +kernel
theorem dX10_slips_143 : decode cX10_slips 143 = .ok (.getfield 324, 3) := by decide +kernel
theorem dX10_slips_146 : decode cX10_slips 146 = .ok (.iconst 0, 1) := by decide +kernel
theorem dX10_slips_147 : decode cX10_slips 147 = .ok (.invokevirtual 327, 3) := by decide +kernel
theorem dX10_slips_150 : decode cX10_slips 150 = .ok (.ifCond .eq 5, 3) := by decide +kernel
theorem dX10_slips_153 : decode cX10_slips 153 = .ok (.iconst 1, 1) := by decide +kernel
theorem dX10_slips_154 : decode cX10_slips 154 = .ok (.ireturn, 1) := by decide +kernel
theorem dX10_slips_155 : decode cX10_slips 155 = .ok (.iinc 8 1, 3) := by decide +kernel
theorem dX10_slips_158 : decode cX10_slips 158 = .ok (.goto (-58), 3) := by decide +kernel
theorem dX10_slips_161 : decode cX10_slips 161 = .ok (.goto 121, 3) := by decide +kernel
theorem dX10_slips_164 : decode cX10_slips 164 = .ok (.iload 7, 2) := by decide +kernel
theorem dX10_slips_166 : decode cX10_slips 166 = .ok (.iconst 1, 1) := by decide +kernel
theorem dX10_slips_167 : decode cX10_slips 167 = .ok (.if_icmp .eq 9, 3) := by decide +kernel
theorem dX10_slips_170 : decode cX10_slips 170 = .ok (.iload 7, 2) := by decide +kernel
theorem dX10_slips_172 : decode cX10_slips 172 = .ok (.iconst 2, 1) := by decide +kernel
theorem dX10_slips_173 : decode cX10_slips 173 = .ok (.if_icmp .ne 109, 3) := by decide +kernel
theorem dX10_slips_176 : decode cX10_slips 176 = .ok (.iconst 0, 1) := by decide +kernel
theorem dX10_slips_177 : decode cX10_slips 177 = .ok (.istore 8, 2) := by decide +kernel
theorem dX10_slips_179 : decode cX10_slips 179 = .ok (.iload 8, 2) := by decide +kernel
theorem dX10_slips_181 : decode cX10_slips 181 = .ok (.iconst 4, 1) := by decide +kernel
theorem dX10_slips_182 : decode cX10_slips 182 = .ok (.if_icmp .ge 100, 3) := by decide +kernel
theorem dX10_slips_185 : decode cX10_slips 185 = .ok (.aload_n 0, 1) := by decide +kernel
theorem dX10_slips_186 : decode cX10_slips 186 = .ok (.iload 5, 2) := by decide +kernel
theorem dX10_slips_188 : decode cX10_slips 188 = .ok (.ifCond .eq 13, 3) := by decide +kernel
theorem dX10_slips_191 : decode cX10_slips 191 = .ok (.aload_n 0, 1) := by decide +kernel
theorem dX10_slips_192 : decode cX10_slips 192 = .ok (.getfield 35, 3) := by decide +kernel
theorem dX10_slips_195 : decode cX10_slips 195 = .ok (.iload 6, 2) := by decide +kernel
theorem dX10_slips_197 : decode cX10_slips 197 = .ok (.iaload, 1) := by decide +kernel
theorem dX10_slips_198 : decode cX10_slips 198 = .ok (.goto 10, 3) := by decide +kernel
theorem dX10_slips_201 : decode cX10_slips 201 = .ok (.aload_n 0, 1) := by decide +kernel
theorem dX10_slips_202 : decode cX10_slips 202 = .ok (.getfield 32, 3) := by decide +kernel
theorem dX10_slips_205 : decode cX10_slips 205 = .ok (.iload 6, 2) := by decide +kernel
theorem dX10_slips_207 : decode cX10_slips 207 = .ok (.iaload, 1) := by decide +kernel
theorem dX10_slips_208 : decode cX10_slips 208 = .ok (.iload 8, 2) := by decide +kernel
theorem dX10_slips_210 : decode cX10_slips 210 = .ok (.invokestatic 331, 3) := by decide +kernel
theorem dX10_slips_213 : decode cX10_slips 213 = .ok (.putfield 324, 3) := by decide +kernel
theorem dX10_slips_216 : decode cX10_slips 216 = .ok (.aload_n 0, 1) := by decide +kernel
theorem dX10_slips_217 : decode cX10_slips 217 = .ok (.getfield 324, 3) := by decide +kernel
theorem dX10_slips_220 : decode cX10_slips 220 = .ok (.iconst (-1), 1) := by decide +kernel
theorem dX10_slips_221 : decode cX10_slips 221 = .ok (.if_icmp .eq 55, 3) := by decide +kernel
theorem dX10_slips_224 : decode cX10_slips 224 = .ok (.aload_n 0, 1) := by decide +kernel
theorem dX10_slips_225 : decode cX10_slips 225 = .ok (.iload_n 1, 1) := by decide +kernel
theorem dX10_slips_226 : decode cX10_slips 226 = .ok (.iload_n 2, 1) := by decide +kernel
theorem dX10_slips_227 : decode cX10_slips 227 = .ok (.iload_n 3, 1) := by decide +kernel
theorem dX10_slips_228 : decode cX10_slips 228 = .ok (.iload 7, 2) := by decide +kernel
theorem dX10_slips_230 : decode cX10_slips 230 = .ok (.iload 5, 2) := by decide +kernel
theorem dX10_slips_232 : decode cX10_slips 232 = .ok (.ifCond .eq 13, 3) := by decide +kernel
theorem dX10_slips_235 : decode cX10_slips 235 = .ok (.aload_n 0, 1) := by decide +kernel
theorem dX10_slips_236 : decode cX10_slips 236 = .ok (.getfield 32, 3) := by decide +kernel
theorem dX10_slips_239 : decode cX10_slips 239 = .ok (.iload 6, 2) := by decide +kernel
theorem dX10_slips_241 : decode cX10_slips 241 = .ok (.iaload, 1) := by decide +kernel
theorem dX10_slips_242 : decode cX10_slips 242 = .ok (.goto 7, 3) := by decide +kernel
theorem dX10_slips_245 : decode cX10_slips 245 = .ok (.aload_n 0, 1) := by decide +kernel
theorem dX10_slips_246 : decode cX10_slips 246 = .ok (.getfield 324, 3) := by decide +kernel
theorem dX10_slips_249 : decode cX10_slips 249 = .ok (.iload 5, 2) := by decide +kernel
theorem dX10_slips_251 : decode cX10_slips 251 = .ok (.ifCond .eq 10, 3) := by decide +kernel
theorem dX10_slips_254 : decode cX10_slips 254 = .ok (.aload_n 0, 1) := by decide +kernel
theorem dX10_slips_255 : decode cX10_slips 255 = .ok (.getfield 324, 3) := by decide +kernel
theorem dX10_slips_258 : decode cX10_slips 258 = .ok (.goto 10, 3) := by decide +kernel
theorem dX10_slips_261 : decode cX10_slips 261 = .ok (.aload_n 0, 1) := by decide +kernel
theorem dX10_slips_262 : decode cX10_slips 262 = .ok (.getfield 35, 3) := by decide +kernel
theorem dX10_slips_265 : decode cX10_slips 265 = .ok (.iload 6, 2) := by decide +kernel
theorem dX10_slips_267 : decode cX10_slips 267 = .ok (.iaload, 1) := by decide +kernel
theorem dX10_slips_268 : decode cX10_slips 268 = .ok (.invokevirtual 327, 3) := by decide +kernel
theorem dX10_slips_271 : decode cX10_slips 271 = .ok (.ifCond .eq 5, 3) := by decide +kernel
theorem dX10_slips_274 : decode cX10_slips 274 = .ok (.iconst 1, 1) := by decide +kernel
theorem dX10_slips_275 : decode cX10_slips 275 = .ok (.ireturn, 1) := by decide +kernel
theorem dX10_slips_276 : decode cX10_slips 276 = .ok (.iinc 8 1, 3) := by decide +kernel
theorem dX10_slips_279 : decode cX10_slips 279 = .ok (.goto (-100), 3) := by decide +kernel
theorem dX10_slips_282 : decode cX10_slips 282 = .ok (.iconst 0, 1) := by decide +kernel
theorem dX10_slips_283 : decode cX10_slips 283 = .ok (.ireturn, 1) := by decide +kernel
theorem dX10_isSlip_0 : decode cX10_isSlip 0 = .ok (.bipush 64, 2) := by decide +kernel
theorem dX10_isSlip_2 : decode cX10_isSlip 2 = .ok (.iload_n 1, 1) := by decide +kernel
theorem dX10_isSlip_3 : decode cX10_isSlip 3 = .ok (.imul, 1) := by decide +kernel
theorem dX10_isSlip_4 : decode cX10_isSlip 4 = .ok (.iload_n 2, 1) := by decide +kernel
theorem dX10_isSlip_5 : decode cX10_isSlip 5 = .ok (.iadd, 1) := by decide +kernel
theorem dX10_isSlip_6 : decode cX10_isSlip 6 = .ok (.istore_n 3, 1) := by decide +kernel
theorem dX10_isSlip_7 : decode cX10_isSlip 7 = .ok (.iconst 0, 1) := by decide +kernel
theorem dX10_isSlip_8 : decode cX10_isSlip 8 = .ok (.istore 4, 2) := by decide +kernel
theorem dX10_isSlip_10 : decode cX10_isSlip 10 = .ok (.iload 4, 2) := by decide +kernel
theorem dX10_isSlip_12 : decode cX10_isSlip 12 = .ok (.aload_n 0, 1) := by decide +kernel
theorem dX10_isSlip_13 : decode cX10_isSlip 13 = .ok (.getfield 20, 3) := by decide +kernel
theorem dX10_isSlip_16 : decode cX10_isSlip 16 = .ok (.iload_n 3, 1) := by decide +kernel
theorem dX10_isSlip_17 : decode cX10_isSlip 17 = .ok (.iaload, 1) := by decide +kernel
theorem dX10_isSlip_18 : decode cX10_isSlip 18 = .ok (.if_icmp .ge 95, 3) := by decide +kernel
theorem dX10_isSlip_21 : decode cX10_isSlip 21 = .ok (.iconst 0, 1) := by decide +kernel
theorem dX10_isSlip_22 : decode cX10_isSlip 22 = .ok (.istore 5, 2) := by decide +kernel
theorem dX10_isSlip_24 : decode cX10_isSlip 24 = .ok (.iload 5, 2) := by decide +kernel
theorem dX10_isSlip_26 : decode cX10_isSlip 26 = .ok (.aload_n 0, 1) := by decide +kernel
theorem dX10_isSlip_27 : decode cX10_isSlip 27 = .ok (.getfield 26, 3) := by decide +kernel
theorem dX10_isSlip_30 : decode cX10_isSlip 30 = .ok (.iload_n 3, 1) := by decide +kernel
theorem dX10_isSlip_31 : decode cX10_isSlip 31 = .ok (.iaload, 1) := by decide +kernel
theorem dX10_isSlip_32 : decode cX10_isSlip 32 = .ok (.if_icmp .ge 75, 3) := by decide +kernel
theorem dX10_isSlip_35 : decode cX10_isSlip 35 = .ok (.aload_n 0, 1) := by decide +kernel
theorem dX10_isSlip_36 : decode cX10_isSlip 36 = .ok (.getfield 38, 3) := by decide +kernel
theorem dX10_isSlip_39 : decode cX10_isSlip 39 = .ok (.bipush 40, 2) := by decide +kernel
theorem dX10_isSlip_41 : decode cX10_isSlip 41 = .ok (.iload_n 3, 1) := by decide +kernel
theorem dX10_isSlip_42 : decode cX10_isSlip 42 = .ok (.imul, 1) := by decide +kernel
theorem dX10_isSlip_43 : decode cX10_isSlip 43 = .ok (.iload 5, 2) := by decide +kernel
theorem dX10_isSlip_45 : decode cX10_isSlip 45 = .ok (.iadd, 1) := by decide +kernel
theorem dX10_isSlip_46 : decode cX10_isSlip 46 = .ok (.iaload, 1) := by decide +kernel
theorem dX10_isSlip_47 : decode cX10_isSlip 47 = .ok (.iload 4, 2) := by decide +kernel
theorem dX10_isSlip_49 : decode cX10_isSlip 49 = .ok (.if_icmp .ne 19, 3) := by decide +kernel
theorem dX10_isSlip_52 : decode cX10_isSlip 52 = .ok (.aload_n 0, 1) := by decide +kernel
theorem dX10_isSlip_53 : decode cX10_isSlip 53 = .ok (.iload_n 1, 1) := by decide +kernel
theorem dX10_isSlip_54 : decode cX10_isSlip 54 = .ok (.iload_n 2, 1) := by decide +kernel
theorem dX10_isSlip_55 : decode cX10_isSlip 55 = .ok (.iload 5, 2) := by decide +kernel
theorem dX10_isSlip_57 : decode cX10_isSlip 57 = .ok (.iload 4, 2) := by decide +kernel
theorem dX10_isSlip_59 : decode cX10_isSlip 59 = .ok (.iconst 0, 1) := by decide +kernel
theorem dX10_isSlip_60 : decode cX10_isSlip 60 = .ok (.invokevirtual 334, 3) := by decide +kernel
theorem dX10_isSlip_63 : decode cX10_isSlip 63 = .ok (.ifCond .eq 5, 3) := by decide +kernel
theorem dX10_isSlip_66 : decode cX10_isSlip 66 = .ok (.iconst 1, 1) := by decide +kernel
theorem dX10_isSlip_67 : decode cX10_isSlip 67 = .ok (.ireturn, 1) := by decide +kernel
theorem dX10_isSlip_68 : decode cX10_isSlip 68 = .ok (.aload_n 0, 1) := by decide +kernel
theorem dX10_isSlip_69 : decode cX10_isSlip 69 = .ok (.getfield 41, 3) := by decide +kernel
theorem dX10_isSlip_72 : decode cX10_isSlip 72 = .ok (.bipush 40, 2) := by decide +kernel
theorem dX10_isSlip_74 : decode cX10_isSlip 74 = .ok (.iload_n 3, 1) := by decide +kernel
theorem dX10_isSlip_75 : decode cX10_isSlip 75 = .ok (.imul, 1) := by decide +kernel
theorem dX10_isSlip_76 : decode cX10_isSlip 76 = .ok (.iload 5, 2) := by decide +kernel
theorem dX10_isSlip_78 : decode cX10_isSlip 78 = .ok (.iadd, 1) := by decide +kernel
theorem dX10_isSlip_79 : decode cX10_isSlip 79 = .ok (.iaload, 1) := by decide +kernel
theorem dX10_isSlip_80 : decode cX10_isSlip 80 = .ok (.iload 4, 2) := by decide +kernel
theorem dX10_isSlip_82 : decode cX10_isSlip 82 = .ok (.if_icmp .ne 19, 3) := by decide +kernel
theorem dX10_isSlip_85 : decode cX10_isSlip 85 = .ok (.aload_n 0, 1) := by decide +kernel
theorem dX10_isSlip_86 : decode cX10_isSlip 86 = .ok (.iload_n 1, 1) := by decide +kernel
theorem dX10_isSlip_87 : decode cX10_isSlip 87 = .ok (.iload_n 2, 1) := by decide +kernel
theorem dX10_isSlip_88 : decode cX10_isSlip 88 = .ok (.iload 5, 2) := by decide +kernel
theorem dX10_isSlip_90 : decode cX10_isSlip 90 = .ok (.iload 4, 2) := by decide +kernel
theorem dX10_isSlip_92 : decode cX10_isSlip 92 = .ok (.iconst 1, 1) := by decide +kernel
theorem dX10_isSlip_93 : decode cX10_isSlip 93 = .ok (.invokevirtual 334, 3) := by decide +kernel
theorem dX10_isSlip_96 : decode cX10_isSlip 96 = .ok (.ifCond .eq 5, 3) := by decide +kernel
theorem dX10_isSlip_99 : decode cX10_isSlip 99 = .ok (.iconst 1, 1) := by decide +kernel
theorem dX10_isSlip_100 : decode cX10_isSlip 100 = .ok (.ireturn, 1) := by decide +kernel
theorem dX10_isSlip_101 : decode cX10_isSlip 101 = .ok (.iinc 5 1, 3) := by decide +kernel
theorem dX10_isSlip_104 : decode cX10_isSlip 104 = .ok (.goto (-80), 3) := by decide +kernel
theorem dX10_isSlip_107 : decode cX10_isSlip 107 = .ok (.iinc 4 1, 3) := by decide +kernel
theorem dX10_isSlip_110 : decode cX10_isSlip 110 = .ok (.goto (-100), 3) := by decide +kernel
theorem dX10_isSlip_113 : decode cX10_isSlip 113 = .ok (.iconst 0, 1) := by decide +kernel
theorem dX10_isSlip_114 : decode cX10_isSlip 114 = .ok (.ireturn, 1) := by decide +kernel
theorem dX10_kindOf_0 : decode cX10_kindOf 0 = .ok (.bipush 64, 2) := by decide +kernel
theorem dX10_kindOf_2 : decode cX10_kindOf 2 = .ok (.iload_n 1, 1) := by decide +kernel
theorem dX10_kindOf_3 : decode cX10_kindOf 3 = .ok (.imul, 1) := by decide +kernel
theorem dX10_kindOf_4 : decode cX10_kindOf 4 = .ok (.iload_n 2, 1) := by decide +kernel
theorem dX10_kindOf_5 : decode cX10_kindOf 5 = .ok (.iadd, 1) := by decide +kernel
theorem dX10_kindOf_6 : decode cX10_kindOf 6 = .ok (.istore_n 3, 1) := by decide +kernel
theorem dX10_kindOf_7 : decode cX10_kindOf 7 = .ok (.aload_n 0, 1) := by decide +kernel
theorem dX10_kindOf_8 : decode cX10_kindOf 8 = .ok (.getfield 13, 3) := by decide +kernel
theorem dX10_kindOf_11 : decode cX10_kindOf 11 = .ok (.iload_n 3, 1) := by decide +kernel
theorem dX10_kindOf_12 : decode cX10_kindOf 12 = .ok (.iaload, 1) := by decide +kernel
theorem dX10_kindOf_13 : decode cX10_kindOf 13 = .ok (.ifCond .ne 5, 3) := by decide +kernel
theorem dX10_kindOf_16 : decode cX10_kindOf 16 = .ok (.iconst 0, 1) := by decide +kernel
theorem dX10_kindOf_17 : decode cX10_kindOf 17 = .ok (.ireturn, 1) := by decide +kernel
theorem dX10_kindOf_18 : decode cX10_kindOf 18 = .ok (.aload_n 0, 1) := by decide +kernel
theorem dX10_kindOf_19 : decode cX10_kindOf 19 = .ok (.getfield 13, 3) := by decide +kernel
theorem dX10_kindOf_22 : decode cX10_kindOf 22 = .ok (.iload_n 3, 1) := by decide +kernel
theorem dX10_kindOf_23 : decode cX10_kindOf 23 = .ok (.iaload, 1) := by decide +kernel
theorem dX10_kindOf_24 : decode cX10_kindOf 24 = .ok (.iconst 1, 1) := by decide +kernel
theorem dX10_kindOf_25 : decode cX10_kindOf 25 = .ok (.if_icmp .ne 67, 3) := by decide +kernel
theorem dX10_kindOf_28 : decode cX10_kindOf 28 = .ok (.aload_n 0, 1) := by decide +kernel
theorem dX10_kindOf_29 : decode cX10_kindOf 29 = .ok (.invokevirtual 292, 3) := by decide +kernel
theorem dX10_kindOf_32 : decode cX10_kindOf 32 = .ok (.iconst 0, 1) := by decide +kernel
theorem dX10_kindOf_33 : decode cX10_kindOf 33 = .ok (.istore 4, 2) := by decide +kernel
theorem dX10_kindOf_35 : decode cX10_kindOf 35 = .ok (.iload 4, 2) := by decide +kernel
theorem dX10_kindOf_37 : decode cX10_kindOf 37 = .ok (.aload_n 0, 1) := by decide +kernel
theorem dX10_kindOf_38 : decode cX10_kindOf 38 = .ok (.getfield 210, 3) := by decide +kernel
theorem dX10_kindOf_41 : decode cX10_kindOf 41 = .ok (.if_icmp .ge 49, 3) := by decide +kernel
theorem dX10_kindOf_44 : decode cX10_kindOf 44 = .ok (.aload_n 0, 1) := by decide +kernel
theorem dX10_kindOf_45 : decode cX10_kindOf 45 = .ok (.getfield 61, 3) := by decide +kernel
theorem dX10_kindOf_48 : decode cX10_kindOf 48 = .ok (.bipush 64, 2) := by decide +kernel
theorem dX10_kindOf_50 : decode cX10_kindOf 50 = .ok (.iload 4, 2) := by decide +kernel
theorem dX10_kindOf_52 : decode cX10_kindOf 52 = .ok (.imul, 1) := by decide +kernel
theorem dX10_kindOf_53 : decode cX10_kindOf 53 = .ok (.iload_n 2, 1) := by decide +kernel
theorem dX10_kindOf_54 : decode cX10_kindOf 54 = .ok (.iadd, 1) := by decide +kernel
theorem dX10_kindOf_55 : decode cX10_kindOf 55 = .ok (.iaload, 1) := by decide +kernel
theorem dX10_kindOf_56 : decode cX10_kindOf 56 = .ok (.ifCond .ne 28, 3) := by decide +kernel
theorem dX10_kindOf_59 : decode cX10_kindOf 59 = .ok (.aload_n 0, 1) := by decide +kernel
theorem dX10_kindOf_60 : decode cX10_kindOf 60 = .ok (.getfield 58, 3) := by decide +kernel
theorem dX10_kindOf_63 : decode cX10_kindOf 63 = .ok (.bipush 64, 2) := by decide +kernel
theorem dX10_kindOf_65 : decode cX10_kindOf 65 = .ok (.iload 4, 2) := by decide +kernel
theorem dX10_kindOf_67 : decode cX10_kindOf 67 = .ok (.imul, 1) := by decide +kernel
theorem dX10_kindOf_68 : decode cX10_kindOf 68 = .ok (.iload_n 2, 1) := by decide +kernel
theorem dX10_kindOf_69 : decode cX10_kindOf 69 = .ok (.iadd, 1) := by decide +kernel
theorem dX10_kindOf_70 : decode cX10_kindOf 70 = .ok (.laload, 1) := by decide +kernel
theorem dX10_kindOf_71 : decode cX10_kindOf 71 = .ok (.aload_n 0, 1) := by decide +kernel
theorem dX10_kindOf_72 : decode cX10_kindOf 72 = .ok (.getfield 17, 3) := by decide +kernel
theorem dX10_kindOf_75 : decode cX10_kindOf 75 = .ok (.iload_n 3, 1) := by decide +kernel
theorem dX10_kindOf_76 : decode cX10_kindOf 76 = .ok (.iaload, 1) := by decide +kernel
theorem dX10_kindOf_77 : decode cX10_kindOf 77 = .ok (.i2l, 1) := by decide +kernel
theorem dX10_kindOf_78 : decode cX10_kindOf 78 = .ok (.lcmp, 1) := by decide +kernel
theorem dX10_kindOf_79 : decode cX10_kindOf 79 = .ok (.ifCond .ne 5, 3) := by decide +kernel
theorem dX10_kindOf_82 : decode cX10_kindOf 82 = .ok (.iconst 2, 1) := by decide +kernel
theorem dX10_kindOf_83 : decode cX10_kindOf 83 = .ok (.ireturn, 1) := by decide +kernel
theorem dX10_kindOf_84 : decode cX10_kindOf 84 = .ok (.iinc 4 1, 3) := by decide +kernel
theorem dX10_kindOf_87 : decode cX10_kindOf 87 = .ok (.goto (-52), 3) := by decide +kernel
theorem dX10_kindOf_90 : decode cX10_kindOf 90 = .ok (.iconst 5, 1) := by decide +kernel
theorem dX10_kindOf_91 : decode cX10_kindOf 91 = .ok (.ireturn, 1) := by decide +kernel
theorem dX10_kindOf_92 : decode cX10_kindOf 92 = .ok (.aload_n 0, 1) := by decide +kernel
theorem dX10_kindOf_93 : decode cX10_kindOf 93 = .ok (.iload_n 1, 1) := by decide +kernel
theorem dX10_kindOf_94 : decode cX10_kindOf 94 = .ok (.iload_n 2, 1) := by decide +kernel
theorem dX10_kindOf_95 : decode cX10_kindOf 95 = .ok (.iconst 0, 1) := by decide +kernel
theorem dX10_kindOf_96 : decode cX10_kindOf 96 = .ok (.invokevirtual 315, 3) := by decide +kernel
theorem dX10_kindOf_99 : decode cX10_kindOf 99 = .ok (.ifCond .eq 5, 3) := by decide +kernel
theorem dX10_kindOf_102 : decode cX10_kindOf 102 = .ok (.iconst 1, 1) := by decide +kernel
theorem dX10_kindOf_103 : decode cX10_kindOf 103 = .ok (.ireturn, 1) := by decide +kernel
theorem dX10_kindOf_104 : decode cX10_kindOf 104 = .ok (.aload_n 0, 1) := by decide +kernel
theorem dX10_kindOf_105 : decode cX10_kindOf 105 = .ok (.iload_n 1, 1) := by decide +kernel
theorem dX10_kindOf_106 : decode cX10_kindOf 106 = .ok (.iload_n 2, 1) := by decide +kernel
theorem dX10_kindOf_107 : decode cX10_kindOf 107 = .ok (.iconst 1, 1) := by decide +kernel
theorem dX10_kindOf_108 : decode cX10_kindOf 108 = .ok (.invokevirtual 315, 3) := by decide +kernel
theorem dX10_kindOf_111 : decode cX10_kindOf 111 = .ok (.ifCond .eq 5, 3) := by decide +kernel
theorem dX10_kindOf_114 : decode cX10_kindOf 114 = .ok (.iconst 3, 1) := by decide +kernel
theorem dX10_kindOf_115 : decode cX10_kindOf 115 = .ok (.ireturn, 1) := by decide +kernel
theorem dX10_kindOf_116 : decode cX10_kindOf 116 = .ok (.aload_n 0, 1) := by decide +kernel
theorem dX10_kindOf_117 : decode cX10_kindOf 117 = .ok (.iload_n 1, 1) := by decide +kernel
theorem dX10_kindOf_118 : decode cX10_kindOf 118 = .ok (.iload_n 2, 1) := by decide +kernel
theorem dX10_kindOf_119 : decode cX10_kindOf 119 = .ok (.invokevirtual 338, 3) := by decide +kernel
theorem dX10_kindOf_122 : decode cX10_kindOf 122 = .ok (.ifCond .eq 7, 3) := by decide +kernel
theorem dX10_kindOf_125 : decode cX10_kindOf 125 = .ok (.iconst 4, 1) := by decide +kernel
theorem dX10_kindOf_126 : decode cX10_kindOf 126 = .ok (.goto 4, 3) := by decide +kernel
theorem dX10_kindOf_129 : decode cX10_kindOf 129 = .ok (.iconst 5, 1) := by decide +kernel
theorem dX10_kindOf_130 : decode cX10_kindOf 130 = .ok (.ireturn, 1) := by decide +kernel
theorem dX10_isPupil_0 : decode cX10_isPupil 0 = .ok (.iload_n 0, 1) := by decide +kernel
theorem dX10_isPupil_1 : decode cX10_isPupil 1 = .ok (.iconst 1, 1) := by decide +kernel
theorem dX10_isPupil_2 : decode cX10_isPupil 2 = .ok (.iconst 5, 1) := by decide +kernel
theorem dX10_isPupil_3 : decode cX10_isPupil 3 = .ok (.invokestatic 104, 3) := by decide +kernel
theorem dX10_isPupil_6 : decode cX10_isPupil 6 = .ok (.ireturn, 1) := by decide +kernel
theorem dX10_kind_0 : decode cX10_kind 0 = .ok (.iload_n 1, 1) := by decide +kernel
theorem dX10_kind_1 : decode cX10_kind 1 = .ok (.invokestatic 341, 3) := by decide +kernel
theorem dX10_kind_4 : decode cX10_kind 4 = .ok (.ifCond .eq 27, 3) := by decide +kernel
theorem dX10_kind_7 : decode cX10_kind 7 = .ok (.iload_n 2, 1) := by decide +kernel
theorem dX10_kind_8 : decode cX10_kind 8 = .ok (.invokestatic 119, 3) := by decide +kernel
theorem dX10_kind_11 : decode cX10_kind 11 = .ok (.ifCond .eq 20, 3) := by decide +kernel
theorem dX10_kind_14 : decode cX10_kind 14 = .ok (.aload_n 0, 1) := by decide +kernel
theorem dX10_kind_15 : decode cX10_kind 15 = .ok (.iload_n 2, 1) := by decide +kernel
theorem dX10_kind_16 : decode cX10_kind 16 = .ok (.invokevirtual 201, 3) := by decide +kernel
theorem dX10_kind_19 : decode cX10_kind 19 = .ok (.ifCond .eq 12, 3) := by decide +kernel
theorem dX10_kind_22 : decode cX10_kind 22 = .ok (.aload_n 0, 1) := by decide +kernel
theorem dX10_kind_23 : decode cX10_kind 23 = .ok (.iload_n 1, 1) := by decide +kernel
theorem dX10_kind_24 : decode cX10_kind 24 = .ok (.iload_n 2, 1) := by decide +kernel
theorem dX10_kind_25 : decode cX10_kind 25 = .ok (.invokevirtual 344, 3) := by decide +kernel
theorem dX10_kind_28 : decode cX10_kind 28 = .ok (.goto 4, 3) := by decide +kernel
theorem dX10_kind_31 : decode cX10_kind 31 = .ok (.iconst (-1), 1) := by decide +kernel
theorem dX10_kind_32 : decode cX10_kind 32 = .ok (.ireturn, 1) := by decide +kernel
theorem dX10_pointsOf_0 : decode cX10_pointsOf 0 = .ok (.aload_n 0, 1) := by decide +kernel
theorem dX10_pointsOf_1 : decode cX10_pointsOf 1 = .ok (.iload_n 1, 1) := by decide +kernel
theorem dX10_pointsOf_2 : decode cX10_pointsOf 2 = .ok (.iload_n 2, 1) := by decide +kernel
theorem dX10_pointsOf_3 : decode cX10_pointsOf 3 = .ok (.invokevirtual 344, 3) := by decide +kernel
theorem dX10_pointsOf_6 : decode cX10_pointsOf 6 = .ok (.tableswitch 55 1 4 #[30, 46, 30, 37], 30) := by decide +kernel
theorem dX10_pointsOf_36 : decode cX10_pointsOf 36 = .ok (.aload_n 0, 1) := by decide +kernel
theorem dX10_pointsOf_37 : decode cX10_pointsOf 37 = .ok (.getfield 52, 3) := by decide +kernel
theorem dX10_pointsOf_40 : decode cX10_pointsOf 40 = .ok (.iload_n 2, 1) := by decide +kernel
theorem dX10_pointsOf_41 : decode cX10_pointsOf 41 = .ok (.iaload, 1) := by decide +kernel
theorem dX10_pointsOf_42 : decode cX10_pointsOf 42 = .ok (.ireturn, 1) := by decide +kernel
theorem dX10_pointsOf_43 : decode cX10_pointsOf 43 = .ok (.aload_n 0, 1) := by decide +kernel
theorem dX10_pointsOf_44 : decode cX10_pointsOf 44 = .ok (.getfield 52, 3) := by decide +kernel
theorem dX10_pointsOf_47 : decode cX10_pointsOf 47 = .ok (.iload_n 2, 1) := by decide +kernel
theorem dX10_pointsOf_48 : decode cX10_pointsOf 48 = .ok (.iaload, 1) := by decide +kernel
theorem dX10_pointsOf_49 : decode cX10_pointsOf 49 = .ok (.iconst 2, 1) := by decide +kernel
theorem dX10_pointsOf_50 : decode cX10_pointsOf 50 = .ok (.idiv, 1) := by decide +kernel
theorem dX10_pointsOf_51 : decode cX10_pointsOf 51 = .ok (.ireturn, 1) := by decide +kernel
theorem dX10_pointsOf_52 : decode cX10_pointsOf 52 = .ok (.aload_n 0, 1) := by decide +kernel
theorem dX10_pointsOf_53 : decode cX10_pointsOf 53 = .ok (.getfield 52, 3) := by decide +kernel
theorem dX10_pointsOf_56 : decode cX10_pointsOf 56 = .ok (.iload_n 2, 1) := by decide +kernel
theorem dX10_pointsOf_57 : decode cX10_pointsOf 57 = .ok (.iaload, 1) := by decide +kernel
theorem dX10_pointsOf_58 : decode cX10_pointsOf 58 = .ok (.iconst 4, 1) := by decide +kernel
theorem dX10_pointsOf_59 : decode cX10_pointsOf 59 = .ok (.idiv, 1) := by decide +kernel
theorem dX10_pointsOf_60 : decode cX10_pointsOf 60 = .ok (.ireturn, 1) := by decide +kernel
theorem dX10_pointsOf_61 : decode cX10_pointsOf 61 = .ok (.iconst 0, 1) := by decide +kernel
theorem dX10_pointsOf_62 : decode cX10_pointsOf 62 = .ok (.ireturn, 1) := by decide +kernel
theorem dX10_points_0 : decode cX10_points 0 = .ok (.iload_n 1, 1) := by decide +kernel
theorem dX10_points_1 : decode cX10_points 1 = .ok (.invokestatic 341, 3) := by decide +kernel
theorem dX10_points_4 : decode cX10_points 4 = .ok (.ifCond .eq 23, 3) := by decide +kernel
theorem dX10_points_7 : decode cX10_points 7 = .ok (.iload_n 2, 1) := by decide +kernel
theorem dX10_points_8 : decode cX10_points 8 = .ok (.iconst (-1), 1) := by decide +kernel
theorem dX10_points_9 : decode cX10_points 9 = .ok (.if_icmp .eq 20, 3) := by decide +kernel
theorem dX10_points_12 : decode cX10_points 12 = .ok (.iload_n 2, 1) := by decide +kernel
theorem dX10_points_13 : decode cX10_points 13 = .ok (.invokestatic 119, 3) := by decide +kernel
theorem dX10_points_16 : decode cX10_points 16 = .ok (.ifCond .eq 11, 3) := by decide +kernel
theorem dX10_points_19 : decode cX10_points 19 = .ok (.aload_n 0, 1) := by decide +kernel
theorem dX10_points_20 : decode cX10_points 20 = .ok (.iload_n 2, 1) := by decide +kernel
theorem dX10_points_21 : decode cX10_points 21 = .ok (.invokevirtual 201, 3) := by decide +kernel
theorem dX10_points_24 : decode cX10_points 24 = .ok (.ifCond .ne 5, 3) := by decide +kernel
theorem dX10_points_27 : decode cX10_points 27 = .ok (.iconst (-1), 1) := by decide +kernel
theorem dX10_points_28 : decode cX10_points 28 = .ok (.ireturn, 1) := by decide +kernel
theorem dX10_points_29 : decode cX10_points 29 = .ok (.iconst 0, 1) := by decide +kernel
theorem dX10_points_30 : decode cX10_points 30 = .ok (.istore_n 3, 1) := by decide +kernel
theorem dX10_points_31 : decode cX10_points 31 = .ok (.iconst 0, 1) := by decide +kernel
theorem dX10_points_32 : decode cX10_points 32 = .ok (.istore 4, 2) := by decide +kernel
theorem dX10_points_34 : decode cX10_points 34 = .ok (.iload 4, 2) := by decide +kernel
theorem dX10_points_36 : decode cX10_points 36 = .ok (.bipush 64, 2) := by decide +kernel
theorem dX10_points_38 : decode cX10_points 38 = .ok (.if_icmp .ge 43, 3) := by decide +kernel
theorem dX10_points_41 : decode cX10_points 41 = .ok (.iload_n 3, 1) := by decide +kernel
theorem dX10_points_42 : decode cX10_points 42 = .ok (.iload_n 2, 1) := by decide +kernel
theorem dX10_points_43 : decode cX10_points 43 = .ok (.iconst (-1), 1) := by decide +kernel
theorem dX10_points_44 : decode cX10_points 44 = .ok (.if_icmp .eq 9, 3) := by decide +kernel
theorem dX10_points_47 : decode cX10_points 47 = .ok (.iload_n 2, 1) := by decide +kernel
theorem dX10_points_48 : decode cX10_points 48 = .ok (.iload 4, 2) := by decide +kernel
theorem dX10_points_50 : decode cX10_points 50 = .ok (.if_icmp .ne 22, 3) := by decide +kernel
theorem dX10_points_53 : decode cX10_points 53 = .ok (.aload_n 0, 1) := by decide +kernel
theorem dX10_points_54 : decode cX10_points 54 = .ok (.iload 4, 2) := by decide +kernel
theorem dX10_points_56 : decode cX10_points 56 = .ok (.invokevirtual 201, 3) := by decide +kernel
theorem dX10_points_59 : decode cX10_points 59 = .ok (.ifCond .eq 13, 3) := by decide +kernel
theorem dX10_points_62 : decode cX10_points 62 = .ok (.aload_n 0, 1) := by decide +kernel
theorem dX10_points_63 : decode cX10_points 63 = .ok (.iload_n 1, 1) := by decide +kernel
theorem dX10_points_64 : decode cX10_points 64 = .ok (.iload 4, 2) := by decide +kernel
theorem dX10_points_66 : decode cX10_points 66 = .ok (.invokevirtual 347, 3) := by decide +kernel
theorem dX10_points_69 : decode cX10_points 69 = .ok (.goto 4, 3) := by decide +kernel
theorem dX10_points_72 : decode cX10_points 72 = .ok (.iconst 0, 1) := by decide +kernel
theorem dX10_points_73 : decode cX10_points 73 = .ok (.iadd, 1) := by decide +kernel
theorem dX10_points_74 : decode cX10_points 74 = .ok (.istore_n 3, 1) := by decide +kernel
theorem dX10_points_75 : decode cX10_points 75 = .ok (.iinc 4 1, 3) := by decide +kernel
theorem dX10_points_78 : decode cX10_points 78 = .ok (.goto (-44), 3) := by decide +kernel
theorem dX10_points_81 : decode cX10_points 81 = .ok (.iload_n 3, 1) := by decide +kernel
theorem dX10_points_82 : decode cX10_points 82 = .ok (.ireturn, 1) := by decide +kernel
theorem dX10_slip_0 : decode cX10_slip 0 = .ok (.iload_n 1, 1) := by decide +kernel
theorem dX10_slip_1 : decode cX10_slip 1 = .ok (.invokestatic 341, 3) := by decide +kernel
theorem dX10_slip_4 : decode cX10_slip 4 = .ok (.ifCond .eq 37, 3) := by decide +kernel
theorem dX10_slip_7 : decode cX10_slip 7 = .ok (.iload_n 2, 1) := by decide +kernel
theorem dX10_slip_8 : decode cX10_slip 8 = .ok (.invokestatic 119, 3) := by decide +kernel
theorem dX10_slip_11 : decode cX10_slip 11 = .ok (.ifCond .eq 30, 3) := by decide +kernel
theorem dX10_slip_14 : decode cX10_slip 14 = .ok (.aload_n 0, 1) := by decide +kernel
theorem dX10_slip_15 : decode cX10_slip 15 = .ok (.iload_n 2, 1) := by decide +kernel
theorem dX10_slip_16 : decode cX10_slip 16 = .ok (.invokevirtual 201, 3) := by decide +kernel
theorem dX10_slip_19 : decode cX10_slip 19 = .ok (.ifCond .eq 22, 3) := by decide +kernel
theorem dX10_slip_22 : decode cX10_slip 22 = .ok (.iload_n 3, 1) := by decide +kernel
theorem dX10_slip_23 : decode cX10_slip 23 = .ok (.iconst 0, 1) := by decide +kernel
theorem dX10_slip_24 : decode cX10_slip 24 = .ok (.iconst 1, 1) := by decide +kernel
theorem dX10_slip_25 : decode cX10_slip 25 = .ok (.invokestatic 104, 3) := by decide +kernel
theorem dX10_slip_28 : decode cX10_slip 28 = .ok (.ifCond .eq 13, 3) := by decide +kernel
theorem dX10_slip_31 : decode cX10_slip 31 = .ok (.aload_n 0, 1) := by decide +kernel
theorem dX10_slip_32 : decode cX10_slip 32 = .ok (.iload_n 1, 1) := by decide +kernel
theorem dX10_slip_33 : decode cX10_slip 33 = .ok (.iload_n 2, 1) := by decide +kernel
theorem dX10_slip_34 : decode cX10_slip 34 = .ok (.invokevirtual 344, 3) := by decide +kernel
theorem dX10_slip_37 : decode cX10_slip 37 = .ok (.iconst 4, 1) := by decide +kernel
theorem dX10_slip_38 : decode cX10_slip 38 = .ok (.if_icmp .eq 5, 3) := by decide +kernel
theorem dX10_slip_41 : decode cX10_slip 41 = .ok (.iconst (-1), 1) := by decide +kernel
theorem dX10_slip_42 : decode cX10_slip 42 = .ok (.ireturn, 1) := by decide +kernel
theorem dX10_slip_43 : decode cX10_slip 43 = .ok (.iload_n 3, 1) := by decide +kernel
theorem dX10_slip_44 : decode cX10_slip 44 = .ok (.ifCond .ne 10, 3) := by decide +kernel
theorem dX10_slip_47 : decode cX10_slip 47 = .ok (.aload_n 0, 1) := by decide +kernel
theorem dX10_slip_48 : decode cX10_slip 48 = .ok (.getfield 318, 3) := by decide +kernel
theorem dX10_slip_51 : decode cX10_slip 51 = .ok (.goto 7, 3) := by decide +kernel
theorem dX10_slip_54 : decode cX10_slip 54 = .ok (.aload_n 0, 1) := by decide +kernel
theorem dX10_slip_55 : decode cX10_slip 55 = .ok (.getfield 324, 3) := by decide +kernel
theorem dX10_slip_58 : decode cX10_slip 58 = .ok (.ireturn, 1) := by decide +kernel
theorem dX10_fault_0 : decode cX10_fault 0 = .ok (.iload_n 1, 1) := by decide +kernel
theorem dX10_fault_1 : decode cX10_fault 1 = .ok (.invokestatic 341, 3) := by decide +kernel
theorem dX10_fault_4 : decode cX10_fault 4 = .ok (.ifCond .eq 7, 3) := by decide +kernel
theorem dX10_fault_7 : decode cX10_fault 7 = .ok (.iload_n 2, 1) := by decide +kernel
theorem dX10_fault_8 : decode cX10_fault 8 = .ok (.ifCond .ge 5, 3) := by decide +kernel
theorem dX10_fault_11 : decode cX10_fault 11 = .ok (.iconst (-1), 1) := by decide +kernel
theorem dX10_fault_12 : decode cX10_fault 12 = .ok (.ireturn, 1) := by decide +kernel
theorem dX10_fault_13 : decode cX10_fault 13 = .ok (.iconst 0, 1) := by decide +kernel
theorem dX10_fault_14 : decode cX10_fault 14 = .ok (.istore_n 3, 1) := by decide +kernel
theorem dX10_fault_15 : decode cX10_fault 15 = .ok (.iconst 0, 1) := by decide +kernel
theorem dX10_fault_16 : decode cX10_fault 16 = .ok (.istore 4, 2) := by decide +kernel
theorem dX10_fault_18 : decode cX10_fault 18 = .ok (.iload 4, 2) := by decide +kernel
theorem dX10_fault_20 : decode cX10_fault 20 = .ok (.bipush 64, 2) := by decide +kernel
theorem dX10_fault_22 : decode cX10_fault 22 = .ok (.if_icmp .ge 56, 3) := by decide +kernel
theorem dX10_fault_25 : decode cX10_fault 25 = .ok (.aload_n 0, 1) := by decide +kernel
theorem dX10_fault_26 : decode cX10_fault 26 = .ok (.iload 4, 2) := by decide +kernel
theorem dX10_fault_28 : decode cX10_fault 28 = .ok (.invokevirtual 201, 3) := by decide +kernel
theorem dX10_fault_31 : decode cX10_fault 31 = .ok (.ifCond .ne 6, 3) := by decide +kernel
theorem dX10_fault_34 : decode cX10_fault 34 = .ok (.goto 38, 3) := by decide +kernel
theorem dX10_fault_37 : decode cX10_fault 37 = .ok (.aload_n 0, 1) := by decide +kernel
theorem dX10_fault_38 : decode cX10_fault 38 = .ok (.iload_n 1, 1) := by decide +kernel
theorem dX10_fault_39 : decode cX10_fault 39 = .ok (.iload 4, 2) := by decide +kernel
theorem dX10_fault_41 : decode cX10_fault 41 = .ok (.invokevirtual 344, 3) := by decide +kernel
theorem dX10_fault_44 : decode cX10_fault 44 = .ok (.istore 5, 2) := by decide +kernel
theorem dX10_fault_46 : decode cX10_fault 46 = .ok (.iload 5, 2) := by decide +kernel
theorem dX10_fault_48 : decode cX10_fault 48 = .ok (.iconst 1, 1) := by decide +kernel
theorem dX10_fault_49 : decode cX10_fault 49 = .ok (.if_icmp .eq 23, 3) := by decide +kernel
theorem dX10_fault_52 : decode cX10_fault 52 = .ok (.iload 5, 2) := by decide +kernel
theorem dX10_fault_54 : decode cX10_fault 54 = .ok (.iconst 3, 1) := by decide +kernel
theorem dX10_fault_55 : decode cX10_fault 55 = .ok (.if_icmp .ne 6, 3) := by decide +kernel
theorem dX10_fault_58 : decode cX10_fault 58 = .ok (.goto 14, 3) := by decide +kernel
theorem dX10_fault_61 : decode cX10_fault 61 = .ok (.iload_n 3, 1) := by decide +kernel
theorem dX10_fault_62 : decode cX10_fault 62 = .ok (.iload_n 2, 1) := by decide +kernel
theorem dX10_fault_63 : decode cX10_fault 63 = .ok (.if_icmp .ne 6, 3) := by decide +kernel
theorem dX10_fault_66 : decode cX10_fault 66 = .ok (.iload 4, 2) := by decide +kernel
theorem dX10_fault_68 : decode cX10_fault 68 = .ok (.ireturn, 1) := by decide +kernel
theorem dX10_fault_69 : decode cX10_fault 69 = .ok (.iinc 3 1, 3) := by decide +kernel
theorem dX10_fault_72 : decode cX10_fault 72 = .ok (.iinc 4 1, 3) := by decide +kernel
theorem dX10_fault_75 : decode cX10_fault 75 = .ok (.goto (-57), 3) := by decide +kernel
theorem dX10_fault_78 : decode cX10_fault 78 = .ok (.iconst (-1), 1) := by decide +kernel
theorem dX10_fault_79 : decode cX10_fault 79 = .ok (.ireturn, 1) := by decide +kernel
theorem dX10_areOneText_0 : decode cX10_areOneText 0 = .ok (.aload_n 0, 1) := by decide +kernel
theorem dX10_areOneText_1 : decode cX10_areOneText 1 = .ok (.getfield 13, 3) := by decide +kernel
theorem dX10_areOneText_4 : decode cX10_areOneText 4 = .ok (.iload_n 1, 1) := by decide +kernel
theorem dX10_areOneText_5 : decode cX10_areOneText 5 = .ok (.iaload, 1) := by decide +kernel
theorem dX10_areOneText_6 : decode cX10_areOneText 6 = .ok (.iconst 2, 1) := by decide +kernel
theorem dX10_areOneText_7 : decode cX10_areOneText 7 = .ok (.if_icmp .ne 28, 3) := by decide +kernel
theorem dX10_areOneText_10 : decode cX10_areOneText 10 = .ok (.aload_n 0, 1) := by decide +kernel
theorem dX10_areOneText_11 : decode cX10_areOneText 11 = .ok (.getfield 13, 3) := by decide +kernel
theorem dX10_areOneText_14 : decode cX10_areOneText 14 = .ok (.iload_n 2, 1) := by decide +kernel
theorem dX10_areOneText_15 : decode cX10_areOneText 15 = .ok (.iaload, 1) := by decide +kernel
theorem dX10_areOneText_16 : decode cX10_areOneText 16 = .ok (.iconst 2, 1) := by decide +kernel
theorem dX10_areOneText_17 : decode cX10_areOneText 17 = .ok (.if_icmp .ne 18, 3) := by decide +kernel
theorem dX10_areOneText_20 : decode cX10_areOneText 20 = .ok (.aload_n 0, 1) := by decide +kernel
theorem dX10_areOneText_21 : decode cX10_areOneText 21 = .ok (.getfield 20, 3) := by decide +kernel
theorem dX10_areOneText_24 : decode cX10_areOneText 24 = .ok (.iload_n 1, 1) := by decide +kernel
theorem dX10_areOneText_25 : decode cX10_areOneText 25 = .ok (.iaload, 1) := by decide +kernel
theorem dX10_areOneText_26 : decode cX10_areOneText 26 = .ok (.aload_n 0, 1) := by decide +kernel
theorem dX10_areOneText_27 : decode cX10_areOneText 27 = .ok (.getfield 20, 3) := by decide +kernel
theorem dX10_areOneText_30 : decode cX10_areOneText 30 = .ok (.iload_n 2, 1) := by decide +kernel
theorem dX10_areOneText_31 : decode cX10_areOneText 31 = .ok (.iaload, 1) := by decide +kernel
theorem dX10_areOneText_32 : decode cX10_areOneText 32 = .ok (.if_icmp .eq 5, 3) := by decide +kernel
theorem dX10_areOneText_35 : decode cX10_areOneText 35 = .ok (.iconst 0, 1) := by decide +kernel
theorem dX10_areOneText_36 : decode cX10_areOneText 36 = .ok (.ireturn, 1) := by decide +kernel
theorem dX10_areOneText_37 : decode cX10_areOneText 37 = .ok (.iconst 0, 1) := by decide +kernel
theorem dX10_areOneText_38 : decode cX10_areOneText 38 = .ok (.istore_n 3, 1) := by decide +kernel
theorem dX10_areOneText_39 : decode cX10_areOneText 39 = .ok (.iload_n 3, 1) := by decide +kernel
theorem dX10_areOneText_40 : decode cX10_areOneText 40 = .ok (.aload_n 0, 1) := by decide +kernel
theorem dX10_areOneText_41 : decode cX10_areOneText 41 = .ok (.getfield 20, 3) := by decide +kernel
theorem dX10_areOneText_44 : decode cX10_areOneText 44 = .ok (.iload_n 1, 1) := by decide +kernel
theorem dX10_areOneText_45 : decode cX10_areOneText 45 = .ok (.iaload, 1) := by decide +kernel
theorem dX10_areOneText_46 : decode cX10_areOneText 46 = .ok (.if_icmp .ge 36, 3) := by decide +kernel
theorem dX10_areOneText_49 : decode cX10_areOneText 49 = .ok (.aload_n 0, 1) := by decide +kernel
theorem dX10_areOneText_50 : decode cX10_areOneText 50 = .ok (.getfield 23, 3) := by decide +kernel
theorem dX10_areOneText_53 : decode cX10_areOneText 53 = .ok (.bipush 40, 2) := by decide +kernel
theorem dX10_areOneText_55 : decode cX10_areOneText 55 = .ok (.iload_n 1, 1) := by decide +kernel
theorem dX10_areOneText_56 : decode cX10_areOneText 56 = .ok (.imul, 1) := by decide +kernel
theorem dX10_areOneText_57 : decode cX10_areOneText 57 = .ok (.iload_n 3, 1) := by decide +kernel
theorem dX10_areOneText_58 : decode cX10_areOneText 58 = .ok (.iadd, 1) := by decide +kernel
theorem dX10_areOneText_59 : decode cX10_areOneText 59 = .ok (.baload, 1) := by decide +kernel
theorem dX10_areOneText_60 : decode cX10_areOneText 60 = .ok (.aload_n 0, 1) := by decide +kernel
theorem dX10_areOneText_61 : decode cX10_areOneText 61 = .ok (.getfield 23, 3) := by decide +kernel
theorem dX10_areOneText_64 : decode cX10_areOneText 64 = .ok (.bipush 40, 2) := by decide +kernel
theorem dX10_areOneText_66 : decode cX10_areOneText 66 = .ok (.iload_n 2, 1) := by decide +kernel
theorem dX10_areOneText_67 : decode cX10_areOneText 67 = .ok (.imul, 1) := by decide +kernel
theorem dX10_areOneText_68 : decode cX10_areOneText 68 = .ok (.iload_n 3, 1) := by decide +kernel
theorem dX10_areOneText_69 : decode cX10_areOneText 69 = .ok (.iadd, 1) := by decide +kernel
theorem dX10_areOneText_70 : decode cX10_areOneText 70 = .ok (.baload, 1) := by decide +kernel
theorem dX10_areOneText_71 : decode cX10_areOneText 71 = .ok (.if_icmp .eq 5, 3) := by decide +kernel
theorem dX10_areOneText_74 : decode cX10_areOneText 74 = .ok (.iconst 0, 1) := by decide +kernel
theorem dX10_areOneText_75 : decode cX10_areOneText 75 = .ok (.ireturn, 1) := by decide +kernel
theorem dX10_areOneText_76 : decode cX10_areOneText 76 = .ok (.iinc 3 1, 3) := by decide +kernel
theorem dX10_areOneText_79 : decode cX10_areOneText 79 = .ok (.goto (-40), 3) := by decide +kernel
theorem dX10_areOneText_82 : decode cX10_areOneText 82 = .ok (.iconst 1, 1) := by decide +kernel
theorem dX10_areOneText_83 : decode cX10_areOneText 83 = .ok (.ireturn, 1) := by decide +kernel
theorem dX10_copied_0 : decode cX10_copied 0 = .ok (.iload_n 1, 1) := by decide +kernel
theorem dX10_copied_1 : decode cX10_copied 1 = .ok (.invokestatic 341, 3) := by decide +kernel
theorem dX10_copied_4 : decode cX10_copied 4 = .ok (.ifCond .eq 19, 3) := by decide +kernel
theorem dX10_copied_7 : decode cX10_copied 7 = .ok (.iload_n 2, 1) := by decide +kernel
theorem dX10_copied_8 : decode cX10_copied 8 = .ok (.invokestatic 341, 3) := by decide +kernel
theorem dX10_copied_11 : decode cX10_copied 11 = .ok (.ifCond .eq 12, 3) := by decide +kernel
theorem dX10_copied_14 : decode cX10_copied 14 = .ok (.iload_n 1, 1) := by decide +kernel
theorem dX10_copied_15 : decode cX10_copied 15 = .ok (.iload_n 2, 1) := by decide +kernel
theorem dX10_copied_16 : decode cX10_copied 16 = .ok (.if_icmp .eq 7, 3) := by decide +kernel
theorem dX10_copied_19 : decode cX10_copied 19 = .ok (.iload_n 3, 1) := by decide +kernel
theorem dX10_copied_20 : decode cX10_copied 20 = .ok (.ifCond .ge 5, 3) := by decide +kernel
theorem dX10_copied_23 : decode cX10_copied 23 = .ok (.iconst (-1), 1) := by decide +kernel
theorem dX10_copied_24 : decode cX10_copied 24 = .ok (.ireturn, 1) := by decide +kernel
theorem dX10_copied_25 : decode cX10_copied 25 = .ok (.iconst 0, 1) := by decide +kernel
theorem dX10_copied_26 : decode cX10_copied 26 = .ok (.istore 4, 2) := by decide +kernel
theorem dX10_copied_28 : decode cX10_copied 28 = .ok (.iconst 0, 1) := by decide +kernel
theorem dX10_copied_29 : decode cX10_copied 29 = .ok (.istore 5, 2) := by decide +kernel
theorem dX10_copied_31 : decode cX10_copied 31 = .ok (.iload 5, 2) := by decide +kernel
theorem dX10_copied_33 : decode cX10_copied 33 = .ok (.bipush 64, 2) := by decide +kernel
theorem dX10_copied_35 : decode cX10_copied 35 = .ok (.if_icmp .ge 71, 3) := by decide +kernel
theorem dX10_copied_38 : decode cX10_copied 38 = .ok (.aload_n 0, 1) := by decide +kernel
theorem dX10_copied_39 : decode cX10_copied 39 = .ok (.getfield 48, 3) := by decide +kernel
theorem dX10_copied_42 : decode cX10_copied 42 = .ok (.iload 5, 2) := by decide +kernel
theorem dX10_copied_44 : decode cX10_copied 44 = .ok (.baload, 1) := by decide +kernel
theorem dX10_copied_45 : decode cX10_copied 45 = .ok (.ifCond .ne 55, 3) := by decide +kernel
theorem dX10_copied_48 : decode cX10_copied 48 = .ok (.aload_n 0, 1) := by decide +kernel
theorem dX10_copied_49 : decode cX10_copied 49 = .ok (.bipush 64, 2) := by decide +kernel
theorem dX10_copied_51 : decode cX10_copied 51 = .ok (.iload_n 1, 1) := by decide +kernel
theorem dX10_copied_52 : decode cX10_copied 52 = .ok (.imul, 1) := by decide +kernel
theorem dX10_copied_53 : decode cX10_copied 53 = .ok (.iload 5, 2) := by decide +kernel
theorem dX10_copied_55 : decode cX10_copied 55 = .ok (.iadd, 1) := by decide +kernel
theorem dX10_copied_56 : decode cX10_copied 56 = .ok (.bipush 64, 2) := by decide +kernel
theorem dX10_copied_58 : decode cX10_copied 58 = .ok (.iload_n 2, 1) := by decide +kernel
theorem dX10_copied_59 : decode cX10_copied 59 = .ok (.imul, 1) := by decide +kernel
theorem dX10_copied_60 : decode cX10_copied 60 = .ok (.iload 5, 2) := by decide +kernel
theorem dX10_copied_62 : decode cX10_copied 62 = .ok (.iadd, 1) := by decide +kernel
theorem dX10_copied_63 : decode cX10_copied 63 = .ok (.invokevirtual 350, 3) := by decide +kernel
theorem dX10_copied_66 : decode cX10_copied 66 = .ok (.ifCond .eq 34, 3) := by decide +kernel
theorem dX10_copied_69 : decode cX10_copied 69 = .ok (.aload_n 0, 1) := by decide +kernel
theorem dX10_copied_70 : decode cX10_copied 70 = .ok (.iload 5, 2) := by decide +kernel
theorem dX10_copied_72 : decode cX10_copied 72 = .ok (.bipush 64, 2) := by decide +kernel
theorem dX10_copied_74 : decode cX10_copied 74 = .ok (.iload_n 1, 1) := by decide +kernel
theorem dX10_copied_75 : decode cX10_copied 75 = .ok (.imul, 1) := by decide +kernel
theorem dX10_copied_76 : decode cX10_copied 76 = .ok (.iload 5, 2) := by decide +kernel
theorem dX10_copied_78 : decode cX10_copied 78 = .ok (.iadd, 1) := by decide +kernel
theorem dX10_copied_79 : decode cX10_copied 79 = .ok (.invokevirtual 350, 3) := by decide +kernel
theorem dX10_copied_82 : decode cX10_copied 82 = .ok (.ifCond .eq 6, 3) := by decide +kernel
theorem dX10_copied_85 : decode cX10_copied 85 = .ok (.goto 15, 3) := by decide +kernel
theorem dX10_copied_88 : decode cX10_copied 88 = .ok (.iload 4, 2) := by decide +kernel
theorem dX10_copied_90 : decode cX10_copied 90 = .ok (.iload_n 3, 1) := by decide +kernel
theorem dX10_copied_91 : decode cX10_copied 91 = .ok (.if_icmp .ne 6, 3) := by decide +kernel
theorem dX10_copied_94 : decode cX10_copied 94 = .ok (.iload 5, 2) := by decide +kernel
theorem dX10_copied_96 : decode cX10_copied 96 = .ok (.ireturn, 1) := by decide +kernel
theorem dX10_copied_97 : decode cX10_copied 97 = .ok (.iinc 4 1, 3) := by decide +kernel
theorem dX10_copied_100 : decode cX10_copied 100 = .ok (.iinc 5 1, 3) := by decide +kernel
theorem dX10_copied_103 : decode cX10_copied 103 = .ok (.goto (-72), 3) := by decide +kernel
theorem dX10_copied_106 : decode cX10_copied 106 = .ok (.iconst (-1), 1) := by decide +kernel
theorem dX10_copied_107 : decode cX10_copied 107 = .ok (.ireturn, 1) := by decide +kernel
theorem dX10_comesTo_0 : decode cX10_comesTo 0 = .ok (.aload_n 0, 1) := by decide +kernel
theorem dX10_comesTo_1 : decode cX10_comesTo 1 = .ok (.iload_n 1, 1) := by decide +kernel
theorem dX10_comesTo_2 : decode cX10_comesTo 2 = .ok (.iload_n 2, 1) := by decide +kernel
theorem dX10_comesTo_3 : decode cX10_comesTo 3 = .ok (.invokevirtual 250, 3) := by decide +kernel
theorem dX10_comesTo_6 : decode cX10_comesTo 6 = .ok (.lstore 4, 2) := by decide +kernel
theorem dX10_comesTo_8 : decode cX10_comesTo 8 = .ok (.lconst 0, 1) := by decide +kernel
theorem dX10_comesTo_9 : decode cX10_comesTo 9 = .ok (.lstore 6, 2) := by decide +kernel
theorem dX10_comesTo_11 : decode cX10_comesTo 11 = .ok (.lload 4, 2) := by decide +kernel
theorem dX10_comesTo_13 : decode cX10_comesTo 13 = .ok (.lload 6, 2) := by decide +kernel
theorem dX10_comesTo_15 : decode cX10_comesTo 15 = .ok (.lcmp, 1) := by decide +kernel
theorem dX10_comesTo_16 : decode cX10_comesTo 16 = .ok (.ifCond .eq 66, 3) := by decide +kernel
theorem dX10_comesTo_19 : decode cX10_comesTo 19 = .ok (.iconst 0, 1) := by decide +kernel
theorem dX10_comesTo_20 : decode cX10_comesTo 20 = .ok (.istore 8, 2) := by decide +kernel
theorem dX10_comesTo_22 : decode cX10_comesTo 22 = .ok (.iload 8, 2) := by decide +kernel
theorem dX10_comesTo_24 : decode cX10_comesTo 24 = .ok (.bipush 64, 2) := by decide +kernel
theorem dX10_comesTo_26 : decode cX10_comesTo 26 = .ok (.if_icmp .ge 53, 3) := by decide +kernel
theorem dX10_comesTo_29 : decode cX10_comesTo 29 = .ok (.lload 4, 2) := by decide +kernel
theorem dX10_comesTo_31 : decode cX10_comesTo 31 = .ok (.iload 8, 2) := by decide +kernel
theorem dX10_comesTo_33 : decode cX10_comesTo 33 = .ok (.invokestatic 242, 3) := by decide +kernel
theorem dX10_comesTo_36 : decode cX10_comesTo 36 = .ok (.ifCond .eq 37, 3) := by decide +kernel
theorem dX10_comesTo_39 : decode cX10_comesTo 39 = .ok (.lload 6, 2) := by decide +kernel
theorem dX10_comesTo_41 : decode cX10_comesTo 41 = .ok (.iload 8, 2) := by decide +kernel
theorem dX10_comesTo_43 : decode cX10_comesTo 43 = .ok (.invokestatic 242, 3) := by decide +kernel
theorem dX10_comesTo_46 : decode cX10_comesTo 46 = .ok (.ifCond .eq 6, 3) := by decide +kernel
theorem dX10_comesTo_49 : decode cX10_comesTo 49 = .ok (.goto 24, 3) := by decide +kernel
theorem dX10_comesTo_52 : decode cX10_comesTo 52 = .ok (.lload 6, 2) := by decide +kernel
theorem dX10_comesTo_54 : decode cX10_comesTo 54 = .ok (.lconst 1, 1) := by decide +kernel
theorem dX10_comesTo_55 : decode cX10_comesTo 55 = .ok (.iload 8, 2) := by decide +kernel
theorem dX10_comesTo_57 : decode cX10_comesTo 57 = .ok (.lshl, 1) := by decide +kernel
theorem dX10_comesTo_58 : decode cX10_comesTo 58 = .ok (.lor, 1) := by decide +kernel
theorem dX10_comesTo_59 : decode cX10_comesTo 59 = .ok (.lstore 6, 2) := by decide +kernel
theorem dX10_comesTo_61 : decode cX10_comesTo 61 = .ok (.lload 4, 2) := by decide +kernel
theorem dX10_comesTo_63 : decode cX10_comesTo 63 = .ok (.aload_n 0, 1) := by decide +kernel
theorem dX10_comesTo_64 : decode cX10_comesTo 64 = .ok (.iload_n 1, 1) := by decide +kernel
theorem dX10_comesTo_65 : decode cX10_comesTo 65 = .ok (.iload 8, 2) := by decide +kernel
theorem dX10_comesTo_67 : decode cX10_comesTo 67 = .ok (.invokevirtual 250, 3) := by decide +kernel
theorem dX10_comesTo_70 : decode cX10_comesTo 70 = .ok (.lor, 1) := by decide +kernel
theorem dX10_comesTo_71 : decode cX10_comesTo 71 = .ok (.lstore 4, 2) := by decide +kernel
theorem dX10_comesTo_73 : decode cX10_comesTo 73 = .ok (.iinc 8 1, 3) := by decide +kernel
theorem dX10_comesTo_76 : decode cX10_comesTo 76 = .ok (.goto (-54), 3) := by decide +kernel
theorem dX10_comesTo_79 : decode cX10_comesTo 79 = .ok (.goto (-68), 3) := by decide +kernel
theorem dX10_comesTo_82 : decode cX10_comesTo 82 = .ok (.lload 4, 2) := by decide +kernel
theorem dX10_comesTo_84 : decode cX10_comesTo 84 = .ok (.iload_n 3, 1) := by decide +kernel
theorem dX10_comesTo_85 : decode cX10_comesTo 85 = .ok (.invokestatic 242, 3) := by decide +kernel
theorem dX10_comesTo_88 : decode cX10_comesTo 88 = .ok (.ireturn, 1) := by decide +kernel
theorem dX10_look_0 : decode cX10_look 0 = .ok (.iload_n 1, 1) := by decide +kernel
theorem dX10_look_1 : decode cX10_look 1 = .ok (.invokestatic 115, 3) := by decide +kernel
theorem dX10_look_4 : decode cX10_look 4 = .ok (.ifCond .eq 10, 3) := by decide +kernel
theorem dX10_look_7 : decode cX10_look 7 = .ok (.iload_n 2, 1) := by decide +kernel
theorem dX10_look_8 : decode cX10_look 8 = .ok (.invokestatic 119, 3) := by decide +kernel
theorem dX10_look_11 : decode cX10_look 11 = .ok (.ifCond .ne 5, 3) := by decide +kernel
theorem dX10_look_14 : decode cX10_look 14 = .ok (.iconst (-1), 1) := by decide +kernel
theorem dX10_look_15 : decode cX10_look 15 = .ok (.ireturn, 1) := by decide +kernel
theorem dX10_look_16 : decode cX10_look 16 = .ok (.bipush 64, 2) := by decide +kernel
theorem dX10_look_18 : decode cX10_look 18 = .ok (.iload_n 1, 1) := by decide +kernel
theorem dX10_look_19 : decode cX10_look 19 = .ok (.imul, 1) := by decide +kernel
theorem dX10_look_20 : decode cX10_look 20 = .ok (.iload_n 2, 1) := by decide +kernel
theorem dX10_look_21 : decode cX10_look 21 = .ok (.iadd, 1) := by decide +kernel
theorem dX10_look_22 : decode cX10_look 22 = .ok (.istore 4, 2) := by decide +kernel
theorem dX10_look_24 : decode cX10_look 24 = .ok (.iconst 0, 1) := by decide +kernel
theorem dX10_look_25 : decode cX10_look 25 = .ok (.istore 5, 2) := by decide +kernel
theorem dX10_look_27 : decode cX10_look 27 = .ok (.aload_n 0, 1) := by decide +kernel
theorem dX10_look_28 : decode cX10_look 28 = .ok (.getfield 13, 3) := by decide +kernel
theorem dX10_look_31 : decode cX10_look 31 = .ok (.iload 4, 2) := by decide +kernel
theorem dX10_look_33 : decode cX10_look 33 = .ok (.iaload, 1) := by decide +kernel
theorem dX10_look_34 : decode cX10_look 34 = .ok (.iconst 2, 1) := by decide +kernel
theorem dX10_look_35 : decode cX10_look 35 = .ok (.if_icmp .ne 39, 3) := by decide +kernel
theorem dX10_look_38 : decode cX10_look 38 = .ok (.iload_n 3, 1) := by decide +kernel
theorem dX10_look_39 : decode cX10_look 39 = .ok (.bipush 10, 2) := by decide +kernel
theorem dX10_look_41 : decode cX10_look 41 = .ok (.isub, 1) := by decide +kernel
theorem dX10_look_42 : decode cX10_look 42 = .ok (.iconst 0, 1) := by decide +kernel
theorem dX10_look_43 : decode cX10_look 43 = .ok (.aload_n 0, 1) := by decide +kernel
theorem dX10_look_44 : decode cX10_look 44 = .ok (.getfield 20, 3) := by decide +kernel
theorem dX10_look_47 : decode cX10_look 47 = .ok (.iload 4, 2) := by decide +kernel
theorem dX10_look_49 : decode cX10_look 49 = .ok (.iaload, 1) := by decide +kernel
theorem dX10_look_50 : decode cX10_look 50 = .ok (.iconst 1, 1) := by decide +kernel
theorem dX10_look_51 : decode cX10_look 51 = .ok (.isub, 1) := by decide +kernel
theorem dX10_look_52 : decode cX10_look 52 = .ok (.invokestatic 104, 3) := by decide +kernel
theorem dX10_look_55 : decode cX10_look 55 = .ok (.ifCond .eq 19, 3) := by decide +kernel
theorem dX10_look_58 : decode cX10_look 58 = .ok (.aload_n 0, 1) := by decide +kernel
theorem dX10_look_59 : decode cX10_look 59 = .ok (.getfield 23, 3) := by decide +kernel
theorem dX10_look_62 : decode cX10_look 62 = .ok (.bipush 40, 2) := by decide +kernel
theorem dX10_look_64 : decode cX10_look 64 = .ok (.iload 4, 2) := by decide +kernel
theorem dX10_look_66 : decode cX10_look 66 = .ok (.imul, 1) := by decide +kernel
theorem dX10_look_67 : decode cX10_look 67 = .ok (.iload_n 3, 1) := by decide +kernel
theorem dX10_look_68 : decode cX10_look 68 = .ok (.iadd, 1) := by decide +kernel
theorem dX10_look_69 : decode cX10_look 69 = .ok (.bipush 10, 2) := by decide +kernel
theorem dX10_look_71 : decode cX10_look 71 = .ok (.isub, 1) := by decide +kernel
theorem dX10_look_72 : decode cX10_look 72 = .ok (.baload, 1) := by decide +kernel
theorem dX10_look_73 : decode cX10_look 73 = .ok (.ireturn, 1) := by decide +kernel
theorem dX10_look_74 : decode cX10_look 74 = .ok (.iload_n 3, 1) := by decide +kernel
theorem dX10_look_75 : decode cX10_look 75 = .ok (.tableswitch 116 0 2 #[25, 33, 76], 25) := by decide +kernel
theorem dX10_look_100 : decode cX10_look 100 = .ok (.aload_n 0, 1) := by decide +kernel
theorem dX10_look_101 : decode cX10_look 101 = .ok (.getfield 13, 3) := by decide +kernel
theorem dX10_look_104 : decode cX10_look 104 = .ok (.iload 4, 2) := by decide +kernel
theorem dX10_look_106 : decode cX10_look 106 = .ok (.iaload, 1) := by decide +kernel
theorem dX10_look_107 : decode cX10_look 107 = .ok (.ireturn, 1) := by decide +kernel
theorem dX10_look_108 : decode cX10_look 108 = .ok (.aload_n 0, 1) := by decide +kernel
theorem dX10_look_109 : decode cX10_look 109 = .ok (.getfield 13, 3) := by decide +kernel
theorem dX10_look_112 : decode cX10_look 112 = .ok (.iload 4, 2) := by decide +kernel
theorem dX10_look_114 : decode cX10_look 114 = .ok (.iaload, 1) := by decide +kernel
theorem dX10_look_115 : decode cX10_look 115 = .ok (.ifCond .ne 7, 3) := by decide +kernel
theorem dX10_look_118 : decode cX10_look 118 = .ok (.iconst 0, 1) := by decide +kernel
theorem dX10_look_119 : decode cX10_look 119 = .ok (.goto 31, 3) := by decide +kernel
theorem dX10_look_122 : decode cX10_look 122 = .ok (.aload_n 0, 1) := by decide +kernel
theorem dX10_look_123 : decode cX10_look 123 = .ok (.getfield 13, 3) := by decide +kernel
theorem dX10_look_126 : decode cX10_look 126 = .ok (.iload 4, 2) := by decide +kernel
theorem dX10_look_128 : decode cX10_look 128 = .ok (.iaload, 1) := by decide +kernel
theorem dX10_look_129 : decode cX10_look 129 = .ok (.iconst 1, 1) := by decide +kernel
theorem dX10_look_130 : decode cX10_look 130 = .ok (.if_icmp .ne 13, 3) := by decide +kernel
theorem dX10_look_133 : decode cX10_look 133 = .ok (.aload_n 0, 1) := by decide +kernel
theorem dX10_look_134 : decode cX10_look 134 = .ok (.getfield 17, 3) := by decide +kernel
theorem dX10_look_137 : decode cX10_look 137 = .ok (.iload 4, 2) := by decide +kernel
theorem dX10_look_139 : decode cX10_look 139 = .ok (.iaload, 1) := by decide +kernel
theorem dX10_look_140 : decode cX10_look 140 = .ok (.goto 10, 3) := by decide +kernel
theorem dX10_look_143 : decode cX10_look 143 = .ok (.aload_n 0, 1) := by decide +kernel
theorem dX10_look_144 : decode cX10_look 144 = .ok (.getfield 20, 3) := by decide +kernel
theorem dX10_look_147 : decode cX10_look 147 = .ok (.iload 4, 2) := by decide +kernel
theorem dX10_look_149 : decode cX10_look 149 = .ok (.iaload, 1) := by decide +kernel
theorem dX10_look_150 : decode cX10_look 150 = .ok (.ireturn, 1) := by decide +kernel
theorem dX10_look_151 : decode cX10_look 151 = .ok (.iconst 0, 1) := by decide +kernel
theorem dX10_look_152 : decode cX10_look 152 = .ok (.istore 6, 2) := by decide +kernel
theorem dX10_look_154 : decode cX10_look 154 = .ok (.iload 6, 2) := by decide +kernel
theorem dX10_look_156 : decode cX10_look 156 = .ok (.bipush 64, 2) := by decide +kernel
theorem dX10_look_158 : decode cX10_look 158 = .ok (.if_icmp .ge 30, 3) := by decide +kernel
theorem dX10_look_161 : decode cX10_look 161 = .ok (.iload 5, 2) := by decide +kernel
theorem dX10_look_163 : decode cX10_look 163 = .ok (.aload_n 0, 1) := by decide +kernel
theorem dX10_look_164 : decode cX10_look 164 = .ok (.iload_n 1, 1) := by decide +kernel
theorem dX10_look_165 : decode cX10_look 165 = .ok (.iload 6, 2) := by decide +kernel
theorem dX10_look_167 : decode cX10_look 167 = .ok (.iload_n 2, 1) := by decide +kernel
theorem dX10_look_168 : decode cX10_look 168 = .ok (.invokevirtual 353, 3) := by decide +kernel
theorem dX10_look_171 : decode cX10_look 171 = .ok (.ifCond .eq 7, 3) := by decide +kernel
theorem dX10_look_174 : decode cX10_look 174 = .ok (.iconst 1, 1) := by decide +kernel
theorem dX10_look_175 : decode cX10_look 175 = .ok (.goto 4, 3) := by decide +kernel
theorem dX10_look_178 : decode cX10_look 178 = .ok (.iconst 0, 1) := by decide +kernel
theorem dX10_look_179 : decode cX10_look 179 = .ok (.iadd, 1) := by decide +kernel
theorem dX10_look_180 : decode cX10_look 180 = .ok (.istore 5, 2) := by decide +kernel
theorem dX10_look_182 : decode cX10_look 182 = .ok (.iinc 6 1, 3) := by decide +kernel
theorem dX10_look_185 : decode cX10_look 185 = .ok (.goto (-31), 3) := by decide +kernel
theorem dX10_look_188 : decode cX10_look 188 = .ok (.iload 5, 2) := by decide +kernel
theorem dX10_look_190 : decode cX10_look 190 = .ok (.ireturn, 1) := by decide +kernel
theorem dX10_look_191 : decode cX10_look 191 = .ok (.iconst (-1), 1) := by decide +kernel
theorem dX10_look_192 : decode cX10_look 192 = .ok (.ireturn, 1) := by decide +kernel
theorem dX10_count_0 : decode cX10_count 0 = .ok (.iconst 0, 1) := by decide +kernel
theorem dX10_count_1 : decode cX10_count 1 = .ok (.istore_n 2, 1) := by decide +kernel
theorem dX10_count_2 : decode cX10_count 2 = .ok (.iload_n 1, 1) := by decide +kernel
theorem dX10_count_3 : decode cX10_count 3 = .ok (.bipush 100, 2) := by decide +kernel
theorem dX10_count_5 : decode cX10_count 5 = .ok (.isub, 1) := by decide +kernel
theorem dX10_count_6 : decode cX10_count 6 = .ok (.invokestatic 119, 3) := by decide +kernel
theorem dX10_count_9 : decode cX10_count 9 = .ok (.ifCond .eq 13, 3) := by decide +kernel
theorem dX10_count_12 : decode cX10_count 12 = .ok (.aload_n 0, 1) := by decide +kernel
theorem dX10_count_13 : decode cX10_count 13 = .ok (.getfield 52, 3) := by decide +kernel
theorem dX10_count_16 : decode cX10_count 16 = .ok (.iload_n 1, 1) := by decide +kernel
theorem dX10_count_17 : decode cX10_count 17 = .ok (.bipush 100, 2) := by decide +kernel
theorem dX10_count_19 : decode cX10_count 19 = .ok (.isub, 1) := by decide +kernel
theorem dX10_count_20 : decode cX10_count 20 = .ok (.iaload, 1) := by decide +kernel
theorem dX10_count_21 : decode cX10_count 21 = .ok (.ireturn, 1) := by decide +kernel
theorem dX10_count_22 : decode cX10_count 22 = .ok (.iload_n 1, 1) := by decide +kernel
theorem dX10_count_23 : decode cX10_count 23 = .ok (.tableswitch 78 0 4 #[33, 38, 43, 48, 73], 33) := by decide +kernel
theorem dX10_count_56 : decode cX10_count 56 = .ok (.aload_n 0, 1) := by decide +kernel
theorem dX10_count_57 : decode cX10_count 57 = .ok (.getfield 204, 3) := by decide +kernel
theorem dX10_count_60 : decode cX10_count 60 = .ok (.ireturn, 1) := by decide +kernel
theorem dX10_count_61 : decode cX10_count 61 = .ok (.aload_n 0, 1) := by decide +kernel
theorem dX10_count_62 : decode cX10_count 62 = .ok (.getfield 207, 3) := by decide +kernel
theorem dX10_count_65 : decode cX10_count 65 = .ok (.ireturn, 1) := by decide +kernel
theorem dX10_count_66 : decode cX10_count 66 = .ok (.aload_n 0, 1) := by decide +kernel
theorem dX10_count_67 : decode cX10_count 67 = .ok (.getfield 210, 3) := by decide +kernel
theorem dX10_count_70 : decode cX10_count 70 = .ok (.ireturn, 1) := by decide +kernel
theorem dX10_count_71 : decode cX10_count 71 = .ok (.iconst 0, 1) := by decide +kernel
theorem dX10_count_72 : decode cX10_count 72 = .ok (.istore_n 3, 1) := by decide +kernel
theorem dX10_count_73 : decode cX10_count 73 = .ok (.iload_n 3, 1) := by decide +kernel
theorem dX10_count_74 : decode cX10_count 74 = .ok (.bipush 64, 2) := by decide +kernel
theorem dX10_count_76 : decode cX10_count 76 = .ok (.if_icmp .ge 18, 3) := by decide +kernel
theorem dX10_count_79 : decode cX10_count 79 = .ok (.iload_n 2, 1) := by decide +kernel
theorem dX10_count_80 : decode cX10_count 80 = .ok (.aload_n 0, 1) := by decide +kernel
theorem dX10_count_81 : decode cX10_count 81 = .ok (.getfield 52, 3) := by decide +kernel
theorem dX10_count_84 : decode cX10_count 84 = .ok (.iload_n 3, 1) := by decide +kernel
theorem dX10_count_85 : decode cX10_count 85 = .ok (.iaload, 1) := by decide +kernel
theorem dX10_count_86 : decode cX10_count 86 = .ok (.iadd, 1) := by decide +kernel
theorem dX10_count_87 : decode cX10_count 87 = .ok (.istore_n 2, 1) := by decide +kernel
theorem dX10_count_88 : decode cX10_count 88 = .ok (.iinc 3 1, 3) := by decide +kernel
theorem dX10_count_91 : decode cX10_count 91 = .ok (.goto (-18), 3) := by decide +kernel
theorem dX10_count_94 : decode cX10_count 94 = .ok (.iload_n 2, 1) := by decide +kernel
theorem dX10_count_95 : decode cX10_count 95 = .ok (.ireturn, 1) := by decide +kernel
theorem dX10_count_96 : decode cX10_count 96 = .ok (.aload_n 0, 1) := by decide +kernel
theorem dX10_count_97 : decode cX10_count 97 = .ok (.getfield 108, 3) := by decide +kernel
theorem dX10_count_100 : decode cX10_count 100 = .ok (.ireturn, 1) := by decide +kernel
theorem dX10_count_101 : decode cX10_count 101 = .ok (.iconst (-1), 1) := by decide +kernel
theorem dX10_count_102 : decode cX10_count 102 = .ok (.ireturn, 1) := by decide +kernel
theorem dJ13_bitCount_95d88_0 : decode cJ13_bitCount_95d88 0 = .ok (.lload_n 0, 1) := by decide +kernel
theorem dJ13_bitCount_95d88_1 : decode cJ13_bitCount_95d88 1 = .ok (.lload_n 0, 1) := by decide +kernel
theorem dJ13_bitCount_95d88_2 : decode cJ13_bitCount_95d88 2 = .ok (.iconst 1, 1) := by decide +kernel
theorem dJ13_bitCount_95d88_3 : decode cJ13_bitCount_95d88 3 = .ok (.lushr, 1) := by decide +kernel
theorem dJ13_bitCount_95d88_4 : decode cJ13_bitCount_95d88 4 = .ok (.ldc2_w 314, 3) := by decide +kernel
theorem dJ13_bitCount_95d88_7 : decode cJ13_bitCount_95d88 7 = .ok (.land, 1) := by decide +kernel
theorem dJ13_bitCount_95d88_8 : decode cJ13_bitCount_95d88 8 = .ok (.lsub, 1) := by decide +kernel
theorem dJ13_bitCount_95d88_9 : decode cJ13_bitCount_95d88 9 = .ok (.lstore_n 0, 1) := by decide +kernel
theorem dJ13_bitCount_95d88_10 : decode cJ13_bitCount_95d88 10 = .ok (.lload_n 0, 1) := by decide +kernel
theorem dJ13_bitCount_95d88_11 : decode cJ13_bitCount_95d88 11 = .ok (.ldc2_w 316, 3) := by decide +kernel
theorem dJ13_bitCount_95d88_14 : decode cJ13_bitCount_95d88 14 = .ok (.land, 1) := by decide +kernel
theorem dJ13_bitCount_95d88_15 : decode cJ13_bitCount_95d88 15 = .ok (.lload_n 0, 1) := by decide +kernel
theorem dJ13_bitCount_95d88_16 : decode cJ13_bitCount_95d88 16 = .ok (.iconst 2, 1) := by decide +kernel
theorem dJ13_bitCount_95d88_17 : decode cJ13_bitCount_95d88 17 = .ok (.lushr, 1) := by decide +kernel
theorem dJ13_bitCount_95d88_18 : decode cJ13_bitCount_95d88 18 = .ok (.ldc2_w 316, 3) := by decide +kernel
theorem dJ13_bitCount_95d88_21 : decode cJ13_bitCount_95d88 21 = .ok (.land, 1) := by decide +kernel
theorem dJ13_bitCount_95d88_22 : decode cJ13_bitCount_95d88 22 = .ok (.ladd, 1) := by decide +kernel
theorem dJ13_bitCount_95d88_23 : decode cJ13_bitCount_95d88 23 = .ok (.lstore_n 0, 1) := by decide +kernel
theorem dJ13_bitCount_95d88_24 : decode cJ13_bitCount_95d88 24 = .ok (.lload_n 0, 1) := by decide +kernel
theorem dJ13_bitCount_95d88_25 : decode cJ13_bitCount_95d88 25 = .ok (.lload_n 0, 1) := by decide +kernel
theorem dJ13_bitCount_95d88_26 : decode cJ13_bitCount_95d88 26 = .ok (.iconst 4, 1) := by decide +kernel
theorem dJ13_bitCount_95d88_27 : decode cJ13_bitCount_95d88 27 = .ok (.lushr, 1) := by decide +kernel
theorem dJ13_bitCount_95d88_28 : decode cJ13_bitCount_95d88 28 = .ok (.ladd, 1) := by decide +kernel
theorem dJ13_bitCount_95d88_29 : decode cJ13_bitCount_95d88 29 = .ok (.ldc2_w 318, 3) := by decide +kernel
theorem dJ13_bitCount_95d88_32 : decode cJ13_bitCount_95d88 32 = .ok (.land, 1) := by decide +kernel
theorem dJ13_bitCount_95d88_33 : decode cJ13_bitCount_95d88 33 = .ok (.lstore_n 0, 1) := by decide +kernel
theorem dJ13_bitCount_95d88_34 : decode cJ13_bitCount_95d88 34 = .ok (.lload_n 0, 1) := by decide +kernel
theorem dJ13_bitCount_95d88_35 : decode cJ13_bitCount_95d88 35 = .ok (.lload_n 0, 1) := by decide +kernel
theorem dJ13_bitCount_95d88_36 : decode cJ13_bitCount_95d88 36 = .ok (.bipush 8, 2) := by decide +kernel
theorem dJ13_bitCount_95d88_38 : decode cJ13_bitCount_95d88 38 = .ok (.lushr, 1) := by decide +kernel
theorem dJ13_bitCount_95d88_39 : decode cJ13_bitCount_95d88 39 = .ok (.ladd, 1) := by decide +kernel
theorem dJ13_bitCount_95d88_40 : decode cJ13_bitCount_95d88 40 = .ok (.lstore_n 0, 1) := by decide +kernel
theorem dJ13_bitCount_95d88_41 : decode cJ13_bitCount_95d88 41 = .ok (.lload_n 0, 1) := by decide +kernel
theorem dJ13_bitCount_95d88_42 : decode cJ13_bitCount_95d88 42 = .ok (.lload_n 0, 1) := by decide +kernel
theorem dJ13_bitCount_95d88_43 : decode cJ13_bitCount_95d88 43 = .ok (.bipush 16, 2) := by decide +kernel
theorem dJ13_bitCount_95d88_45 : decode cJ13_bitCount_95d88 45 = .ok (.lushr, 1) := by decide +kernel
theorem dJ13_bitCount_95d88_46 : decode cJ13_bitCount_95d88 46 = .ok (.ladd, 1) := by decide +kernel
theorem dJ13_bitCount_95d88_47 : decode cJ13_bitCount_95d88 47 = .ok (.lstore_n 0, 1) := by decide +kernel
theorem dJ13_bitCount_95d88_48 : decode cJ13_bitCount_95d88 48 = .ok (.lload_n 0, 1) := by decide +kernel
theorem dJ13_bitCount_95d88_49 : decode cJ13_bitCount_95d88 49 = .ok (.lload_n 0, 1) := by decide +kernel
theorem dJ13_bitCount_95d88_50 : decode cJ13_bitCount_95d88 50 = .ok (.bipush 32, 2) := by decide +kernel
theorem dJ13_bitCount_95d88_52 : decode cJ13_bitCount_95d88 52 = .ok (.lushr, 1) := by decide +kernel
theorem dJ13_bitCount_95d88_53 : decode cJ13_bitCount_95d88 53 = .ok (.ladd, 1) := by decide +kernel
theorem dJ13_bitCount_95d88_54 : decode cJ13_bitCount_95d88 54 = .ok (.lstore_n 0, 1) := by decide +kernel
theorem dJ13_bitCount_95d88_55 : decode cJ13_bitCount_95d88 55 = .ok (.lload_n 0, 1) := by decide +kernel
theorem dJ13_bitCount_95d88_56 : decode cJ13_bitCount_95d88 56 = .ok (.l2i, 1) := by decide +kernel
theorem dJ13_bitCount_95d88_57 : decode cJ13_bitCount_95d88 57 = .ok (.bipush 127, 2) := by decide +kernel
theorem dJ13_bitCount_95d88_59 : decode cJ13_bitCount_95d88 59 = .ok (.iand, 1) := by decide +kernel
theorem dJ13_bitCount_95d88_60 : decode cJ13_bitCount_95d88 60 = .ok (.ireturn, 1) := by decide +kernel
theorem dJ9_floorDiv_f86c9_0 : decode cJ9_floorDiv_f86c9 0 = .ok (.lload_n 0, 1) := by decide +kernel
theorem dJ9_floorDiv_f86c9_1 : decode cJ9_floorDiv_f86c9 1 = .ok (.lload_n 2, 1) := by decide +kernel
theorem dJ9_floorDiv_f86c9_2 : decode cJ9_floorDiv_f86c9 2 = .ok (.ldiv, 1) := by decide +kernel
theorem dJ9_floorDiv_f86c9_3 : decode cJ9_floorDiv_f86c9 3 = .ok (.lstore 4, 2) := by decide +kernel
theorem dJ9_floorDiv_f86c9_5 : decode cJ9_floorDiv_f86c9 5 = .ok (.lload_n 0, 1) := by decide +kernel
theorem dJ9_floorDiv_f86c9_6 : decode cJ9_floorDiv_f86c9 6 = .ok (.lload_n 2, 1) := by decide +kernel
theorem dJ9_floorDiv_f86c9_7 : decode cJ9_floorDiv_f86c9 7 = .ok (.lxor, 1) := by decide +kernel
theorem dJ9_floorDiv_f86c9_8 : decode cJ9_floorDiv_f86c9 8 = .ok (.lconst 0, 1) := by decide +kernel
theorem dJ9_floorDiv_f86c9_9 : decode cJ9_floorDiv_f86c9 9 = .ok (.lcmp, 1) := by decide +kernel
theorem dJ9_floorDiv_f86c9_10 : decode cJ9_floorDiv_f86c9 10 = .ok (.ifCond .ge 17, 3) := by decide +kernel
theorem dJ9_floorDiv_f86c9_13 : decode cJ9_floorDiv_f86c9 13 = .ok (.lload 4, 2) := by decide +kernel
theorem dJ9_floorDiv_f86c9_15 : decode cJ9_floorDiv_f86c9 15 = .ok (.lload_n 2, 1) := by decide +kernel
theorem dJ9_floorDiv_f86c9_16 : decode cJ9_floorDiv_f86c9 16 = .ok (.lmul, 1) := by decide +kernel
theorem dJ9_floorDiv_f86c9_17 : decode cJ9_floorDiv_f86c9 17 = .ok (.lload_n 0, 1) := by decide +kernel
theorem dJ9_floorDiv_f86c9_18 : decode cJ9_floorDiv_f86c9 18 = .ok (.lcmp, 1) := by decide +kernel
theorem dJ9_floorDiv_f86c9_19 : decode cJ9_floorDiv_f86c9 19 = .ok (.ifCond .eq 8, 3) := by decide +kernel
theorem dJ9_floorDiv_f86c9_22 : decode cJ9_floorDiv_f86c9 22 = .ok (.lload 4, 2) := by decide +kernel
theorem dJ9_floorDiv_f86c9_24 : decode cJ9_floorDiv_f86c9 24 = .ok (.lconst 1, 1) := by decide +kernel
theorem dJ9_floorDiv_f86c9_25 : decode cJ9_floorDiv_f86c9 25 = .ok (.lsub, 1) := by decide +kernel
theorem dJ9_floorDiv_f86c9_26 : decode cJ9_floorDiv_f86c9 26 = .ok (.lreturn, 1) := by decide +kernel
theorem dJ9_floorDiv_f86c9_27 : decode cJ9_floorDiv_f86c9 27 = .ok (.lload 4, 2) := by decide +kernel
theorem dJ9_floorDiv_f86c9_29 : decode cJ9_floorDiv_f86c9 29 = .ok (.lreturn, 1) := by decide +kernel
theorem dJ9_abs_067f4_0 : decode cJ9_abs_067f4 0 = .ok (.lload_n 0, 1) := by decide +kernel
theorem dJ9_abs_067f4_1 : decode cJ9_abs_067f4 1 = .ok (.lconst 0, 1) := by decide +kernel
theorem dJ9_abs_067f4_2 : decode cJ9_abs_067f4 2 = .ok (.lcmp, 1) := by decide +kernel
theorem dJ9_abs_067f4_3 : decode cJ9_abs_067f4 3 = .ok (.ifCond .ge 8, 3) := by decide +kernel
theorem dJ9_abs_067f4_6 : decode cJ9_abs_067f4 6 = .ok (.lload_n 0, 1) := by decide +kernel
theorem dJ9_abs_067f4_7 : decode cJ9_abs_067f4 7 = .ok (.lneg, 1) := by decide +kernel
theorem dJ9_abs_067f4_8 : decode cJ9_abs_067f4 8 = .ok (.goto 4, 3) := by decide +kernel
theorem dJ9_abs_067f4_11 : decode cJ9_abs_067f4 11 = .ok (.lload_n 0, 1) := by decide +kernel
theorem dJ9_abs_067f4_12 : decode cJ9_abs_067f4 12 = .ok (.lreturn, 1) := by decide +kernel
theorem dJ9_max_7cf53_0 : decode cJ9_max_7cf53 0 = .ok (.iload_n 0, 1) := by decide +kernel
theorem dJ9_max_7cf53_1 : decode cJ9_max_7cf53 1 = .ok (.iload_n 1, 1) := by decide +kernel
theorem dJ9_max_7cf53_2 : decode cJ9_max_7cf53 2 = .ok (.if_icmp .lt 7, 3) := by decide +kernel
theorem dJ9_max_7cf53_5 : decode cJ9_max_7cf53 5 = .ok (.iload_n 0, 1) := by decide +kernel
theorem dJ9_max_7cf53_6 : decode cJ9_max_7cf53 6 = .ok (.goto 4, 3) := by decide +kernel
theorem dJ9_max_7cf53_9 : decode cJ9_max_7cf53 9 = .ok (.iload_n 1, 1) := by decide +kernel
theorem dJ9_max_7cf53_10 : decode cJ9_max_7cf53 10 = .ok (.ireturn, 1) := by decide +kernel
theorem dJ9_max_f86c9_0 : decode cJ9_max_f86c9 0 = .ok (.lload_n 0, 1) := by decide +kernel
theorem dJ9_max_f86c9_1 : decode cJ9_max_f86c9 1 = .ok (.lload_n 2, 1) := by decide +kernel
theorem dJ9_max_f86c9_2 : decode cJ9_max_f86c9 2 = .ok (.lcmp, 1) := by decide +kernel
theorem dJ9_max_f86c9_3 : decode cJ9_max_f86c9 3 = .ok (.ifCond .lt 7, 3) := by decide +kernel
theorem dJ9_max_f86c9_6 : decode cJ9_max_f86c9 6 = .ok (.lload_n 0, 1) := by decide +kernel
theorem dJ9_max_f86c9_7 : decode cJ9_max_f86c9 7 = .ok (.goto 4, 3) := by decide +kernel
theorem dJ9_max_f86c9_10 : decode cJ9_max_f86c9 10 = .ok (.lload_n 2, 1) := by decide +kernel
theorem dJ9_max_f86c9_11 : decode cJ9_max_f86c9 11 = .ok (.lreturn, 1) := by decide +kernel
theorem dJ9_min_7cf53_0 : decode cJ9_min_7cf53 0 = .ok (.iload_n 0, 1) := by decide +kernel
theorem dJ9_min_7cf53_1 : decode cJ9_min_7cf53 1 = .ok (.iload_n 1, 1) := by decide +kernel
theorem dJ9_min_7cf53_2 : decode cJ9_min_7cf53 2 = .ok (.if_icmp .gt 7, 3) := by decide +kernel
theorem dJ9_min_7cf53_5 : decode cJ9_min_7cf53 5 = .ok (.iload_n 0, 1) := by decide +kernel
theorem dJ9_min_7cf53_6 : decode cJ9_min_7cf53 6 = .ok (.goto 4, 3) := by decide +kernel
theorem dJ9_min_7cf53_9 : decode cJ9_min_7cf53 9 = .ok (.iload_n 1, 1) := by decide +kernel
theorem dJ9_min_7cf53_10 : decode cJ9_min_7cf53 10 = .ok (.ireturn, 1) := by decide +kernel
theorem dL_law_0 : decode cL_law 0 = .ok (.new 7, 3) := by decide +kernel
theorem dL_law_3 : decode cL_law 3 = .ok (.dup, 1) := by decide +kernel
theorem dL_law_4 : decode cL_law 4 = .ok (.invokespecial 9, 3) := by decide +kernel
theorem dL_law_7 : decode cL_law 7 = .ok (.astore_n 1, 1) := by decide +kernel
theorem dL_law_8 : decode cL_law 8 = .ok (.new 10, 3) := by decide +kernel
theorem dL_law_11 : decode cL_law 11 = .ok (.dup, 1) := by decide +kernel
theorem dL_law_12 : decode cL_law 12 = .ok (.invokespecial 12, 3) := by decide +kernel
theorem dL_law_15 : decode cL_law 15 = .ok (.astore_n 2, 1) := by decide +kernel
theorem dL_law_16 : decode cL_law 16 = .ok (.iconst 0, 1) := by decide +kernel
theorem dL_law_17 : decode cL_law 17 = .ok (.istore_n 3, 1) := by decide +kernel
theorem dL_law_18 : decode cL_law 18 = .ok (.iload_n 3, 1) := by decide +kernel
theorem dL_law_19 : decode cL_law 19 = .ok (.aload_n 0, 1) := by decide +kernel
theorem dL_law_20 : decode cL_law 20 = .ok (.arraylength, 1) := by decide +kernel
theorem dL_law_21 : decode cL_law 21 = .ok (.bipush 6, 2) := by decide +kernel
theorem dL_law_23 : decode cL_law 23 = .ok (.isub, 1) := by decide +kernel
theorem dL_law_24 : decode cL_law 24 = .ok (.if_icmp .gt 825, 3) := by decide +kernel
theorem dL_law_27 : decode cL_law 27 = .ok (.aload_n 0, 1) := by decide +kernel
theorem dL_law_28 : decode cL_law 28 = .ok (.iload_n 3, 1) := by decide +kernel
theorem dL_law_29 : decode cL_law 29 = .ok (.iaload, 1) := by decide +kernel
theorem dL_law_30 : decode cL_law 30 = .ok (.bipush 31, 2) := by decide +kernel
theorem dL_law_32 : decode cL_law 32 = .ok (.iand, 1) := by decide +kernel
theorem dL_law_33 : decode cL_law 33 = .ok (.tableswitch 810 0 18 #[91, 154, 197, 240, 273, 296, 329, 342, 385, 429, 472, 516, 559, 592, 625, 668, 701, 744, 787], 91) := by decide +kernel
theorem dL_law_124 : decode cL_law 124 = .ok (.aload_n 1, 1) := by decide +kernel
theorem dL_law_125 : decode cL_law 125 = .ok (.aload_n 0, 1) := by decide +kernel
theorem dL_law_126 : decode cL_law 126 = .ok (.iload_n 3, 1) := by decide +kernel
theorem dL_law_127 : decode cL_law 127 = .ok (.iconst 1, 1) := by decide +kernel
theorem dL_law_128 : decode cL_law 128 = .ok (.iadd, 1) := by decide +kernel
theorem dL_law_129 : decode cL_law 129 = .ok (.iaload, 1) := by decide +kernel
theorem dL_law_130 : decode cL_law 130 = .ok (.aload_n 0, 1) := by decide +kernel
theorem dL_law_131 : decode cL_law 131 = .ok (.iload_n 3, 1) := by decide +kernel
theorem dL_law_132 : decode cL_law 132 = .ok (.iconst 2, 1) := by decide +kernel
theorem dL_law_133 : decode cL_law 133 = .ok (.iadd, 1) := by decide +kernel
theorem dL_law_134 : decode cL_law 134 = .ok (.iaload, 1) := by decide +kernel
theorem dL_law_135 : decode cL_law 135 = .ok (.aload_n 0, 1) := by decide +kernel
theorem dL_law_136 : decode cL_law 136 = .ok (.iload_n 3, 1) := by decide +kernel
theorem dL_law_137 : decode cL_law 137 = .ok (.iconst 3, 1) := by decide +kernel
theorem dL_law_138 : decode cL_law 138 = .ok (.iadd, 1) := by decide +kernel
theorem dL_law_139 : decode cL_law 139 = .ok (.iaload, 1) := by decide +kernel
theorem dL_law_140 : decode cL_law 140 = .ok (.aload_n 0, 1) := by decide +kernel
theorem dL_law_141 : decode cL_law 141 = .ok (.iload_n 3, 1) := by decide +kernel
theorem dL_law_142 : decode cL_law 142 = .ok (.iconst 4, 1) := by decide +kernel
theorem dL_law_143 : decode cL_law 143 = .ok (.iadd, 1) := by decide +kernel
theorem dL_law_144 : decode cL_law 144 = .ok (.iaload, 1) := by decide +kernel
theorem dL_law_145 : decode cL_law 145 = .ok (.aload_n 0, 1) := by decide +kernel
theorem dL_law_146 : decode cL_law 146 = .ok (.iload_n 3, 1) := by decide +kernel
theorem dL_law_147 : decode cL_law 147 = .ok (.iconst 5, 1) := by decide +kernel
theorem dL_law_148 : decode cL_law 148 = .ok (.iadd, 1) := by decide +kernel
theorem dL_law_149 : decode cL_law 149 = .ok (.iaload, 1) := by decide +kernel
theorem dL_law_150 : decode cL_law 150 = .ok (.invokevirtual 13, 3) := by decide +kernel
theorem dL_law_153 : decode cL_law 153 = .ok (.aload_n 2, 1) := by decide +kernel
theorem dL_law_154 : decode cL_law 154 = .ok (.aload_n 0, 1) := by decide +kernel
theorem dL_law_155 : decode cL_law 155 = .ok (.iload_n 3, 1) := by decide +kernel
theorem dL_law_156 : decode cL_law 156 = .ok (.iconst 1, 1) := by decide +kernel
theorem dL_law_157 : decode cL_law 157 = .ok (.iadd, 1) := by decide +kernel
theorem dL_law_158 : decode cL_law 158 = .ok (.iaload, 1) := by decide +kernel
theorem dL_law_159 : decode cL_law 159 = .ok (.aload_n 0, 1) := by decide +kernel
theorem dL_law_160 : decode cL_law 160 = .ok (.iload_n 3, 1) := by decide +kernel
theorem dL_law_161 : decode cL_law 161 = .ok (.iconst 2, 1) := by decide +kernel
theorem dL_law_162 : decode cL_law 162 = .ok (.iadd, 1) := by decide +kernel
theorem dL_law_163 : decode cL_law 163 = .ok (.iaload, 1) := by decide +kernel
theorem dL_law_164 : decode cL_law 164 = .ok (.aload_n 0, 1) := by decide +kernel
theorem dL_law_165 : decode cL_law 165 = .ok (.iload_n 3, 1) := by decide +kernel
theorem dL_law_166 : decode cL_law 166 = .ok (.iconst 3, 1) := by decide +kernel
theorem dL_law_167 : decode cL_law 167 = .ok (.iadd, 1) := by decide +kernel
theorem dL_law_168 : decode cL_law 168 = .ok (.iaload, 1) := by decide +kernel
theorem dL_law_169 : decode cL_law 169 = .ok (.aload_n 0, 1) := by decide +kernel
theorem dL_law_170 : decode cL_law 170 = .ok (.iload_n 3, 1) := by decide +kernel
theorem dL_law_171 : decode cL_law 171 = .ok (.iconst 4, 1) := by decide +kernel
theorem dL_law_172 : decode cL_law 172 = .ok (.iadd, 1) := by decide +kernel
theorem dL_law_173 : decode cL_law 173 = .ok (.iaload, 1) := by decide +kernel
theorem dL_law_174 : decode cL_law 174 = .ok (.aload_n 0, 1) := by decide +kernel
theorem dL_law_175 : decode cL_law 175 = .ok (.iload_n 3, 1) := by decide +kernel
theorem dL_law_176 : decode cL_law 176 = .ok (.iconst 5, 1) := by decide +kernel
theorem dL_law_177 : decode cL_law 177 = .ok (.iadd, 1) := by decide +kernel
theorem dL_law_178 : decode cL_law 178 = .ok (.iaload, 1) := by decide +kernel
theorem dL_law_179 : decode cL_law 179 = .ok (.invokevirtual 17, 3) := by decide +kernel
theorem dL_law_182 : decode cL_law 182 = .ok (.if_icmp .eq 661, 3) := by decide +kernel
theorem dL_law_185 : decode cL_law 185 = .ok (.iconst 0, 1) := by decide +kernel
theorem dL_law_186 : decode cL_law 186 = .ok (.ireturn, 1) := by decide +kernel
theorem dL_law_187 : decode cL_law 187 = .ok (.aload_n 1, 1) := by decide +kernel
theorem dL_law_188 : decode cL_law 188 = .ok (.aload_n 0, 1) := by decide +kernel
theorem dL_law_189 : decode cL_law 189 = .ok (.iload_n 3, 1) := by decide +kernel
theorem dL_law_190 : decode cL_law 190 = .ok (.iconst 1, 1) := by decide +kernel
theorem dL_law_191 : decode cL_law 191 = .ok (.iadd, 1) := by decide +kernel
theorem dL_law_192 : decode cL_law 192 = .ok (.iaload, 1) := by decide +kernel
theorem dL_law_193 : decode cL_law 193 = .ok (.aload_n 0, 1) := by decide +kernel
theorem dL_law_194 : decode cL_law 194 = .ok (.iload_n 3, 1) := by decide +kernel
theorem dL_law_195 : decode cL_law 195 = .ok (.iconst 2, 1) := by decide +kernel
theorem dL_law_196 : decode cL_law 196 = .ok (.iadd, 1) := by decide +kernel
theorem dL_law_197 : decode cL_law 197 = .ok (.iaload, 1) := by decide +kernel
theorem dL_law_198 : decode cL_law 198 = .ok (.aload_n 0, 1) := by decide +kernel
theorem dL_law_199 : decode cL_law 199 = .ok (.iload_n 3, 1) := by decide +kernel
theorem dL_law_200 : decode cL_law 200 = .ok (.iconst 3, 1) := by decide +kernel
theorem dL_law_201 : decode cL_law 201 = .ok (.iadd, 1) := by decide +kernel
theorem dL_law_202 : decode cL_law 202 = .ok (.iaload, 1) := by decide +kernel
theorem dL_law_203 : decode cL_law 203 = .ok (.invokevirtual 18, 3) := by decide +kernel
theorem dL_law_206 : decode cL_law 206 = .ok (.aload_n 2, 1) := by decide +kernel
theorem dL_law_207 : decode cL_law 207 = .ok (.aload_n 0, 1) := by decide +kernel
theorem dL_law_208 : decode cL_law 208 = .ok (.iload_n 3, 1) := by decide +kernel
theorem dL_law_209 : decode cL_law 209 = .ok (.iconst 1, 1) := by decide +kernel
theorem dL_law_210 : decode cL_law 210 = .ok (.iadd, 1) := by decide +kernel
theorem dL_law_211 : decode cL_law 211 = .ok (.iaload, 1) := by decide +kernel
theorem dL_law_212 : decode cL_law 212 = .ok (.aload_n 0, 1) := by decide +kernel
theorem dL_law_213 : decode cL_law 213 = .ok (.iload_n 3, 1) := by decide +kernel
theorem dL_law_214 : decode cL_law 214 = .ok (.iconst 2, 1) := by decide +kernel
theorem dL_law_215 : decode cL_law 215 = .ok (.iadd, 1) := by decide +kernel
theorem dL_law_216 : decode cL_law 216 = .ok (.iaload, 1) := by decide +kernel
theorem dL_law_217 : decode cL_law 217 = .ok (.aload_n 0, 1) := by decide +kernel
theorem dL_law_218 : decode cL_law 218 = .ok (.iload_n 3, 1) := by decide +kernel
theorem dL_law_219 : decode cL_law 219 = .ok (.iconst 3, 1) := by decide +kernel
theorem dL_law_220 : decode cL_law 220 = .ok (.iadd, 1) := by decide +kernel
theorem dL_law_221 : decode cL_law 221 = .ok (.iaload, 1) := by decide +kernel
theorem dL_law_222 : decode cL_law 222 = .ok (.invokevirtual 22, 3) := by decide +kernel
theorem dL_law_225 : decode cL_law 225 = .ok (.if_icmp .eq 618, 3) := by decide +kernel
theorem dL_law_228 : decode cL_law 228 = .ok (.iconst 0, 1) := by decide +kernel
theorem dL_law_229 : decode cL_law 229 = .ok (.ireturn, 1) := by decide +kernel
theorem dL_law_230 : decode cL_law 230 = .ok (.aload_n 1, 1) := by decide +kernel
theorem dL_law_231 : decode cL_law 231 = .ok (.aload_n 0, 1) := by decide +kernel
theorem dL_law_232 : decode cL_law 232 = .ok (.iload_n 3, 1) := by decide +kernel
theorem dL_law_233 : decode cL_law 233 = .ok (.iconst 1, 1) := by decide +kernel
theorem dL_law_234 : decode cL_law 234 = .ok (.iadd, 1) := by decide +kernel
theorem dL_law_235 : decode cL_law 235 = .ok (.iaload, 1) := by decide +kernel
theorem dL_law_236 : decode cL_law 236 = .ok (.aload_n 0, 1) := by decide +kernel
theorem dL_law_237 : decode cL_law 237 = .ok (.iload_n 3, 1) := by decide +kernel
theorem dL_law_238 : decode cL_law 238 = .ok (.iconst 2, 1) := by decide +kernel
theorem dL_law_239 : decode cL_law 239 = .ok (.iadd, 1) := by decide +kernel
theorem dL_law_240 : decode cL_law 240 = .ok (.iaload, 1) := by decide +kernel
theorem dL_law_241 : decode cL_law 241 = .ok (.aload_n 0, 1) := by decide +kernel
theorem dL_law_242 : decode cL_law 242 = .ok (.iload_n 3, 1) := by decide +kernel
theorem dL_law_243 : decode cL_law 243 = .ok (.iconst 3, 1) := by decide +kernel
theorem dL_law_244 : decode cL_law 244 = .ok (.iadd, 1) := by decide +kernel
theorem dL_law_245 : decode cL_law 245 = .ok (.iaload, 1) := by decide +kernel
theorem dL_law_246 : decode cL_law 246 = .ok (.invokevirtual 23, 3) := by decide +kernel
theorem dL_law_249 : decode cL_law 249 = .ok (.aload_n 2, 1) := by decide +kernel
theorem dL_law_250 : decode cL_law 250 = .ok (.aload_n 0, 1) := by decide +kernel
theorem dL_law_251 : decode cL_law 251 = .ok (.iload_n 3, 1) := by decide +kernel
theorem dL_law_252 : decode cL_law 252 = .ok (.iconst 1, 1) := by decide +kernel
theorem dL_law_253 : decode cL_law 253 = .ok (.iadd, 1) := by decide +kernel
theorem dL_law_254 : decode cL_law 254 = .ok (.iaload, 1) := by decide +kernel
theorem dL_law_255 : decode cL_law 255 = .ok (.aload_n 0, 1) := by decide +kernel
theorem dL_law_256 : decode cL_law 256 = .ok (.iload_n 3, 1) := by decide +kernel
theorem dL_law_257 : decode cL_law 257 = .ok (.iconst 2, 1) := by decide +kernel
theorem dL_law_258 : decode cL_law 258 = .ok (.iadd, 1) := by decide +kernel
theorem dL_law_259 : decode cL_law 259 = .ok (.iaload, 1) := by decide +kernel
theorem dL_law_260 : decode cL_law 260 = .ok (.aload_n 0, 1) := by decide +kernel
theorem dL_law_261 : decode cL_law 261 = .ok (.iload_n 3, 1) := by decide +kernel
theorem dL_law_262 : decode cL_law 262 = .ok (.iconst 3, 1) := by decide +kernel
theorem dL_law_263 : decode cL_law 263 = .ok (.iadd, 1) := by decide +kernel
theorem dL_law_264 : decode cL_law 264 = .ok (.iaload, 1) := by decide +kernel
theorem dL_law_265 : decode cL_law 265 = .ok (.invokevirtual 27, 3) := by decide +kernel
theorem dL_law_268 : decode cL_law 268 = .ok (.if_icmp .eq 575, 3) := by decide +kernel
theorem dL_law_271 : decode cL_law 271 = .ok (.iconst 0, 1) := by decide +kernel
theorem dL_law_272 : decode cL_law 272 = .ok (.ireturn, 1) := by decide +kernel
theorem dL_law_273 : decode cL_law 273 = .ok (.aload_n 1, 1) := by decide +kernel
theorem dL_law_274 : decode cL_law 274 = .ok (.aload_n 0, 1) := by decide +kernel
theorem dL_law_275 : decode cL_law 275 = .ok (.iload_n 3, 1) := by decide +kernel
theorem dL_law_276 : decode cL_law 276 = .ok (.iconst 1, 1) := by decide +kernel
theorem dL_law_277 : decode cL_law 277 = .ok (.iadd, 1) := by decide +kernel
theorem dL_law_278 : decode cL_law 278 = .ok (.iaload, 1) := by decide +kernel
theorem dL_law_279 : decode cL_law 279 = .ok (.aload_n 0, 1) := by decide +kernel
theorem dL_law_280 : decode cL_law 280 = .ok (.iload_n 3, 1) := by decide +kernel
theorem dL_law_281 : decode cL_law 281 = .ok (.iconst 2, 1) := by decide +kernel
theorem dL_law_282 : decode cL_law 282 = .ok (.iadd, 1) := by decide +kernel
theorem dL_law_283 : decode cL_law 283 = .ok (.iaload, 1) := by decide +kernel
theorem dL_law_284 : decode cL_law 284 = .ok (.invokevirtual 28, 3) := by decide +kernel
theorem dL_law_287 : decode cL_law 287 = .ok (.aload_n 2, 1) := by decide +kernel
theorem dL_law_288 : decode cL_law 288 = .ok (.aload_n 0, 1) := by decide +kernel
theorem dL_law_289 : decode cL_law 289 = .ok (.iload_n 3, 1) := by decide +kernel
theorem dL_law_290 : decode cL_law 290 = .ok (.iconst 1, 1) := by decide +kernel
theorem dL_law_291 : decode cL_law 291 = .ok (.iadd, 1) := by decide +kernel
theorem dL_law_292 : decode cL_law 292 = .ok (.iaload, 1) := by decide +kernel
theorem dL_law_293 : decode cL_law 293 = .ok (.aload_n 0, 1) := by decide +kernel
theorem dL_law_294 : decode cL_law 294 = .ok (.iload_n 3, 1) := by decide +kernel
theorem dL_law_295 : decode cL_law 295 = .ok (.iconst 2, 1) := by decide +kernel
theorem dL_law_296 : decode cL_law 296 = .ok (.iadd, 1) := by decide +kernel
theorem dL_law_297 : decode cL_law 297 = .ok (.iaload, 1) := by decide +kernel
theorem dL_law_298 : decode cL_law 298 = .ok (.invokevirtual 32, 3) := by decide +kernel
theorem dL_law_301 : decode cL_law 301 = .ok (.if_icmp .eq 542, 3) := by decide +kernel
theorem dL_law_304 : decode cL_law 304 = .ok (.iconst 0, 1) := by decide +kernel
theorem dL_law_305 : decode cL_law 305 = .ok (.ireturn, 1) := by decide +kernel
theorem dL_law_306 : decode cL_law 306 = .ok (.aload_n 1, 1) := by decide +kernel
theorem dL_law_307 : decode cL_law 307 = .ok (.aload_n 0, 1) := by decide +kernel
theorem dL_law_308 : decode cL_law 308 = .ok (.iload_n 3, 1) := by decide +kernel
theorem dL_law_309 : decode cL_law 309 = .ok (.iconst 1, 1) := by decide +kernel
theorem dL_law_310 : decode cL_law 310 = .ok (.iadd, 1) := by decide +kernel
theorem dL_law_311 : decode cL_law 311 = .ok (.iaload, 1) := by decide +kernel
theorem dL_law_312 : decode cL_law 312 = .ok (.invokevirtual 33, 3) := by decide +kernel
theorem dL_law_315 : decode cL_law 315 = .ok (.aload_n 2, 1) := by decide +kernel
theorem dL_law_316 : decode cL_law 316 = .ok (.aload_n 0, 1) := by decide +kernel
theorem dL_law_317 : decode cL_law 317 = .ok (.iload_n 3, 1) := by decide +kernel
theorem dL_law_318 : decode cL_law 318 = .ok (.iconst 1, 1) := by decide +kernel
theorem dL_law_319 : decode cL_law 319 = .ok (.iadd, 1) := by decide +kernel
theorem dL_law_320 : decode cL_law 320 = .ok (.iaload, 1) := by decide +kernel
theorem dL_law_321 : decode cL_law 321 = .ok (.invokevirtual 37, 3) := by decide +kernel
theorem dL_law_324 : decode cL_law 324 = .ok (.if_icmp .eq 519, 3) := by decide +kernel
theorem dL_law_327 : decode cL_law 327 = .ok (.iconst 0, 1) := by decide +kernel
theorem dL_law_328 : decode cL_law 328 = .ok (.ireturn, 1) := by decide +kernel
theorem dL_law_329 : decode cL_law 329 = .ok (.aload_n 1, 1) := by decide +kernel
theorem dL_law_330 : decode cL_law 330 = .ok (.aload_n 0, 1) := by decide +kernel
theorem dL_law_331 : decode cL_law 331 = .ok (.iload_n 3, 1) := by decide +kernel
theorem dL_law_332 : decode cL_law 332 = .ok (.iconst 1, 1) := by decide +kernel
theorem dL_law_333 : decode cL_law 333 = .ok (.iadd, 1) := by decide +kernel
theorem dL_law_334 : decode cL_law 334 = .ok (.iaload, 1) := by decide +kernel
theorem dL_law_335 : decode cL_law 335 = .ok (.aload_n 0, 1) := by decide +kernel
theorem dL_law_336 : decode cL_law 336 = .ok (.iload_n 3, 1) := by decide +kernel
theorem dL_law_337 : decode cL_law 337 = .ok (.iconst 2, 1) := by decide +kernel
theorem dL_law_338 : decode cL_law 338 = .ok (.iadd, 1) := by decide +kernel
theorem dL_law_339 : decode cL_law 339 = .ok (.iaload, 1) := by decide +kernel
theorem dL_law_340 : decode cL_law 340 = .ok (.invokevirtual 38, 3) := by decide +kernel
theorem dL_law_343 : decode cL_law 343 = .ok (.aload_n 2, 1) := by decide +kernel
theorem dL_law_344 : decode cL_law 344 = .ok (.aload_n 0, 1) := by decide +kernel
theorem dL_law_345 : decode cL_law 345 = .ok (.iload_n 3, 1) := by decide +kernel
theorem dL_law_346 : decode cL_law 346 = .ok (.iconst 1, 1) := by decide +kernel
theorem dL_law_347 : decode cL_law 347 = .ok (.iadd, 1) := by decide +kernel
theorem dL_law_348 : decode cL_law 348 = .ok (.iaload, 1) := by decide +kernel
theorem dL_law_349 : decode cL_law 349 = .ok (.aload_n 0, 1) := by decide +kernel
theorem dL_law_350 : decode cL_law 350 = .ok (.iload_n 3, 1) := by decide +kernel
theorem dL_law_351 : decode cL_law 351 = .ok (.iconst 2, 1) := by decide +kernel
theorem dL_law_352 : decode cL_law 352 = .ok (.iadd, 1) := by decide +kernel
theorem dL_law_353 : decode cL_law 353 = .ok (.iaload, 1) := by decide +kernel
theorem dL_law_354 : decode cL_law 354 = .ok (.invokevirtual 41, 3) := by decide +kernel
theorem dL_law_357 : decode cL_law 357 = .ok (.if_icmp .eq 486, 3) := by decide +kernel
theorem dL_law_360 : decode cL_law 360 = .ok (.iconst 0, 1) := by decide +kernel
theorem dL_law_361 : decode cL_law 361 = .ok (.ireturn, 1) := by decide +kernel
theorem dL_law_362 : decode cL_law 362 = .ok (.aload_n 1, 1) := by decide +kernel
theorem dL_law_363 : decode cL_law 363 = .ok (.invokevirtual 42, 3) := by decide +kernel
theorem dL_law_366 : decode cL_law 366 = .ok (.aload_n 2, 1) := by decide +kernel
theorem dL_law_367 : decode cL_law 367 = .ok (.invokevirtual 46, 3) := by decide +kernel
theorem dL_law_370 : decode cL_law 370 = .ok (.if_icmp .eq 473, 3) := by decide +kernel
theorem dL_law_373 : decode cL_law 373 = .ok (.iconst 0, 1) := by decide +kernel
theorem dL_law_374 : decode cL_law 374 = .ok (.ireturn, 1) := by decide +kernel
theorem dL_law_375 : decode cL_law 375 = .ok (.aload_n 1, 1) := by decide +kernel
theorem dL_law_376 : decode cL_law 376 = .ok (.aload_n 0, 1) := by decide +kernel
theorem dL_law_377 : decode cL_law 377 = .ok (.iload_n 3, 1) := by decide +kernel
theorem dL_law_378 : decode cL_law 378 = .ok (.iconst 1, 1) := by decide +kernel
theorem dL_law_379 : decode cL_law 379 = .ok (.iadd, 1) := by decide +kernel
theorem dL_law_380 : decode cL_law 380 = .ok (.iaload, 1) := by decide +kernel
theorem dL_law_381 : decode cL_law 381 = .ok (.aload_n 0, 1) := by decide +kernel
theorem dL_law_382 : decode cL_law 382 = .ok (.iload_n 3, 1) := by decide +kernel
theorem dL_law_383 : decode cL_law 383 = .ok (.iconst 2, 1) := by decide +kernel
theorem dL_law_384 : decode cL_law 384 = .ok (.iadd, 1) := by decide +kernel
theorem dL_law_385 : decode cL_law 385 = .ok (.iaload, 1) := by decide +kernel
theorem dL_law_386 : decode cL_law 386 = .ok (.aload_n 0, 1) := by decide +kernel
theorem dL_law_387 : decode cL_law 387 = .ok (.iload_n 3, 1) := by decide +kernel
theorem dL_law_388 : decode cL_law 388 = .ok (.iconst 3, 1) := by decide +kernel
theorem dL_law_389 : decode cL_law 389 = .ok (.iadd, 1) := by decide +kernel
theorem dL_law_390 : decode cL_law 390 = .ok (.iaload, 1) := by decide +kernel
theorem dL_law_391 : decode cL_law 391 = .ok (.invokevirtual 47, 3) := by decide +kernel
theorem dL_law_394 : decode cL_law 394 = .ok (.aload_n 2, 1) := by decide +kernel
theorem dL_law_395 : decode cL_law 395 = .ok (.aload_n 0, 1) := by decide +kernel
theorem dL_law_396 : decode cL_law 396 = .ok (.iload_n 3, 1) := by decide +kernel
theorem dL_law_397 : decode cL_law 397 = .ok (.iconst 1, 1) := by decide +kernel
theorem dL_law_398 : decode cL_law 398 = .ok (.iadd, 1) := by decide +kernel
theorem dL_law_399 : decode cL_law 399 = .ok (.iaload, 1) := by decide +kernel
theorem dL_law_400 : decode cL_law 400 = .ok (.aload_n 0, 1) := by decide +kernel
theorem dL_law_401 : decode cL_law 401 = .ok (.iload_n 3, 1) := by decide +kernel
theorem dL_law_402 : decode cL_law 402 = .ok (.iconst 2, 1) := by decide +kernel
theorem dL_law_403 : decode cL_law 403 = .ok (.iadd, 1) := by decide +kernel
theorem dL_law_404 : decode cL_law 404 = .ok (.iaload, 1) := by decide +kernel
theorem dL_law_405 : decode cL_law 405 = .ok (.aload_n 0, 1) := by decide +kernel
theorem dL_law_406 : decode cL_law 406 = .ok (.iload_n 3, 1) := by decide +kernel
theorem dL_law_407 : decode cL_law 407 = .ok (.iconst 3, 1) := by decide +kernel
theorem dL_law_408 : decode cL_law 408 = .ok (.iadd, 1) := by decide +kernel
theorem dL_law_409 : decode cL_law 409 = .ok (.iaload, 1) := by decide +kernel
theorem dL_law_410 : decode cL_law 410 = .ok (.invokevirtual 50, 3) := by decide +kernel
theorem dL_law_413 : decode cL_law 413 = .ok (.if_icmp .eq 430, 3) := by decide +kernel
theorem dL_law_416 : decode cL_law 416 = .ok (.iconst 0, 1) := by decide +kernel
theorem dL_law_417 : decode cL_law 417 = .ok (.ireturn, 1) := by decide +kernel
theorem dL_law_418 : decode cL_law 418 = .ok (.aload_n 1, 1) := by decide +kernel
theorem dL_law_419 : decode cL_law 419 = .ok (.aload_n 0, 1) := by decide +kernel
theorem dL_law_420 : decode cL_law 420 = .ok (.iload_n 3, 1) := by decide +kernel
theorem dL_law_421 : decode cL_law 421 = .ok (.iconst 1, 1) := by decide +kernel
theorem dL_law_422 : decode cL_law 422 = .ok (.iadd, 1) := by decide +kernel
theorem dL_law_423 : decode cL_law 423 = .ok (.iaload, 1) := by decide +kernel
theorem dL_law_424 : decode cL_law 424 = .ok (.aload_n 0, 1) := by decide +kernel
theorem dL_law_425 : decode cL_law 425 = .ok (.iload_n 3, 1) := by decide +kernel
theorem dL_law_426 : decode cL_law 426 = .ok (.iconst 2, 1) := by decide +kernel
theorem dL_law_427 : decode cL_law 427 = .ok (.iadd, 1) := by decide +kernel
theorem dL_law_428 : decode cL_law 428 = .ok (.iaload, 1) := by decide +kernel
theorem dL_law_429 : decode cL_law 429 = .ok (.aload_n 0, 1) := by decide +kernel
theorem dL_law_430 : decode cL_law 430 = .ok (.iload_n 3, 1) := by decide +kernel
theorem dL_law_431 : decode cL_law 431 = .ok (.iconst 3, 1) := by decide +kernel
theorem dL_law_432 : decode cL_law 432 = .ok (.iadd, 1) := by decide +kernel
theorem dL_law_433 : decode cL_law 433 = .ok (.iaload, 1) := by decide +kernel
theorem dL_law_434 : decode cL_law 434 = .ok (.invokevirtual 51, 3) := by decide +kernel
theorem dL_law_437 : decode cL_law 437 = .ok (.aload_n 2, 1) := by decide +kernel
theorem dL_law_438 : decode cL_law 438 = .ok (.aload_n 0, 1) := by decide +kernel
theorem dL_law_439 : decode cL_law 439 = .ok (.iload_n 3, 1) := by decide +kernel
theorem dL_law_440 : decode cL_law 440 = .ok (.iconst 1, 1) := by decide +kernel
theorem dL_law_441 : decode cL_law 441 = .ok (.iadd, 1) := by decide +kernel
theorem dL_law_442 : decode cL_law 442 = .ok (.iaload, 1) := by decide +kernel
theorem dL_law_443 : decode cL_law 443 = .ok (.aload_n 0, 1) := by decide +kernel
theorem dL_law_444 : decode cL_law 444 = .ok (.iload_n 3, 1) := by decide +kernel
theorem dL_law_445 : decode cL_law 445 = .ok (.iconst 2, 1) := by decide +kernel
theorem dL_law_446 : decode cL_law 446 = .ok (.iadd, 1) := by decide +kernel
theorem dL_law_447 : decode cL_law 447 = .ok (.iaload, 1) := by decide +kernel
theorem dL_law_448 : decode cL_law 448 = .ok (.aload_n 0, 1) := by decide +kernel
theorem dL_law_449 : decode cL_law 449 = .ok (.iload_n 3, 1) := by decide +kernel
theorem dL_law_450 : decode cL_law 450 = .ok (.iconst 3, 1) := by decide +kernel
theorem dL_law_451 : decode cL_law 451 = .ok (.iadd, 1) := by decide +kernel
theorem dL_law_452 : decode cL_law 452 = .ok (.iaload, 1) := by decide +kernel
theorem dL_law_453 : decode cL_law 453 = .ok (.invokevirtual 55, 3) := by decide +kernel
theorem dL_law_456 : decode cL_law 456 = .ok (.lcmp, 1) := by decide +kernel
theorem dL_law_457 : decode cL_law 457 = .ok (.ifCond .eq 386, 3) := by decide +kernel
theorem dL_law_460 : decode cL_law 460 = .ok (.iconst 0, 1) := by decide +kernel
theorem dL_law_461 : decode cL_law 461 = .ok (.ireturn, 1) := by decide +kernel
theorem dL_law_462 : decode cL_law 462 = .ok (.aload_n 1, 1) := by decide +kernel
theorem dL_law_463 : decode cL_law 463 = .ok (.aload_n 0, 1) := by decide +kernel
theorem dL_law_464 : decode cL_law 464 = .ok (.iload_n 3, 1) := by decide +kernel
theorem dL_law_465 : decode cL_law 465 = .ok (.iconst 1, 1) := by decide +kernel
theorem dL_law_466 : decode cL_law 466 = .ok (.iadd, 1) := by decide +kernel
theorem dL_law_467 : decode cL_law 467 = .ok (.iaload, 1) := by decide +kernel
theorem dL_law_468 : decode cL_law 468 = .ok (.aload_n 0, 1) := by decide +kernel
theorem dL_law_469 : decode cL_law 469 = .ok (.iload_n 3, 1) := by decide +kernel
theorem dL_law_470 : decode cL_law 470 = .ok (.iconst 2, 1) := by decide +kernel
theorem dL_law_471 : decode cL_law 471 = .ok (.iadd, 1) := by decide +kernel
theorem dL_law_472 : decode cL_law 472 = .ok (.iaload, 1) := by decide +kernel
theorem dL_law_473 : decode cL_law 473 = .ok (.aload_n 0, 1) := by decide +kernel
theorem dL_law_474 : decode cL_law 474 = .ok (.iload_n 3, 1) := by decide +kernel
theorem dL_law_475 : decode cL_law 475 = .ok (.iconst 3, 1) := by decide +kernel
theorem dL_law_476 : decode cL_law 476 = .ok (.iadd, 1) := by decide +kernel
theorem dL_law_477 : decode cL_law 477 = .ok (.iaload, 1) := by decide +kernel
theorem dL_law_478 : decode cL_law 478 = .ok (.invokevirtual 56, 3) := by decide +kernel
theorem dL_law_481 : decode cL_law 481 = .ok (.aload_n 2, 1) := by decide +kernel
theorem dL_law_482 : decode cL_law 482 = .ok (.aload_n 0, 1) := by decide +kernel
theorem dL_law_483 : decode cL_law 483 = .ok (.iload_n 3, 1) := by decide +kernel
theorem dL_law_484 : decode cL_law 484 = .ok (.iconst 1, 1) := by decide +kernel
theorem dL_law_485 : decode cL_law 485 = .ok (.iadd, 1) := by decide +kernel
theorem dL_law_486 : decode cL_law 486 = .ok (.iaload, 1) := by decide +kernel
theorem dL_law_487 : decode cL_law 487 = .ok (.aload_n 0, 1) := by decide +kernel
theorem dL_law_488 : decode cL_law 488 = .ok (.iload_n 3, 1) := by decide +kernel
theorem dL_law_489 : decode cL_law 489 = .ok (.iconst 2, 1) := by decide +kernel
theorem dL_law_490 : decode cL_law 490 = .ok (.iadd, 1) := by decide +kernel
theorem dL_law_491 : decode cL_law 491 = .ok (.iaload, 1) := by decide +kernel
theorem dL_law_492 : decode cL_law 492 = .ok (.aload_n 0, 1) := by decide +kernel
theorem dL_law_493 : decode cL_law 493 = .ok (.iload_n 3, 1) := by decide +kernel
theorem dL_law_494 : decode cL_law 494 = .ok (.iconst 3, 1) := by decide +kernel
theorem dL_law_495 : decode cL_law 495 = .ok (.iadd, 1) := by decide +kernel
theorem dL_law_496 : decode cL_law 496 = .ok (.iaload, 1) := by decide +kernel
theorem dL_law_497 : decode cL_law 497 = .ok (.invokevirtual 59, 3) := by decide +kernel
theorem dL_law_500 : decode cL_law 500 = .ok (.if_icmp .eq 343, 3) := by decide +kernel
theorem dL_law_503 : decode cL_law 503 = .ok (.iconst 0, 1) := by decide +kernel
theorem dL_law_504 : decode cL_law 504 = .ok (.ireturn, 1) := by decide +kernel
theorem dL_law_505 : decode cL_law 505 = .ok (.aload_n 1, 1) := by decide +kernel
theorem dL_law_506 : decode cL_law 506 = .ok (.aload_n 0, 1) := by decide +kernel
theorem dL_law_507 : decode cL_law 507 = .ok (.iload_n 3, 1) := by decide +kernel
theorem dL_law_508 : decode cL_law 508 = .ok (.iconst 1, 1) := by decide +kernel
theorem dL_law_509 : decode cL_law 509 = .ok (.iadd, 1) := by decide +kernel
theorem dL_law_510 : decode cL_law 510 = .ok (.iaload, 1) := by decide +kernel
theorem dL_law_511 : decode cL_law 511 = .ok (.aload_n 0, 1) := by decide +kernel
theorem dL_law_512 : decode cL_law 512 = .ok (.iload_n 3, 1) := by decide +kernel
theorem dL_law_513 : decode cL_law 513 = .ok (.iconst 2, 1) := by decide +kernel
theorem dL_law_514 : decode cL_law 514 = .ok (.iadd, 1) := by decide +kernel
theorem dL_law_515 : decode cL_law 515 = .ok (.iaload, 1) := by decide +kernel
theorem dL_law_516 : decode cL_law 516 = .ok (.aload_n 0, 1) := by decide +kernel
theorem dL_law_517 : decode cL_law 517 = .ok (.iload_n 3, 1) := by decide +kernel
theorem dL_law_518 : decode cL_law 518 = .ok (.iconst 3, 1) := by decide +kernel
theorem dL_law_519 : decode cL_law 519 = .ok (.iadd, 1) := by decide +kernel
theorem dL_law_520 : decode cL_law 520 = .ok (.iaload, 1) := by decide +kernel
theorem dL_law_521 : decode cL_law 521 = .ok (.invokevirtual 60, 3) := by decide +kernel
theorem dL_law_524 : decode cL_law 524 = .ok (.aload_n 2, 1) := by decide +kernel
theorem dL_law_525 : decode cL_law 525 = .ok (.aload_n 0, 1) := by decide +kernel
theorem dL_law_526 : decode cL_law 526 = .ok (.iload_n 3, 1) := by decide +kernel
theorem dL_law_527 : decode cL_law 527 = .ok (.iconst 1, 1) := by decide +kernel
theorem dL_law_528 : decode cL_law 528 = .ok (.iadd, 1) := by decide +kernel
theorem dL_law_529 : decode cL_law 529 = .ok (.iaload, 1) := by decide +kernel
theorem dL_law_530 : decode cL_law 530 = .ok (.aload_n 0, 1) := by decide +kernel
theorem dL_law_531 : decode cL_law 531 = .ok (.iload_n 3, 1) := by decide +kernel
theorem dL_law_532 : decode cL_law 532 = .ok (.iconst 2, 1) := by decide +kernel
theorem dL_law_533 : decode cL_law 533 = .ok (.iadd, 1) := by decide +kernel
theorem dL_law_534 : decode cL_law 534 = .ok (.iaload, 1) := by decide +kernel
theorem dL_law_535 : decode cL_law 535 = .ok (.aload_n 0, 1) := by decide +kernel
theorem dL_law_536 : decode cL_law 536 = .ok (.iload_n 3, 1) := by decide +kernel
theorem dL_law_537 : decode cL_law 537 = .ok (.iconst 3, 1) := by decide +kernel
theorem dL_law_538 : decode cL_law 538 = .ok (.iadd, 1) := by decide +kernel
theorem dL_law_539 : decode cL_law 539 = .ok (.iaload, 1) := by decide +kernel
theorem dL_law_540 : decode cL_law 540 = .ok (.invokevirtual 63, 3) := by decide +kernel
theorem dL_law_543 : decode cL_law 543 = .ok (.lcmp, 1) := by decide +kernel
theorem dL_law_544 : decode cL_law 544 = .ok (.ifCond .eq 299, 3) := by decide +kernel
theorem dL_law_547 : decode cL_law 547 = .ok (.iconst 0, 1) := by decide +kernel
theorem dL_law_548 : decode cL_law 548 = .ok (.ireturn, 1) := by decide +kernel
theorem dL_law_549 : decode cL_law 549 = .ok (.aload_n 1, 1) := by decide +kernel
theorem dL_law_550 : decode cL_law 550 = .ok (.aload_n 0, 1) := by decide +kernel
theorem dL_law_551 : decode cL_law 551 = .ok (.iload_n 3, 1) := by decide +kernel
theorem dL_law_552 : decode cL_law 552 = .ok (.iconst 1, 1) := by decide +kernel
theorem dL_law_553 : decode cL_law 553 = .ok (.iadd, 1) := by decide +kernel
theorem dL_law_554 : decode cL_law 554 = .ok (.iaload, 1) := by decide +kernel
theorem dL_law_555 : decode cL_law 555 = .ok (.aload_n 0, 1) := by decide +kernel
theorem dL_law_556 : decode cL_law 556 = .ok (.iload_n 3, 1) := by decide +kernel
theorem dL_law_557 : decode cL_law 557 = .ok (.iconst 2, 1) := by decide +kernel
theorem dL_law_558 : decode cL_law 558 = .ok (.iadd, 1) := by decide +kernel
theorem dL_law_559 : decode cL_law 559 = .ok (.iaload, 1) := by decide +kernel
theorem dL_law_560 : decode cL_law 560 = .ok (.aload_n 0, 1) := by decide +kernel
theorem dL_law_561 : decode cL_law 561 = .ok (.iload_n 3, 1) := by decide +kernel
theorem dL_law_562 : decode cL_law 562 = .ok (.iconst 3, 1) := by decide +kernel
theorem dL_law_563 : decode cL_law 563 = .ok (.iadd, 1) := by decide +kernel
theorem dL_law_564 : decode cL_law 564 = .ok (.iaload, 1) := by decide +kernel
theorem dL_law_565 : decode cL_law 565 = .ok (.invokevirtual 64, 3) := by decide +kernel
theorem dL_law_568 : decode cL_law 568 = .ok (.aload_n 2, 1) := by decide +kernel
theorem dL_law_569 : decode cL_law 569 = .ok (.aload_n 0, 1) := by decide +kernel
theorem dL_law_570 : decode cL_law 570 = .ok (.iload_n 3, 1) := by decide +kernel
theorem dL_law_571 : decode cL_law 571 = .ok (.iconst 1, 1) := by decide +kernel
theorem dL_law_572 : decode cL_law 572 = .ok (.iadd, 1) := by decide +kernel
theorem dL_law_573 : decode cL_law 573 = .ok (.iaload, 1) := by decide +kernel
theorem dL_law_574 : decode cL_law 574 = .ok (.aload_n 0, 1) := by decide +kernel
theorem dL_law_575 : decode cL_law 575 = .ok (.iload_n 3, 1) := by decide +kernel
theorem dL_law_576 : decode cL_law 576 = .ok (.iconst 2, 1) := by decide +kernel
theorem dL_law_577 : decode cL_law 577 = .ok (.iadd, 1) := by decide +kernel
theorem dL_law_578 : decode cL_law 578 = .ok (.iaload, 1) := by decide +kernel
theorem dL_law_579 : decode cL_law 579 = .ok (.aload_n 0, 1) := by decide +kernel
theorem dL_law_580 : decode cL_law 580 = .ok (.iload_n 3, 1) := by decide +kernel
theorem dL_law_581 : decode cL_law 581 = .ok (.iconst 3, 1) := by decide +kernel
theorem dL_law_582 : decode cL_law 582 = .ok (.iadd, 1) := by decide +kernel
theorem dL_law_583 : decode cL_law 583 = .ok (.iaload, 1) := by decide +kernel
theorem dL_law_584 : decode cL_law 584 = .ok (.invokevirtual 67, 3) := by decide +kernel
theorem dL_law_587 : decode cL_law 587 = .ok (.if_icmp .eq 256, 3) := by decide +kernel
theorem dL_law_590 : decode cL_law 590 = .ok (.iconst 0, 1) := by decide +kernel
theorem dL_law_591 : decode cL_law 591 = .ok (.ireturn, 1) := by decide +kernel
theorem dL_law_592 : decode cL_law 592 = .ok (.aload_n 1, 1) := by decide +kernel
theorem dL_law_593 : decode cL_law 593 = .ok (.aload_n 0, 1) := by decide +kernel
theorem dL_law_594 : decode cL_law 594 = .ok (.iload_n 3, 1) := by decide +kernel
theorem dL_law_595 : decode cL_law 595 = .ok (.iconst 1, 1) := by decide +kernel
theorem dL_law_596 : decode cL_law 596 = .ok (.iadd, 1) := by decide +kernel
theorem dL_law_597 : decode cL_law 597 = .ok (.iaload, 1) := by decide +kernel
theorem dL_law_598 : decode cL_law 598 = .ok (.aload_n 0, 1) := by decide +kernel
theorem dL_law_599 : decode cL_law 599 = .ok (.iload_n 3, 1) := by decide +kernel
theorem dL_law_600 : decode cL_law 600 = .ok (.iconst 2, 1) := by decide +kernel
theorem dL_law_601 : decode cL_law 601 = .ok (.iadd, 1) := by decide +kernel
theorem dL_law_602 : decode cL_law 602 = .ok (.iaload, 1) := by decide +kernel
theorem dL_law_603 : decode cL_law 603 = .ok (.invokevirtual 68, 3) := by decide +kernel
theorem dL_law_606 : decode cL_law 606 = .ok (.aload_n 2, 1) := by decide +kernel
theorem dL_law_607 : decode cL_law 607 = .ok (.aload_n 0, 1) := by decide +kernel
theorem dL_law_608 : decode cL_law 608 = .ok (.iload_n 3, 1) := by decide +kernel
theorem dL_law_609 : decode cL_law 609 = .ok (.iconst 1, 1) := by decide +kernel
theorem dL_law_610 : decode cL_law 610 = .ok (.iadd, 1) := by decide +kernel
theorem dL_law_611 : decode cL_law 611 = .ok (.iaload, 1) := by decide +kernel
theorem dL_law_612 : decode cL_law 612 = .ok (.aload_n 0, 1) := by decide +kernel
theorem dL_law_613 : decode cL_law 613 = .ok (.iload_n 3, 1) := by decide +kernel
theorem dL_law_614 : decode cL_law 614 = .ok (.iconst 2, 1) := by decide +kernel
theorem dL_law_615 : decode cL_law 615 = .ok (.iadd, 1) := by decide +kernel
theorem dL_law_616 : decode cL_law 616 = .ok (.iaload, 1) := by decide +kernel
theorem dL_law_617 : decode cL_law 617 = .ok (.invokevirtual 72, 3) := by decide +kernel
theorem dL_law_620 : decode cL_law 620 = .ok (.if_icmp .eq 223, 3) := by decide +kernel
theorem dL_law_623 : decode cL_law 623 = .ok (.iconst 0, 1) := by decide +kernel
theorem dL_law_624 : decode cL_law 624 = .ok (.ireturn, 1) := by decide +kernel
theorem dL_law_625 : decode cL_law 625 = .ok (.aload_n 1, 1) := by decide +kernel
theorem dL_law_626 : decode cL_law 626 = .ok (.aload_n 0, 1) := by decide +kernel
theorem dL_law_627 : decode cL_law 627 = .ok (.iload_n 3, 1) := by decide +kernel
theorem dL_law_628 : decode cL_law 628 = .ok (.iconst 1, 1) := by decide +kernel
theorem dL_law_629 : decode cL_law 629 = .ok (.iadd, 1) := by decide +kernel
theorem dL_law_630 : decode cL_law 630 = .ok (.iaload, 1) := by decide +kernel
theorem dL_law_631 : decode cL_law 631 = .ok (.aload_n 0, 1) := by decide +kernel
theorem dL_law_632 : decode cL_law 632 = .ok (.iload_n 3, 1) := by decide +kernel
theorem dL_law_633 : decode cL_law 633 = .ok (.iconst 2, 1) := by decide +kernel
theorem dL_law_634 : decode cL_law 634 = .ok (.iadd, 1) := by decide +kernel
theorem dL_law_635 : decode cL_law 635 = .ok (.iaload, 1) := by decide +kernel
theorem dL_law_636 : decode cL_law 636 = .ok (.invokevirtual 73, 3) := by decide +kernel
theorem dL_law_639 : decode cL_law 639 = .ok (.aload_n 2, 1) := by decide +kernel
theorem dL_law_640 : decode cL_law 640 = .ok (.aload_n 0, 1) := by decide +kernel
theorem dL_law_641 : decode cL_law 641 = .ok (.iload_n 3, 1) := by decide +kernel
theorem dL_law_642 : decode cL_law 642 = .ok (.iconst 1, 1) := by decide +kernel
theorem dL_law_643 : decode cL_law 643 = .ok (.iadd, 1) := by decide +kernel
theorem dL_law_644 : decode cL_law 644 = .ok (.iaload, 1) := by decide +kernel
theorem dL_law_645 : decode cL_law 645 = .ok (.aload_n 0, 1) := by decide +kernel
theorem dL_law_646 : decode cL_law 646 = .ok (.iload_n 3, 1) := by decide +kernel
theorem dL_law_647 : decode cL_law 647 = .ok (.iconst 2, 1) := by decide +kernel
theorem dL_law_648 : decode cL_law 648 = .ok (.iadd, 1) := by decide +kernel
theorem dL_law_649 : decode cL_law 649 = .ok (.iaload, 1) := by decide +kernel
theorem dL_law_650 : decode cL_law 650 = .ok (.invokevirtual 76, 3) := by decide +kernel
theorem dL_law_653 : decode cL_law 653 = .ok (.if_icmp .eq 190, 3) := by decide +kernel
theorem dL_law_656 : decode cL_law 656 = .ok (.iconst 0, 1) := by decide +kernel
theorem dL_law_657 : decode cL_law 657 = .ok (.ireturn, 1) := by decide +kernel
theorem dL_law_658 : decode cL_law 658 = .ok (.aload_n 1, 1) := by decide +kernel
theorem dL_law_659 : decode cL_law 659 = .ok (.aload_n 0, 1) := by decide +kernel
theorem dL_law_660 : decode cL_law 660 = .ok (.iload_n 3, 1) := by decide +kernel
theorem dL_law_661 : decode cL_law 661 = .ok (.iconst 1, 1) := by decide +kernel
theorem dL_law_662 : decode cL_law 662 = .ok (.iadd, 1) := by decide +kernel
theorem dL_law_663 : decode cL_law 663 = .ok (.iaload, 1) := by decide +kernel
theorem dL_law_664 : decode cL_law 664 = .ok (.aload_n 0, 1) := by decide +kernel
theorem dL_law_665 : decode cL_law 665 = .ok (.iload_n 3, 1) := by decide +kernel
theorem dL_law_666 : decode cL_law 666 = .ok (.iconst 2, 1) := by decide +kernel
theorem dL_law_667 : decode cL_law 667 = .ok (.iadd, 1) := by decide +kernel
theorem dL_law_668 : decode cL_law 668 = .ok (.iaload, 1) := by decide +kernel
theorem dL_law_669 : decode cL_law 669 = .ok (.aload_n 0, 1) := by decide +kernel
theorem dL_law_670 : decode cL_law 670 = .ok (.iload_n 3, 1) := by decide +kernel
theorem dL_law_671 : decode cL_law 671 = .ok (.iconst 3, 1) := by decide +kernel
theorem dL_law_672 : decode cL_law 672 = .ok (.iadd, 1) := by decide +kernel
theorem dL_law_673 : decode cL_law 673 = .ok (.iaload, 1) := by decide +kernel
theorem dL_law_674 : decode cL_law 674 = .ok (.invokevirtual 77, 3) := by decide +kernel
theorem dL_law_677 : decode cL_law 677 = .ok (.aload_n 2, 1) := by decide +kernel
theorem dL_law_678 : decode cL_law 678 = .ok (.aload_n 0, 1) := by decide +kernel
theorem dL_law_679 : decode cL_law 679 = .ok (.iload_n 3, 1) := by decide +kernel
theorem dL_law_680 : decode cL_law 680 = .ok (.iconst 1, 1) := by decide +kernel
theorem dL_law_681 : decode cL_law 681 = .ok (.iadd, 1) := by decide +kernel
theorem dL_law_682 : decode cL_law 682 = .ok (.iaload, 1) := by decide +kernel
theorem dL_law_683 : decode cL_law 683 = .ok (.aload_n 0, 1) := by decide +kernel
theorem dL_law_684 : decode cL_law 684 = .ok (.iload_n 3, 1) := by decide +kernel
theorem dL_law_685 : decode cL_law 685 = .ok (.iconst 2, 1) := by decide +kernel
theorem dL_law_686 : decode cL_law 686 = .ok (.iadd, 1) := by decide +kernel
theorem dL_law_687 : decode cL_law 687 = .ok (.iaload, 1) := by decide +kernel
theorem dL_law_688 : decode cL_law 688 = .ok (.aload_n 0, 1) := by decide +kernel
theorem dL_law_689 : decode cL_law 689 = .ok (.iload_n 3, 1) := by decide +kernel
theorem dL_law_690 : decode cL_law 690 = .ok (.iconst 3, 1) := by decide +kernel
theorem dL_law_691 : decode cL_law 691 = .ok (.iadd, 1) := by decide +kernel
theorem dL_law_692 : decode cL_law 692 = .ok (.iaload, 1) := by decide +kernel
theorem dL_law_693 : decode cL_law 693 = .ok (.invokevirtual 80, 3) := by decide +kernel
theorem dL_law_696 : decode cL_law 696 = .ok (.if_icmp .eq 147, 3) := by decide +kernel
theorem dL_law_699 : decode cL_law 699 = .ok (.iconst 0, 1) := by decide +kernel
theorem dL_law_700 : decode cL_law 700 = .ok (.ireturn, 1) := by decide +kernel
theorem dL_law_701 : decode cL_law 701 = .ok (.aload_n 1, 1) := by decide +kernel
theorem dL_law_702 : decode cL_law 702 = .ok (.aload_n 0, 1) := by decide +kernel
theorem dL_law_703 : decode cL_law 703 = .ok (.iload_n 3, 1) := by decide +kernel
theorem dL_law_704 : decode cL_law 704 = .ok (.iconst 1, 1) := by decide +kernel
theorem dL_law_705 : decode cL_law 705 = .ok (.iadd, 1) := by decide +kernel
theorem dL_law_706 : decode cL_law 706 = .ok (.iaload, 1) := by decide +kernel
theorem dL_law_707 : decode cL_law 707 = .ok (.aload_n 0, 1) := by decide +kernel
theorem dL_law_708 : decode cL_law 708 = .ok (.iload_n 3, 1) := by decide +kernel
theorem dL_law_709 : decode cL_law 709 = .ok (.iconst 2, 1) := by decide +kernel
theorem dL_law_710 : decode cL_law 710 = .ok (.iadd, 1) := by decide +kernel
theorem dL_law_711 : decode cL_law 711 = .ok (.iaload, 1) := by decide +kernel
theorem dL_law_712 : decode cL_law 712 = .ok (.invokevirtual 81, 3) := by decide +kernel
theorem dL_law_715 : decode cL_law 715 = .ok (.aload_n 2, 1) := by decide +kernel
theorem dL_law_716 : decode cL_law 716 = .ok (.aload_n 0, 1) := by decide +kernel
theorem dL_law_717 : decode cL_law 717 = .ok (.iload_n 3, 1) := by decide +kernel
theorem dL_law_718 : decode cL_law 718 = .ok (.iconst 1, 1) := by decide +kernel
theorem dL_law_719 : decode cL_law 719 = .ok (.iadd, 1) := by decide +kernel
theorem dL_law_720 : decode cL_law 720 = .ok (.iaload, 1) := by decide +kernel
theorem dL_law_721 : decode cL_law 721 = .ok (.aload_n 0, 1) := by decide +kernel
theorem dL_law_722 : decode cL_law 722 = .ok (.iload_n 3, 1) := by decide +kernel
theorem dL_law_723 : decode cL_law 723 = .ok (.iconst 2, 1) := by decide +kernel
theorem dL_law_724 : decode cL_law 724 = .ok (.iadd, 1) := by decide +kernel
theorem dL_law_725 : decode cL_law 725 = .ok (.iaload, 1) := by decide +kernel
theorem dL_law_726 : decode cL_law 726 = .ok (.invokevirtual 84, 3) := by decide +kernel
theorem dL_law_729 : decode cL_law 729 = .ok (.if_icmp .eq 114, 3) := by decide +kernel
theorem dL_law_732 : decode cL_law 732 = .ok (.iconst 0, 1) := by decide +kernel
theorem dL_law_733 : decode cL_law 733 = .ok (.ireturn, 1) := by decide +kernel
theorem dL_law_734 : decode cL_law 734 = .ok (.aload_n 1, 1) := by decide +kernel
theorem dL_law_735 : decode cL_law 735 = .ok (.aload_n 0, 1) := by decide +kernel
theorem dL_law_736 : decode cL_law 736 = .ok (.iload_n 3, 1) := by decide +kernel
theorem dL_law_737 : decode cL_law 737 = .ok (.iconst 1, 1) := by decide +kernel
theorem dL_law_738 : decode cL_law 738 = .ok (.iadd, 1) := by decide +kernel
theorem dL_law_739 : decode cL_law 739 = .ok (.iaload, 1) := by decide +kernel
theorem dL_law_740 : decode cL_law 740 = .ok (.aload_n 0, 1) := by decide +kernel
theorem dL_law_741 : decode cL_law 741 = .ok (.iload_n 3, 1) := by decide +kernel
theorem dL_law_742 : decode cL_law 742 = .ok (.iconst 2, 1) := by decide +kernel
theorem dL_law_743 : decode cL_law 743 = .ok (.iadd, 1) := by decide +kernel
theorem dL_law_744 : decode cL_law 744 = .ok (.iaload, 1) := by decide +kernel
theorem dL_law_745 : decode cL_law 745 = .ok (.aload_n 0, 1) := by decide +kernel
theorem dL_law_746 : decode cL_law 746 = .ok (.iload_n 3, 1) := by decide +kernel
theorem dL_law_747 : decode cL_law 747 = .ok (.iconst 3, 1) := by decide +kernel
theorem dL_law_748 : decode cL_law 748 = .ok (.iadd, 1) := by decide +kernel
theorem dL_law_749 : decode cL_law 749 = .ok (.iaload, 1) := by decide +kernel
theorem dL_law_750 : decode cL_law 750 = .ok (.invokevirtual 85, 3) := by decide +kernel
theorem dL_law_753 : decode cL_law 753 = .ok (.aload_n 2, 1) := by decide +kernel
theorem dL_law_754 : decode cL_law 754 = .ok (.aload_n 0, 1) := by decide +kernel
theorem dL_law_755 : decode cL_law 755 = .ok (.iload_n 3, 1) := by decide +kernel
theorem dL_law_756 : decode cL_law 756 = .ok (.iconst 1, 1) := by decide +kernel
theorem dL_law_757 : decode cL_law 757 = .ok (.iadd, 1) := by decide +kernel
theorem dL_law_758 : decode cL_law 758 = .ok (.iaload, 1) := by decide +kernel
theorem dL_law_759 : decode cL_law 759 = .ok (.aload_n 0, 1) := by decide +kernel
theorem dL_law_760 : decode cL_law 760 = .ok (.iload_n 3, 1) := by decide +kernel
theorem dL_law_761 : decode cL_law 761 = .ok (.iconst 2, 1) := by decide +kernel
theorem dL_law_762 : decode cL_law 762 = .ok (.iadd, 1) := by decide +kernel
theorem dL_law_763 : decode cL_law 763 = .ok (.iaload, 1) := by decide +kernel
theorem dL_law_764 : decode cL_law 764 = .ok (.aload_n 0, 1) := by decide +kernel
theorem dL_law_765 : decode cL_law 765 = .ok (.iload_n 3, 1) := by decide +kernel
theorem dL_law_766 : decode cL_law 766 = .ok (.iconst 3, 1) := by decide +kernel
theorem dL_law_767 : decode cL_law 767 = .ok (.iadd, 1) := by decide +kernel
theorem dL_law_768 : decode cL_law 768 = .ok (.iaload, 1) := by decide +kernel
theorem dL_law_769 : decode cL_law 769 = .ok (.invokevirtual 88, 3) := by decide +kernel
theorem dL_law_772 : decode cL_law 772 = .ok (.if_icmp .eq 71, 3) := by decide +kernel
theorem dL_law_775 : decode cL_law 775 = .ok (.iconst 0, 1) := by decide +kernel
theorem dL_law_776 : decode cL_law 776 = .ok (.ireturn, 1) := by decide +kernel
theorem dL_law_777 : decode cL_law 777 = .ok (.aload_n 1, 1) := by decide +kernel
theorem dL_law_778 : decode cL_law 778 = .ok (.aload_n 0, 1) := by decide +kernel
theorem dL_law_779 : decode cL_law 779 = .ok (.iload_n 3, 1) := by decide +kernel
theorem dL_law_780 : decode cL_law 780 = .ok (.iconst 1, 1) := by decide +kernel
theorem dL_law_781 : decode cL_law 781 = .ok (.iadd, 1) := by decide +kernel
theorem dL_law_782 : decode cL_law 782 = .ok (.iaload, 1) := by decide +kernel
theorem dL_law_783 : decode cL_law 783 = .ok (.aload_n 0, 1) := by decide +kernel
theorem dL_law_784 : decode cL_law 784 = .ok (.iload_n 3, 1) := by decide +kernel
theorem dL_law_785 : decode cL_law 785 = .ok (.iconst 2, 1) := by decide +kernel
theorem dL_law_786 : decode cL_law 786 = .ok (.iadd, 1) := by decide +kernel
theorem dL_law_787 : decode cL_law 787 = .ok (.iaload, 1) := by decide +kernel
theorem dL_law_788 : decode cL_law 788 = .ok (.aload_n 0, 1) := by decide +kernel
theorem dL_law_789 : decode cL_law 789 = .ok (.iload_n 3, 1) := by decide +kernel
theorem dL_law_790 : decode cL_law 790 = .ok (.iconst 3, 1) := by decide +kernel
theorem dL_law_791 : decode cL_law 791 = .ok (.iadd, 1) := by decide +kernel
theorem dL_law_792 : decode cL_law 792 = .ok (.iaload, 1) := by decide +kernel
theorem dL_law_793 : decode cL_law 793 = .ok (.invokevirtual 89, 3) := by decide +kernel
theorem dL_law_796 : decode cL_law 796 = .ok (.aload_n 2, 1) := by decide +kernel
theorem dL_law_797 : decode cL_law 797 = .ok (.aload_n 0, 1) := by decide +kernel
theorem dL_law_798 : decode cL_law 798 = .ok (.iload_n 3, 1) := by decide +kernel
theorem dL_law_799 : decode cL_law 799 = .ok (.iconst 1, 1) := by decide +kernel
theorem dL_law_800 : decode cL_law 800 = .ok (.iadd, 1) := by decide +kernel
theorem dL_law_801 : decode cL_law 801 = .ok (.iaload, 1) := by decide +kernel
theorem dL_law_802 : decode cL_law 802 = .ok (.aload_n 0, 1) := by decide +kernel
theorem dL_law_803 : decode cL_law 803 = .ok (.iload_n 3, 1) := by decide +kernel
theorem dL_law_804 : decode cL_law 804 = .ok (.iconst 2, 1) := by decide +kernel
theorem dL_law_805 : decode cL_law 805 = .ok (.iadd, 1) := by decide +kernel
theorem dL_law_806 : decode cL_law 806 = .ok (.iaload, 1) := by decide +kernel
theorem dL_law_807 : decode cL_law 807 = .ok (.aload_n 0, 1) := by decide +kernel
theorem dL_law_808 : decode cL_law 808 = .ok (.iload_n 3, 1) := by decide +kernel
theorem dL_law_809 : decode cL_law 809 = .ok (.iconst 3, 1) := by decide +kernel
theorem dL_law_810 : decode cL_law 810 = .ok (.iadd, 1) := by decide +kernel
theorem dL_law_811 : decode cL_law 811 = .ok (.iaload, 1) := by decide +kernel
theorem dL_law_812 : decode cL_law 812 = .ok (.invokevirtual 92, 3) := by decide +kernel
theorem dL_law_815 : decode cL_law 815 = .ok (.if_icmp .eq 28, 3) := by decide +kernel
theorem dL_law_818 : decode cL_law 818 = .ok (.iconst 0, 1) := by decide +kernel
theorem dL_law_819 : decode cL_law 819 = .ok (.ireturn, 1) := by decide +kernel
theorem dL_law_820 : decode cL_law 820 = .ok (.aload_n 1, 1) := by decide +kernel
theorem dL_law_821 : decode cL_law 821 = .ok (.aload_n 0, 1) := by decide +kernel
theorem dL_law_822 : decode cL_law 822 = .ok (.iload_n 3, 1) := by decide +kernel
theorem dL_law_823 : decode cL_law 823 = .ok (.iconst 1, 1) := by decide +kernel
theorem dL_law_824 : decode cL_law 824 = .ok (.iadd, 1) := by decide +kernel
theorem dL_law_825 : decode cL_law 825 = .ok (.iaload, 1) := by decide +kernel
theorem dL_law_826 : decode cL_law 826 = .ok (.invokevirtual 93, 3) := by decide +kernel
theorem dL_law_829 : decode cL_law 829 = .ok (.aload_n 2, 1) := by decide +kernel
theorem dL_law_830 : decode cL_law 830 = .ok (.aload_n 0, 1) := by decide +kernel
theorem dL_law_831 : decode cL_law 831 = .ok (.iload_n 3, 1) := by decide +kernel
theorem dL_law_832 : decode cL_law 832 = .ok (.iconst 1, 1) := by decide +kernel
theorem dL_law_833 : decode cL_law 833 = .ok (.iadd, 1) := by decide +kernel
theorem dL_law_834 : decode cL_law 834 = .ok (.iaload, 1) := by decide +kernel
theorem dL_law_835 : decode cL_law 835 = .ok (.invokevirtual 97, 3) := by decide +kernel
theorem dL_law_838 : decode cL_law 838 = .ok (.if_icmp .eq 5, 3) := by decide +kernel
theorem dL_law_841 : decode cL_law 841 = .ok (.iconst 0, 1) := by decide +kernel
theorem dL_law_842 : decode cL_law 842 = .ok (.ireturn, 1) := by decide +kernel
theorem dL_law_843 : decode cL_law 843 = .ok (.iinc 3 6, 3) := by decide +kernel
theorem dL_law_846 : decode cL_law 846 = .ok (.goto (-828), 3) := by decide +kernel
theorem dL_law_849 : decode cL_law 849 = .ok (.iconst 1, 1) := by decide +kernel
theorem dL_law_850 : decode cL_law 850 = .ok (.ireturn, 1) := by decide +kernel
end
section
/-! FACTS: the tables' words that the walk uses, found once, each by its place -/
def wsG : List Cond := lw_tbl.filter goodWord
theorem wsG_mem {w : Cond} (h : w ∈ lw_tbl) (g : goodWord w = true) : w ∈ wsG := List.mem_filter.mpr ⟨h, g⟩
theorem wsG_tbl {w : Cond} (h : w ∈ wsG) : w ∈ lw_tbl := (List.mem_filter.mp h).1
theorem wsG_gg : GoodIn wsG wsG := fun w h => ⟨h, good_of_word (List.mem_filter.mp h).2⟩
theorem gT {w : Cond} (h : w ∈ tables_1) (g : goodWord w = true) : w ∈ wsG := wsG_mem (List.mem_append_right _ h) g
theorem gT1 {w : Cond} (h : w ∈ tables_1_1) (g : goodWord w = true) : w ∈ wsG := gT (List.mem_append_left _ h) g
theorem tT1 {w : Cond} (h : w ∈ tables_1_1) : w ∈ lw_tbl := List.mem_append_right _ (List.mem_append_left _ h)
theorem gT2 {w : Cond} (h : w ∈ tables_1_2) (g : goodWord w = true) : w ∈ wsG := gT (List.mem_append_right _ (List.mem_append_left _ h)) g
theorem tT2 {w : Cond} (h : w ∈ tables_1_2) : w ∈ lw_tbl := List.mem_append_right _ (List.mem_append_right _ (List.mem_append_left _ h))
theorem gT3 {w : Cond} (h : w ∈ tables_1_3) (g : goodWord w = true) : w ∈ wsG := gT (List.mem_append_right _ (List.mem_append_right _ (List.mem_append_left _ h))) g
theorem tT3 {w : Cond} (h : w ∈ tables_1_3) : w ∈ lw_tbl := List.mem_append_right _ (List.mem_append_right _ (List.mem_append_right _ (List.mem_append_left _ h)))
theorem gT4 {w : Cond} (h : w ∈ tables_1_4) (g : goodWord w = true) : w ∈ wsG := gT (List.mem_append_right _ (List.mem_append_right _ (List.mem_append_right _ (List.mem_append_left _ h)))) g
theorem tT4 {w : Cond} (h : w ∈ tables_1_4) : w ∈ lw_tbl := List.mem_append_right _ (List.mem_append_right _ (List.mem_append_right _ (List.mem_append_right _ (List.mem_append_left _ h))))
theorem gT5 {w : Cond} (h : w ∈ tables_1_5) (g : goodWord w = true) : w ∈ wsG := gT (List.mem_append_right _ (List.mem_append_right _ (List.mem_append_right _ (List.mem_append_right _ (List.mem_append_left _ h))))) g
theorem tT5 {w : Cond} (h : w ∈ tables_1_5) : w ∈ lw_tbl := List.mem_append_right _ (List.mem_append_right _ (List.mem_append_right _ (List.mem_append_right _ (List.mem_append_right _ (List.mem_append_left _ h)))))
theorem gT6 {w : Cond} (h : w ∈ tables_1_6) (g : goodWord w = true) : w ∈ wsG := gT (List.mem_append_right _ (List.mem_append_right _ (List.mem_append_right _ (List.mem_append_right _ (List.mem_append_right _ (h)))))) g
theorem tT6 {w : Cond} (h : w ∈ tables_1_6) : w ∈ lw_tbl := List.mem_append_right _ (List.mem_append_right _ (List.mem_append_right _ (List.mem_append_right _ (List.mem_append_right _ (List.mem_append_right _ (h))))))
theorem gSl {q : MethodName × Nat} (h : q ∈ lw_privs) : Cond.selects q.1.cls q.1 q.1 ∈ wsG := wsG_mem (List.mem_append_left _ (List.mem_map.mpr ⟨q, h, rfl⟩)) rfl
/-- a method: its name, its bytes, its locals, its answer's type -/
abbrev MD : Type := MethodName × ByteArray × Nat × Option FieldType
def cN (c : Nat) : vw_C := vwCl.getD c (RX0, TX0, 2)
def FLK (own : String) (ix ci k : Nat) : Prop := (ci < 11 ∧ k < (cN ci).2.2) ∧ Cond.fieldLink own ix ((cN ci).2.1 k).1 ((cN ci).2.1 k).2.1 ((cN ci).2.1 k).2.2.1 ∈ wsG
def MFc (μ : MD) (n : Nat) : Prop := Cond.code μ.1 μ.2.1 μ.2.2.1 μ.2.2.2 ∈ wsG ∧ Cond.initialized μ.1.cls ∈ wsG ∧ (μ.1.cls ≠ "java/lang/invoke/MethodHandle" ∧ μ.1.cls ≠ "java/lang/invoke/VarHandle") ∧ (parseMethodDescriptor μ.1.desc).map (fun d => d.parameters.length) = some n ∧ μ.2.2.1 ≤ 20 ∧ plainFor μ.1 = true
def MFv (μ : MD) (n : Nat) : Prop := Cond.instanceMethod μ.1 ∈ wsG ∧ Cond.selects μ.1.cls μ.1 μ.1 ∈ wsG ∧ MFc μ n
def MFs (μ : MD) (n : Nat) : Prop := Cond.static μ.1 ∈ wsG ∧ MFc μ n
def MFi (μ : MD) (n : Nat) : Prop := Cond.instanceMethod μ.1 ∈ wsG ∧ μ.1.name = "<init>" ∧ μ.2.2.2 = none ∧ MFc μ n
def MLK (own : String) (ix : Nat) (μ : MD) : Prop := Cond.methodLink own ix μ.1 ∈ wsG
def NEW (own : String) (ix ci : Nat) : Prop := ci < 11 ∧ Cond.classLink own ix (cN ci).1 ∈ wsG ∧ Cond.instantiable (cN ci).1 (cN ci).2.2 ∈ wsG ∧ Cond.initialized (cN ci).1 ∈ wsG

theorem inG0 : ∀ w ∈ wsX00, w ∈ wsG := by
  show ∀ w ∈ [u_lay RX0 TX0 0, u_lay RX0 TX0 1], w ∈ wsG
  exact List.forall_mem_cons.mpr ⟨gT1 (List.mem_of_getElem? (i := 73) (by decide +kernel)) (by decide +kernel), List.forall_mem_cons.mpr ⟨gT1 (List.mem_of_getElem? (i := 75) (by decide +kernel)) (by decide +kernel), (fun _ h => absurd h List.not_mem_nil)⟩⟩
theorem inG1 : ∀ w ∈ wsX10, w ∈ wsG := by
  show ∀ w ∈ [u_lay RX1 TX1 0, u_lay RX1 TX1 1, u_lay RX1 TX1 2, u_lay RX1 TX1 3, u_lay RX1 TX1 4, u_lay RX1 TX1 5, u_lay RX1 TX1 6, u_lay RX1 TX1 7], w ∈ wsG
  exact List.forall_mem_cons.mpr ⟨gT1 (List.mem_of_getElem? (i := 135) (by decide +kernel)) (by decide +kernel), List.forall_mem_cons.mpr ⟨gT1 (List.mem_of_getElem? (i := 137) (by decide +kernel)) (by decide +kernel), List.forall_mem_cons.mpr ⟨gT1 (List.mem_of_getElem? (i := 139) (by decide +kernel)) (by decide +kernel), List.forall_mem_cons.mpr ⟨gT1 (List.mem_of_getElem? (i := 141) (by decide +kernel)) (by decide +kernel), List.forall_mem_cons.mpr ⟨gT1 (List.mem_of_getElem? (i := 143) (by decide +kernel)) (by decide +kernel), List.forall_mem_cons.mpr ⟨gT1 (List.mem_of_getElem? (i := 145) (by decide +kernel)) (by decide +kernel), List.forall_mem_cons.mpr ⟨gT1 (List.mem_of_getElem? (i := 147) (by decide +kernel)) (by decide +kernel), List.forall_mem_cons.mpr ⟨gT1 (List.mem_of_getElem? (i := 149) (by decide +kernel)) (by decide +kernel), (fun _ h => absurd h List.not_mem_nil)⟩⟩⟩⟩⟩⟩⟩⟩
theorem inG2 : ∀ w ∈ wsX20, w ∈ wsG := by
  show ∀ w ∈ [u_lay RX2 TX2 0, u_lay RX2 TX2 1, u_lay RX2 TX2 2, u_lay RX2 TX2 3, u_lay RX2 TX2 4], w ∈ wsG
  exact List.forall_mem_cons.mpr ⟨gT2 (List.mem_of_getElem? (i := 28) (by decide +kernel)) (by decide +kernel), List.forall_mem_cons.mpr ⟨gT2 (List.mem_of_getElem? (i := 30) (by decide +kernel)) (by decide +kernel), List.forall_mem_cons.mpr ⟨gT2 (List.mem_of_getElem? (i := 32) (by decide +kernel)) (by decide +kernel), List.forall_mem_cons.mpr ⟨gT2 (List.mem_of_getElem? (i := 34) (by decide +kernel)) (by decide +kernel), List.forall_mem_cons.mpr ⟨gT2 (List.mem_of_getElem? (i := 36) (by decide +kernel)) (by decide +kernel), (fun _ h => absurd h List.not_mem_nil)⟩⟩⟩⟩⟩
theorem inG3 : ∀ w ∈ wsX30, w ∈ wsG := by
  show ∀ w ∈ [u_lay RX3 TX3 0, u_lay RX3 TX3 1, u_lay RX3 TX3 2, u_lay RX3 TX3 3, u_lay RX3 TX3 4, u_lay RX3 TX3 5, u_lay RX3 TX3 6, u_lay RX3 TX3 7], w ∈ wsG
  exact List.forall_mem_cons.mpr ⟨gT1 (List.mem_of_getElem? (i := 168) (by decide +kernel)) (by decide +kernel), List.forall_mem_cons.mpr ⟨gT1 (List.mem_of_getElem? (i := 170) (by decide +kernel)) (by decide +kernel), List.forall_mem_cons.mpr ⟨gT1 (List.mem_of_getElem? (i := 172) (by decide +kernel)) (by decide +kernel), List.forall_mem_cons.mpr ⟨gT1 (List.mem_of_getElem? (i := 174) (by decide +kernel)) (by decide +kernel), List.forall_mem_cons.mpr ⟨gT1 (List.mem_of_getElem? (i := 176) (by decide +kernel)) (by decide +kernel), List.forall_mem_cons.mpr ⟨gT1 (List.mem_of_getElem? (i := 178) (by decide +kernel)) (by decide +kernel), List.forall_mem_cons.mpr ⟨gT1 (List.mem_of_getElem? (i := 180) (by decide +kernel)) (by decide +kernel), List.forall_mem_cons.mpr ⟨gT1 (List.mem_of_getElem? (i := 182) (by decide +kernel)) (by decide +kernel), (fun _ h => absurd h List.not_mem_nil)⟩⟩⟩⟩⟩⟩⟩⟩
theorem inG4 : ∀ w ∈ wsX40, w ∈ wsG := by
  show ∀ w ∈ [u_lay RX4 TX4 0, u_lay RX4 TX4 1, u_lay RX4 TX4 2, u_lay RX4 TX4 3, u_lay RX4 TX4 4], w ∈ wsG
  exact List.forall_mem_cons.mpr ⟨gT1 (List.mem_of_getElem? (i := 47) (by decide +kernel)) (by decide +kernel), List.forall_mem_cons.mpr ⟨gT1 (List.mem_of_getElem? (i := 49) (by decide +kernel)) (by decide +kernel), List.forall_mem_cons.mpr ⟨gT1 (List.mem_of_getElem? (i := 51) (by decide +kernel)) (by decide +kernel), List.forall_mem_cons.mpr ⟨gT1 (List.mem_of_getElem? (i := 53) (by decide +kernel)) (by decide +kernel), List.forall_mem_cons.mpr ⟨gT1 (List.mem_of_getElem? (i := 55) (by decide +kernel)) (by decide +kernel), (fun _ h => absurd h List.not_mem_nil)⟩⟩⟩⟩⟩
theorem inG5 : ∀ w ∈ wsX50, w ∈ wsG := by
  show ∀ w ∈ [u_lay RX5 TX5 0, u_lay RX5 TX5 1, u_lay RX5 TX5 2, u_lay RX5 TX5 3], w ∈ wsG
  exact List.forall_mem_cons.mpr ⟨gT1 (List.mem_of_getElem? (i := 110) (by decide +kernel)) (by decide +kernel), List.forall_mem_cons.mpr ⟨gT1 (List.mem_of_getElem? (i := 112) (by decide +kernel)) (by decide +kernel), List.forall_mem_cons.mpr ⟨gT1 (List.mem_of_getElem? (i := 114) (by decide +kernel)) (by decide +kernel), List.forall_mem_cons.mpr ⟨gT1 (List.mem_of_getElem? (i := 116) (by decide +kernel)) (by decide +kernel), (fun _ h => absurd h List.not_mem_nil)⟩⟩⟩⟩
theorem inG6 : ∀ w ∈ wsX60, w ∈ wsG := by
  show ∀ w ∈ [u_lay RX6 TX6 0, u_lay RX6 TX6 1, u_lay RX6 TX6 2], w ∈ wsG
  exact List.forall_mem_cons.mpr ⟨gT2 (List.mem_of_getElem? (i := 56) (by decide +kernel)) (by decide +kernel), List.forall_mem_cons.mpr ⟨gT2 (List.mem_of_getElem? (i := 58) (by decide +kernel)) (by decide +kernel), List.forall_mem_cons.mpr ⟨gT2 (List.mem_of_getElem? (i := 60) (by decide +kernel)) (by decide +kernel), (fun _ h => absurd h List.not_mem_nil)⟩⟩⟩
theorem inG7 : ∀ w ∈ wsX70, w ∈ wsG := by
  show ∀ w ∈ [u_lay RX7 TX7 0, u_lay RX7 TX7 1, u_lay RX7 TX7 2, u_lay RX7 TX7 3, u_lay RX7 TX7 4, u_lay RX7 TX7 5], w ∈ wsG
  exact List.forall_mem_cons.mpr ⟨gT1 (List.mem_of_getElem? (i := 86) (by decide +kernel)) (by decide +kernel), List.forall_mem_cons.mpr ⟨gT1 (List.mem_of_getElem? (i := 88) (by decide +kernel)) (by decide +kernel), List.forall_mem_cons.mpr ⟨gT1 (List.mem_of_getElem? (i := 90) (by decide +kernel)) (by decide +kernel), List.forall_mem_cons.mpr ⟨gT1 (List.mem_of_getElem? (i := 92) (by decide +kernel)) (by decide +kernel), List.forall_mem_cons.mpr ⟨gT1 (List.mem_of_getElem? (i := 94) (by decide +kernel)) (by decide +kernel), List.forall_mem_cons.mpr ⟨gT1 (List.mem_of_getElem? (i := 96) (by decide +kernel)) (by decide +kernel), (fun _ h => absurd h List.not_mem_nil)⟩⟩⟩⟩⟩⟩
theorem inG8 : ∀ w ∈ wsX80, w ∈ wsG := by
  show ∀ w ∈ [u_lay RX8 TX8 0, u_lay RX8 TX8 1], w ∈ wsG
  exact List.forall_mem_cons.mpr ⟨gT1 (List.mem_of_getElem? (i := 30) (by decide +kernel)) (by decide +kernel), List.forall_mem_cons.mpr ⟨gT1 (List.mem_of_getElem? (i := 32) (by decide +kernel)) (by decide +kernel), (fun _ h => absurd h List.not_mem_nil)⟩⟩
theorem inG9 : ∀ w ∈ wsX90, w ∈ wsG := by
  show ∀ w ∈ [u_lay RX9 TX9 0, u_lay RX9 TX9 1, u_lay RX9 TX9 2, u_lay RX9 TX9 3, u_lay RX9 TX9 4, u_lay RX9 TX9 5, u_lay RX9 TX9 6], w ∈ wsG
  exact List.forall_mem_cons.mpr ⟨gT1 (List.mem_of_getElem? (i := 192) (by decide +kernel)) (by decide +kernel), List.forall_mem_cons.mpr ⟨gT1 (List.mem_of_getElem? (i := 194) (by decide +kernel)) (by decide +kernel), List.forall_mem_cons.mpr ⟨gT1 (List.mem_of_getElem? (i := 196) (by decide +kernel)) (by decide +kernel), List.forall_mem_cons.mpr ⟨gT1 (List.mem_of_getElem? (i := 198) (by decide +kernel)) (by decide +kernel), List.forall_mem_cons.mpr ⟨gT1 (List.mem_of_getElem? (i := 200) (by decide +kernel)) (by decide +kernel), List.forall_mem_cons.mpr ⟨gT1 (List.mem_of_getElem? (i := 202) (by decide +kernel)) (by decide +kernel), List.forall_mem_cons.mpr ⟨gT1 (List.mem_of_getElem? (i := 204) (by decide +kernel)) (by decide +kernel), (fun _ h => absurd h List.not_mem_nil)⟩⟩⟩⟩⟩⟩⟩
theorem inG10 : ∀ w ∈ wsX100, w ∈ wsG := by
  show ∀ w ∈ [u_lay RX10 TX10 0, u_lay RX10 TX10 1, u_lay RX10 TX10 2, u_lay RX10 TX10 3, u_lay RX10 TX10 4, u_lay RX10 TX10 5, u_lay RX10 TX10 6, u_lay RX10 TX10 7, u_lay RX10 TX10 8, u_lay RX10 TX10 9, u_lay RX10 TX10 10, u_lay RX10 TX10 11, u_lay RX10 TX10 12, u_lay RX10 TX10 13, u_lay RX10 TX10 14, u_lay RX10 TX10 15, u_lay RX10 TX10 16, u_lay RX10 TX10 17, u_lay RX10 TX10 18, u_lay RX10 TX10 19, u_lay RX10 TX10 20, u_lay RX10 TX10 21, u_lay RX10 TX10 22, u_lay RX10 TX10 23, u_lay RX10 TX10 24, u_lay RX10 TX10 25, u_lay RX10 TX10 26, u_lay RX10 TX10 27, u_lay RX10 TX10 28, u_lay RX10 TX10 29, u_lay RX10 TX10 30, u_lay RX10 TX10 31, u_lay RX10 TX10 32, u_lay RX10 TX10 33, u_lay RX10 TX10 34, u_lay RX10 TX10 35, u_lay RX10 TX10 36, u_lay RX10 TX10 37, u_lay RX10 TX10 38, u_lay RX10 TX10 39, u_lay RX10 TX10 40, u_lay RX10 TX10 41, u_lay RX10 TX10 42, u_lay RX10 TX10 43, u_lay RX10 TX10 44, u_lay RX10 TX10 45, u_lay RX10 TX10 46, u_lay RX10 TX10 47, u_lay RX10 TX10 48, u_lay RX10 TX10 49, u_lay RX10 TX10 50, u_lay RX10 TX10 51], w ∈ wsG
  exact List.forall_mem_cons.mpr ⟨gT4 (List.mem_of_getElem? (i := 122) (by decide +kernel)) (by decide +kernel), List.forall_mem_cons.mpr ⟨gT4 (List.mem_of_getElem? (i := 124) (by decide +kernel)) (by decide +kernel), List.forall_mem_cons.mpr ⟨gT4 (List.mem_of_getElem? (i := 126) (by decide +kernel)) (by decide +kernel), List.forall_mem_cons.mpr ⟨gT4 (List.mem_of_getElem? (i := 128) (by decide +kernel)) (by decide +kernel), List.forall_mem_cons.mpr ⟨gT4 (List.mem_of_getElem? (i := 130) (by decide +kernel)) (by decide +kernel), List.forall_mem_cons.mpr ⟨gT4 (List.mem_of_getElem? (i := 132) (by decide +kernel)) (by decide +kernel), List.forall_mem_cons.mpr ⟨gT4 (List.mem_of_getElem? (i := 134) (by decide +kernel)) (by decide +kernel), List.forall_mem_cons.mpr ⟨gT4 (List.mem_of_getElem? (i := 136) (by decide +kernel)) (by decide +kernel), List.forall_mem_cons.mpr ⟨gT4 (List.mem_of_getElem? (i := 138) (by decide +kernel)) (by decide +kernel), List.forall_mem_cons.mpr ⟨gT4 (List.mem_of_getElem? (i := 140) (by decide +kernel)) (by decide +kernel), List.forall_mem_cons.mpr ⟨gT4 (List.mem_of_getElem? (i := 142) (by decide +kernel)) (by decide +kernel), List.forall_mem_cons.mpr ⟨gT4 (List.mem_of_getElem? (i := 144) (by decide +kernel)) (by decide +kernel), List.forall_mem_cons.mpr ⟨gT4 (List.mem_of_getElem? (i := 146) (by decide +kernel)) (by decide +kernel), List.forall_mem_cons.mpr ⟨gT4 (List.mem_of_getElem? (i := 148) (by decide +kernel)) (by decide +kernel), List.forall_mem_cons.mpr ⟨gT4 (List.mem_of_getElem? (i := 150) (by decide +kernel)) (by decide +kernel), List.forall_mem_cons.mpr ⟨gT4 (List.mem_of_getElem? (i := 152) (by decide +kernel)) (by decide +kernel), List.forall_mem_cons.mpr ⟨gT4 (List.mem_of_getElem? (i := 154) (by decide +kernel)) (by decide +kernel), List.forall_mem_cons.mpr ⟨gT4 (List.mem_of_getElem? (i := 156) (by decide +kernel)) (by decide +kernel), List.forall_mem_cons.mpr ⟨gT4 (List.mem_of_getElem? (i := 158) (by decide +kernel)) (by decide +kernel), List.forall_mem_cons.mpr ⟨gT4 (List.mem_of_getElem? (i := 160) (by decide +kernel)) (by decide +kernel), List.forall_mem_cons.mpr ⟨gT4 (List.mem_of_getElem? (i := 162) (by decide +kernel)) (by decide +kernel), List.forall_mem_cons.mpr ⟨gT4 (List.mem_of_getElem? (i := 164) (by decide +kernel)) (by decide +kernel), List.forall_mem_cons.mpr ⟨gT4 (List.mem_of_getElem? (i := 166) (by decide +kernel)) (by decide +kernel), List.forall_mem_cons.mpr ⟨gT4 (List.mem_of_getElem? (i := 168) (by decide +kernel)) (by decide +kernel), List.forall_mem_cons.mpr ⟨gT4 (List.mem_of_getElem? (i := 170) (by decide +kernel)) (by decide +kernel), List.forall_mem_cons.mpr ⟨gT4 (List.mem_of_getElem? (i := 172) (by decide +kernel)) (by decide +kernel), List.forall_mem_cons.mpr ⟨gT4 (List.mem_of_getElem? (i := 174) (by decide +kernel)) (by decide +kernel), List.forall_mem_cons.mpr ⟨gT4 (List.mem_of_getElem? (i := 176) (by decide +kernel)) (by decide +kernel), List.forall_mem_cons.mpr ⟨gT4 (List.mem_of_getElem? (i := 178) (by decide +kernel)) (by decide +kernel), List.forall_mem_cons.mpr ⟨gT4 (List.mem_of_getElem? (i := 180) (by decide +kernel)) (by decide +kernel), List.forall_mem_cons.mpr ⟨gT4 (List.mem_of_getElem? (i := 182) (by decide +kernel)) (by decide +kernel), List.forall_mem_cons.mpr ⟨gT4 (List.mem_of_getElem? (i := 184) (by decide +kernel)) (by decide +kernel), List.forall_mem_cons.mpr ⟨gT4 (List.mem_of_getElem? (i := 186) (by decide +kernel)) (by decide +kernel), List.forall_mem_cons.mpr ⟨gT4 (List.mem_of_getElem? (i := 188) (by decide +kernel)) (by decide +kernel), List.forall_mem_cons.mpr ⟨gT4 (List.mem_of_getElem? (i := 190) (by decide +kernel)) (by decide +kernel), List.forall_mem_cons.mpr ⟨gT4 (List.mem_of_getElem? (i := 192) (by decide +kernel)) (by decide +kernel), List.forall_mem_cons.mpr ⟨gT4 (List.mem_of_getElem? (i := 194) (by decide +kernel)) (by decide +kernel), List.forall_mem_cons.mpr ⟨gT4 (List.mem_of_getElem? (i := 196) (by decide +kernel)) (by decide +kernel), List.forall_mem_cons.mpr ⟨gT4 (List.mem_of_getElem? (i := 198) (by decide +kernel)) (by decide +kernel), List.forall_mem_cons.mpr ⟨gT4 (List.mem_of_getElem? (i := 200) (by decide +kernel)) (by decide +kernel), List.forall_mem_cons.mpr ⟨gT4 (List.mem_of_getElem? (i := 202) (by decide +kernel)) (by decide +kernel), List.forall_mem_cons.mpr ⟨gT4 (List.mem_of_getElem? (i := 204) (by decide +kernel)) (by decide +kernel), List.forall_mem_cons.mpr ⟨gT4 (List.mem_of_getElem? (i := 206) (by decide +kernel)) (by decide +kernel), List.forall_mem_cons.mpr ⟨gT4 (List.mem_of_getElem? (i := 208) (by decide +kernel)) (by decide +kernel), List.forall_mem_cons.mpr ⟨gT4 (List.mem_of_getElem? (i := 210) (by decide +kernel)) (by decide +kernel), List.forall_mem_cons.mpr ⟨gT4 (List.mem_of_getElem? (i := 212) (by decide +kernel)) (by decide +kernel), List.forall_mem_cons.mpr ⟨gT4 (List.mem_of_getElem? (i := 214) (by decide +kernel)) (by decide +kernel), List.forall_mem_cons.mpr ⟨gT4 (List.mem_of_getElem? (i := 216) (by decide +kernel)) (by decide +kernel), List.forall_mem_cons.mpr ⟨gT4 (List.mem_of_getElem? (i := 218) (by decide +kernel)) (by decide +kernel), List.forall_mem_cons.mpr ⟨gT4 (List.mem_of_getElem? (i := 220) (by decide +kernel)) (by decide +kernel), List.forall_mem_cons.mpr ⟨gT4 (List.mem_of_getElem? (i := 222) (by decide +kernel)) (by decide +kernel), List.forall_mem_cons.mpr ⟨gT4 (List.mem_of_getElem? (i := 224) (by decide +kernel)) (by decide +kernel), (fun _ h => absurd h List.not_mem_nil)⟩⟩⟩⟩⟩⟩⟩⟩⟩⟩⟩⟩⟩⟩⟩⟩⟩⟩⟩⟩⟩⟩⟩⟩⟩⟩⟩⟩⟩⟩⟩⟩⟩⟩⟩⟩⟩⟩⟩⟩⟩⟩⟩⟩⟩⟩⟩⟩⟩⟩⟩⟩
abbrev mX0_init : MD := (yX0_init, cX0_init, 1, none)
abbrev mX0_set : MD := (yX0_set, cX0_set, 3, none)
abbrev mX0_stepOf : MD := (yX0_stepOf, cX0_stepOf, 4, (some .int))
abbrev mX0_operandOf : MD := (yX0_operandOf, cX0_operandOf, 3, (some .int))
abbrev mX1_init : MD := (yX1_init, cX1_init, 3, none)
abbrev mX1_figureAt : MD := (yX1_figureAt, cX1_figureAt, 4, (some .long))
abbrev mX1_errorAt : MD := (yX1_errorAt, cX1_errorAt, 4, (some .int))
abbrev mX1_isAlike : MD := (yX1_isAlike, cX1_isAlike, 4, (some .boolean))
abbrev mX1_settles : MD := (yX1_settles, cX1_settles, 3, (some .boolean))
abbrev mX1_reckonOwn : MD := (yX1_reckonOwn, cX1_reckonOwn, 3, none)
abbrev mX1_reckonRight : MD := (yX1_reckonRight, cX1_reckonRight, 7, none)
abbrev mX1_plan : MD := (yX1_plan, cX1_plan, 9, none)
abbrev mX1_append : MD := (yX1_append, cX1_append, 2, none)
abbrev mX1_layHeld : MD := (yX1_layHeld, cX1_layHeld, 4, none)
abbrev mX1_layLent : MD := (yX1_layLent, cX1_layLent, 6, none)
abbrev mX1_follow : MD := (yX1_follow, cX1_follow, 5, none)
abbrev mX1_put : MD := (yX1_put, cX1_put, 7, none)
abbrev mX2_init : MD := (yX2_init, cX2_init, 3, none)
abbrev mX2_length : MD := (yX2_length, cX2_length, 1, (some .int))
abbrev mX2_byteAt : MD := (yX2_byteAt, cX2_byteAt, 2, (some .int))
abbrev mX2_putByte : MD := (yX2_putByte, cX2_putByte, 3, none)
abbrev mX2_hasTextOf : MD := (yX2_hasTextOf, cX2_hasTextOf, 3, (some .boolean))
abbrev mX2_addStep : MD := (yX2_addStep, cX2_addStep, 4, none)
abbrev mX2_countSteps : MD := (yX2_countSteps, cX2_countSteps, 1, (some .int))
abbrev mX2_placeOf : MD := (yX2_placeOf, cX2_placeOf, 2, (some .int))
abbrev mX2_stepAt : MD := (yX2_stepAt, cX2_stepAt, 2, (some .int))
abbrev mX2_operandAt : MD := (yX2_operandAt, cX2_operandAt, 2, (some .int))
abbrev mX2_needs : MD := (yX2_needs, cX2_needs, 8, (some .long))
abbrev mX3_init : MD := (yX3_init, cX3_init, 6, none)
abbrev mX3_slipPlace : MD := (yX3_slipPlace, cX3_slipPlace, 1, (some .int))
abbrev mX3_slipMade : MD := (yX3_slipMade, cX3_slipMade, 1, (some .int))
abbrev mX3_open : MD := (yX3_open, cX3_open, 3, none)
abbrev mX3_judge : MD := (yX3_judge, cX3_judge, 4, (some .int))
abbrev mX3_judgeNumber : MD := (yX3_judgeNumber, cX3_judgeNumber, 4, (some .int))
abbrev mX3_isAlike : MD := (yX3_isAlike, cX3_isAlike, 4, (some .boolean))
abbrev mX3_findsSlip : MD := (yX3_findsSlip, cX3_findsSlip, 7, (some .boolean))
abbrev mX3_isSoChanged : MD := (yX3_isSoChanged, cX3_isSoChanged, 10, (some .boolean))
abbrev mX3_option : MD := (yX3_option, cX3_option, 5, (some .int))
abbrev mX3_neighbour : MD := (yX3_neighbour, cX3_neighbour, 4, (some .int))
abbrev mX4_init : MD := (yX4_init, cX4_init, 1, none)
abbrev mX4_inputs : MD := (yX4_inputs, cX4_inputs, 1, (some .long))
abbrev mX4_wanted : MD := (yX4_wanted, cX4_wanted, 1, (some .long))
abbrev mX4_isInput : MD := (yX4_isInput, cX4_isInput, 2, (some .boolean))
abbrev mX4_isWanted : MD := (yX4_isWanted, cX4_isWanted, 2, (some .boolean))
abbrev mX4_isWorld : MD := (yX4_isWorld, cX4_isWorld, 2, (some .boolean))
abbrev mX4_countInputs : MD := (yX4_countInputs, cX4_countInputs, 1, (some .int))
abbrev mX4_countWanted : MD := (yX4_countWanted, cX4_countWanted, 1, (some .int))
abbrev mX4_countWorlds : MD := (yX4_countWorlds, cX4_countWorlds, 1, (some .int))
abbrev mX4_worth : MD := (yX4_worth, cX4_worth, 2, (some .int))
abbrev mX4_worthOfAll : MD := (yX4_worthOfAll, cX4_worthOfAll, 3, (some .int))
abbrev mX4_given : MD := (yX4_given, cX4_given, 3, (some .int))
abbrev mX4_addInput : MD := (yX4_addInput, cX4_addInput, 2, none)
abbrev mX4_want : MD := (yX4_want, cX4_want, 3, none)
abbrev mX4_addWorld : MD := (yX4_addWorld, cX4_addWorld, 1, (some .int))
abbrev mX4_put : MD := (yX4_put, cX4_put, 4, none)
abbrev mX5_init : MD := (yX5_init, cX5_init, 1, none)
abbrev mX5_errorMet : MD := (yX5_errorMet, cX5_errorMet, 1, (some .int))
abbrev mX5_result : MD := (yX5_result, cX5_result, 1, (some .long))
abbrev mX5_reckon : MD := (yX5_reckon, cX5_reckon, 9, none)
abbrev mX5_push : MD := (yX5_push, cX5_push, 3, none)
abbrev mX5_pop : MD := (yX5_pop, cX5_pop, 1, (some .long))
abbrev mX5_pushCell : MD := (yX5_pushCell, cX5_pushCell, 4, none)
abbrev mX5_pushRectangle : MD := (yX5_pushRectangle, cX5_pushRectangle, 8, none)
abbrev mX5_join : MD := (yX5_join, cX5_join, 6, none)
abbrev mX5_multiply : MD := (yX5_multiply, cX5_multiply, 5, none)
abbrev mX5_divide : MD := (yX5_divide, cX5_divide, 5, none)
abbrev mX6_init : MD := (yX6_init, cX6_init, 2, none)
abbrev mX6_parse : MD := (yX6_parse, cX6_parse, 1, (some .int))
abbrev mX6_next : MD := (yX6_next, cX6_next, 1, (some .int))
abbrev mX6_fail : MD := (yX6_fail, cX6_fail, 2, none)
abbrev mX6_pass : MD := (yX6_pass, cX6_pass, 2, none)
abbrev mX6_passWithin : MD := (yX6_passWithin, cX6_passWithin, 4, (some .int))
abbrev mX6_readSum : MD := (yX6_readSum, cX6_readSum, 5, none)
abbrev mX6_readProduct : MD := (yX6_readProduct, cX6_readProduct, 5, none)
abbrev mX6_readFactor : MD := (yX6_readFactor, cX6_readFactor, 3, none)
abbrev mX6_readNegative : MD := (yX6_readNegative, cX6_readNegative, 3, none)
abbrev mX6_readGreater : MD := (yX6_readGreater, cX6_readGreater, 3, none)
abbrev mX6_readRectangle : MD := (yX6_readRectangle, cX6_readRectangle, 2, none)
abbrev mX6_readNumber : MD := (yX6_readNumber, cX6_readNumber, 4, none)
abbrev mX6_readCell : MD := (yX6_readCell, cX6_readCell, 5, none)
abbrev mX6_isDigit : MD := (yX6_isDigit, cX6_isDigit, 1, (some .boolean))
abbrev mX7_init : MD := (yX7_init, cX7_init, 1, none)
abbrev mX7_empty : MD := (yX7_empty, cX7_empty, 2, none)
abbrev mX7_putNumber : MD := (yX7_putNumber, cX7_putNumber, 3, none)
abbrev mX7_putFormula : MD := (yX7_putFormula, cX7_putFormula, 3, none)
abbrev mX7_put : MD := (yX7_put, cX7_put, 7, none)
abbrev mX7_reckoned : MD := (yX7_reckoned, cX7_reckoned, 1, (some .long))
abbrev mX7_heldAt : MD := (yX7_heldAt, cX7_heldAt, 2, (some .int))
abbrev mX7_numberAt : MD := (yX7_numberAt, cX7_numberAt, 2, (some .int))
abbrev mX7_formulaAt : MD := (yX7_formulaAt, cX7_formulaAt, 2, (some (.object "SheetMarker$Formula")))
abbrev mX7_needsAt : MD := (yX7_needsAt, cX7_needsAt, 2, (some .long))
abbrev mX8_init : MD := (yX8_init, cX8_init, 1, none)
abbrev mX8_length : MD := (yX8_length, cX8_length, 1, (some .int))
abbrev mX8_hasRoom : MD := (yX8_hasRoom, cX8_hasRoom, 1, (some .boolean))
abbrev mX8_append : MD := (yX8_append, cX8_append, 3, none)
abbrev mX8_moveTo : MD := (yX8_moveTo, cX8_moveTo, 3, none)
abbrev mX9_init : MD := (yX9_init, cX9_init, 2, none)
abbrev mX9_feed : MD := (yX9_feed, cX9_feed, 6, (some .int))
abbrev mX9_number : MD := (yX9_number, cX9_number, 5, (some .boolean))
abbrev mX9_formula : MD := (yX9_formula, cX9_formula, 7, (some .int))
abbrev mX9_clear : MD := (yX9_clear, cX9_clear, 4, (some .boolean))
abbrev mX9_input : MD := (yX9_input, cX9_input, 2, (some .boolean))
abbrev mX9_wants : MD := (yX9_wants, cX9_wants, 3, (some .boolean))
abbrev mX9_world : MD := (yX9_world, cX9_world, 1, (some .int))
abbrev mX9_give : MD := (yX9_give, cX9_give, 4, (some .boolean))
abbrev mX9_value : MD := (yX9_value, cX9_value, 4, (some .long))
abbrev mX9_error : MD := (yX9_error, cX9_error, 4, (some .int))
abbrev mX9_right : MD := (yX9_right, cX9_right, 4, (some .long))
abbrev mX9_rightError : MD := (yX9_rightError, cX9_rightError, 4, (some .int))
abbrev mX9_kind : MD := (yX9_kind, cX9_kind, 4, (some .int))
abbrev mX9_points : MD := (yX9_points, cX9_points, 6, (some .int))
abbrev mX9_slip : MD := (yX9_slip, cX9_slip, 5, (some .int))
abbrev mX9_fault : MD := (yX9_fault, cX9_fault, 6, (some .int))
abbrev mX9_copied : MD := (yX9_copied, cX9_copied, 8, (some .int))
abbrev mX9_look : MD := (yX9_look, cX9_look, 6, (some .int))
abbrev mX9_count : MD := (yX9_count, cX9_count, 2, (some .int))
abbrev mX9_sheetAt : MD := (yX9_sheetAt, cX9_sheetAt, 2, (some (.object "SheetMarker$Sheet")))
abbrev mX9_pupilAt : MD := (yX9_pupilAt, cX9_pupilAt, 2, (some (.object "SheetMarker$Sheet")))
abbrev mX9_reckonsOwn : MD := (yX9_reckonsOwn, cX9_reckonsOwn, 5, (some .boolean))
abbrev mX9_reckonsRight : MD := (yX9_reckonsRight, cX9_reckonsRight, 6, (some .boolean))
abbrev mX9_isShared : MD := (yX9_isShared, cX9_isShared, 6, (some .boolean))
abbrev mX9_countComing : MD := (yX9_countComing, cX9_countComing, 9, (some .int))
abbrev mX9_share : MD := (yX9_share, cX9_share, 2, (some .int))
abbrev mX9_isFaulty : MD := (yX9_isFaulty, cX9_isFaulty, 1, (some .boolean))
abbrev mX9_isCell : MD := (yX9_isCell, cX9_isCell, 1, (some .boolean))
abbrev mX9_isNumber : MD := (yX9_isNumber, cX9_isNumber, 1, (some .boolean))
abbrev mX9_isSign : MD := (yX9_isSign, cX9_isSign, 1, (some .boolean))
abbrev mX9_bit : MD := (yX9_bit, cX9_bit, 1, (some .long))
abbrev mX9_rectangle : MD := (yX9_rectangle, cX9_rectangle, 11, (some .long))
abbrev mX10_init : MD := (yX10_init, cX10_init, 1, none)
abbrev mX10_lies : MD := (yX10_lies, cX10_lies, 3, (some .boolean))
abbrev mX10_isCell : MD := (yX10_isCell, cX10_isCell, 1, (some .boolean))
abbrev mX10_isSheet : MD := (yX10_isSheet, cX10_isSheet, 1, (some .boolean))
abbrev mX10_isWanted : MD := (yX10_isWanted, cX10_isWanted, 2, (some .boolean))
abbrev mX10_push : MD := (yX10_push, cX10_push, 3, none)
abbrev mX10_feed : MD := (yX10_feed, cX10_feed, 6, (some .int))
abbrev mX10_number : MD := (yX10_number, cX10_number, 4, (some .boolean))
abbrev mX10_clear : MD := (yX10_clear, cX10_clear, 3, (some .boolean))
abbrev mX10_here : MD := (yX10_here, cX10_here, 1, (some .int))
abbrev mX10_fails : MD := (yX10_fails, cX10_fails, 3, none)
abbrev mX10_puts : MD := (yX10_puts, cX10_puts, 6, none)
abbrev mX10_waits : MD := (yX10_waits, cX10_waits, 3, none)
abbrev mX10_joins : MD := (yX10_joins, cX10_joins, 1, none)
abbrev mX10_opens : MD := (yX10_opens, cX10_opens, 2, none)
abbrev mX10_must : MD := (yX10_must, cX10_must, 2, none)
abbrev mX10_seesDigit : MD := (yX10_seesDigit, cX10_seesDigit, 1, (some .boolean))
abbrev mX10_readNumber : MD := (yX10_readNumber, cX10_readNumber, 3, (some .int))
abbrev mX10_readCell : MD := (yX10_readCell, cX10_readCell, 3, (some .int))
abbrev mX10_factorEnds : MD := (yX10_factorEnds, cX10_factorEnds, 1, none)
abbrev mX10_sumEnds : MD := (yX10_sumEnds, cX10_sumEnds, 1, none)
abbrev mX10_factor : MD := (yX10_factor, cX10_factor, 7, (some .boolean))
abbrev mX10_joinOf : MD := (yX10_joinOf, cX10_joinOf, 1, (some .int))
abbrev mX10_reads : MD := (yX10_reads, cX10_reads, 5, none)
abbrev mX10_formula : MD := (yX10_formula, cX10_formula, 6, (some .int))
abbrev mX10_input : MD := (yX10_input, cX10_input, 2, (some .boolean))
abbrev mX10_wants : MD := (yX10_wants, cX10_wants, 3, (some .boolean))
abbrev mX10_world : MD := (yX10_world, cX10_world, 1, (some .int))
abbrev mX10_give : MD := (yX10_give, cX10_give, 4, (some .boolean))
abbrev mX10_isChanged : MD := (yX10_isChanged, cX10_isChanged, 3, (some .boolean))
abbrev mX10_opOf : MD := (yX10_opOf, cX10_opOf, 3, (some .int))
abbrev mX10_argOf : MD := (yX10_argOf, cX10_argOf, 3, (some .int))
abbrev mX10_arg2Of : MD := (yX10_arg2Of, cX10_arg2Of, 3, (some .int))
abbrev mX10_isBetween : MD := (yX10_isBetween, cX10_isBetween, 3, (some .boolean))
abbrev mX10_isWithin : MD := (yX10_isWithin, cX10_isWithin, 3, (some .boolean))
abbrev mX10_needs : MD := (yX10_needs, cX10_needs, 4, (some .long))
abbrev mX10_names0 : MD := (yX10_names0, cX10_names0, 7, (some .long))
abbrev mX10_has : MD := (yX10_has, cX10_has, 3, (some .boolean))
abbrev mX10_isTold : MD := (yX10_isTold, cX10_isTold, 4, (some .boolean))
abbrev mX10_orders : MD := (yX10_orders, cX10_orders, 12, (some .boolean))
abbrev mX10_comes : MD := (yX10_comes, cX10_comes, 3, none)
abbrev mX10_times : MD := (yX10_times, cX10_times, 9, none)
abbrev mX10_parts : MD := (yX10_parts, cX10_parts, 7, none)
abbrev mX10_two : MD := (yX10_two, cX10_two, 6, none)
abbrev mX10_names : MD := (yX10_names, cX10_names, 2, none)
abbrev mX10_range : MD := (yX10_range, cX10_range, 6, none)
abbrev mX10_reckons : MD := (yX10_reckons, cX10_reckons, 4, none)
abbrev mX10_works : MD := (yX10_works, cX10_works, 8, none)
abbrev mX10_tells : MD := (yX10_tells, cX10_tells, 6, none)
abbrev mX10_tasks : MD := (yX10_tasks, cX10_tasks, 4, none)
abbrev mX10_is : MD := (yX10_is, cX10_is, 4, (some .boolean))
abbrev mX10_value : MD := (yX10_value, cX10_value, 4, (some .long))
abbrev mX10_error : MD := (yX10_error, cX10_error, 4, (some .int))
abbrev mX10_right : MD := (yX10_right, cX10_right, 4, (some .long))
abbrev mX10_rightError : MD := (yX10_rightError, cX10_rightError, 4, (some .int))
abbrev mX10_isAlike : MD := (yX10_isAlike, cX10_isAlike, 7, (some .boolean))
abbrev mX10_tries : MD := (yX10_tries, cX10_tries, 9, (some .boolean))
abbrev mX10_signOf : MD := (yX10_signOf, cX10_signOf, 1, (some .int))
abbrev mX10_beside : MD := (yX10_beside, cX10_beside, 2, (some .int))
abbrev mX10_slips : MD := (yX10_slips, cX10_slips, 9, (some .boolean))
abbrev mX10_isSlip : MD := (yX10_isSlip, cX10_isSlip, 6, (some .boolean))
abbrev mX10_kindOf : MD := (yX10_kindOf, cX10_kindOf, 5, (some .int))
abbrev mX10_isPupil : MD := (yX10_isPupil, cX10_isPupil, 1, (some .boolean))
abbrev mX10_kind : MD := (yX10_kind, cX10_kind, 3, (some .int))
abbrev mX10_pointsOf : MD := (yX10_pointsOf, cX10_pointsOf, 3, (some .int))
abbrev mX10_points : MD := (yX10_points, cX10_points, 5, (some .int))
abbrev mX10_slip : MD := (yX10_slip, cX10_slip, 4, (some .int))
abbrev mX10_fault : MD := (yX10_fault, cX10_fault, 6, (some .int))
abbrev mX10_areOneText : MD := (yX10_areOneText, cX10_areOneText, 4, (some .boolean))
abbrev mX10_copied : MD := (yX10_copied, cX10_copied, 6, (some .int))
abbrev mX10_comesTo : MD := (yX10_comesTo, cX10_comesTo, 9, (some .boolean))
abbrev mX10_look : MD := (yX10_look, cX10_look, 7, (some .int))
abbrev mX10_count : MD := (yX10_count, cX10_count, 4, (some .int))
abbrev mJ13_bitCount_95d88 : MD := (yJ13_bitCount_95d88, cJ13_bitCount_95d88, 2, (some .int))
abbrev mJ9_floorDiv_f86c9 : MD := (yJ9_floorDiv_f86c9, cJ9_floorDiv_f86c9, 6, (some .long))
abbrev mJ9_abs_067f4 : MD := (yJ9_abs_067f4, cJ9_abs_067f4, 2, (some .long))
abbrev mJ9_max_7cf53 : MD := (yJ9_max_7cf53, cJ9_max_7cf53, 2, (some .int))
abbrev mJ9_max_f86c9 : MD := (yJ9_max_f86c9, cJ9_max_f86c9, 4, (some .long))
abbrev mJ9_min_7cf53 : MD := (yJ9_min_7cf53, cJ9_min_7cf53, 2, (some .int))
theorem kiRX9 : Cond.initialized RX9 ∈ wsG := gT1 (List.mem_of_getElem? (i := 1) (by decide +kernel)) (by decide +kernel)
theorem kiRX0 : Cond.initialized RX0 ∈ wsG := gT1 (List.mem_of_getElem? (i := 5) (by decide +kernel)) (by decide +kernel)
theorem kiRX1 : Cond.initialized RX1 ∈ wsG := gT1 (List.mem_of_getElem? (i := 7) (by decide +kernel)) (by decide +kernel)
theorem kiRX2 : Cond.initialized RX2 ∈ wsG := gT1 (List.mem_of_getElem? (i := 10) (by decide +kernel)) (by decide +kernel)
theorem kiRX3 : Cond.initialized RX3 ∈ wsG := gT1 (List.mem_of_getElem? (i := 8) (by decide +kernel)) (by decide +kernel)
theorem kiRX4 : Cond.initialized RX4 ∈ wsG := gT1 (List.mem_of_getElem? (i := 3) (by decide +kernel)) (by decide +kernel)
theorem kiRX5 : Cond.initialized RX5 ∈ wsG := gT1 (List.mem_of_getElem? (i := 6) (by decide +kernel)) (by decide +kernel)
theorem kiRX6 : Cond.initialized RX6 ∈ wsG := gT1 (List.mem_of_getElem? (i := 12) (by decide +kernel)) (by decide +kernel)
theorem kiRX7 : Cond.initialized RX7 ∈ wsG := gT1 (List.mem_of_getElem? (i := 4) (by decide +kernel)) (by decide +kernel)
theorem kiRX8 : Cond.initialized RX8 ∈ wsG := gT1 (List.mem_of_getElem? (i := 2) (by decide +kernel)) (by decide +kernel)
theorem kiRX10 : Cond.initialized RX10 ∈ wsG := gT1 (List.mem_of_getElem? (i := 9) (by decide +kernel)) (by decide +kernel)
theorem kiRJ13 : Cond.initialized RJ13 ∈ wsG := gT1 (List.mem_of_getElem? (i := 13) (by decide +kernel)) (by decide +kernel)
theorem kiRJ9 : Cond.initialized RJ9 ∈ wsG := gT1 (List.mem_of_getElem? (i := 11) (by decide +kernel)) (by decide +kernel)
theorem kcX0_init : MFc mX0_init 0 := ⟨gT1 (List.mem_of_getElem? (i := 69) rfl) rfl, kiRX0, by decide +kernel, by decide +kernel, by decide, by decide +kernel⟩
theorem kpX0_init : MFi mX0_init 0 := ⟨gT1 (List.mem_of_getElem? (i := 68) (by decide +kernel)) (by decide +kernel), rfl, rfl, kcX0_init⟩
theorem kcX0_set : MFc mX0_set 2 := ⟨gT3 (List.mem_of_getElem? (i := 228) rfl) rfl, kiRX0, by decide +kernel, by decide +kernel, by decide, by decide +kernel⟩
theorem kpX0_set : MFv mX0_set 2 := ⟨gT3 (List.mem_of_getElem? (i := 226) (by decide +kernel)) (by decide +kernel), gT3 (List.mem_of_getElem? (i := 227) (by decide +kernel)) (by decide +kernel), kcX0_set⟩
theorem kcX0_stepOf : MFc mX0_stepOf 2 := ⟨gT3 (List.mem_of_getElem? (i := 77) rfl) rfl, kiRX0, by decide +kernel, by decide +kernel, by decide, by decide +kernel⟩
theorem kpX0_stepOf : MFv mX0_stepOf 2 := ⟨gT3 (List.mem_of_getElem? (i := 75) (by decide +kernel)) (by decide +kernel), gT3 (List.mem_of_getElem? (i := 76) (by decide +kernel)) (by decide +kernel), kcX0_stepOf⟩
theorem kcX0_operandOf : MFc mX0_operandOf 2 := ⟨gT2 (List.mem_of_getElem? (i := 149) rfl) rfl, kiRX0, by decide +kernel, by decide +kernel, by decide, by decide +kernel⟩
theorem kpX0_operandOf : MFv mX0_operandOf 2 := ⟨gT2 (List.mem_of_getElem? (i := 147) (by decide +kernel)) (by decide +kernel), gT2 (List.mem_of_getElem? (i := 148) (by decide +kernel)) (by decide +kernel), kcX0_operandOf⟩
theorem kcX1_init : MFc mX1_init 2 := ⟨gT1 (List.mem_of_getElem? (i := 123) rfl) rfl, kiRX1, by decide +kernel, by decide +kernel, by decide, by decide +kernel⟩
theorem kpX1_init : MFi mX1_init 2 := ⟨gT1 (List.mem_of_getElem? (i := 122) (by decide +kernel)) (by decide +kernel), rfl, rfl, kcX1_init⟩
theorem kcX1_figureAt : MFc mX1_figureAt 2 := ⟨gT3 (List.mem_of_getElem? (i := 99) rfl) rfl, kiRX1, by decide +kernel, by decide +kernel, by decide, by decide +kernel⟩
theorem kpX1_figureAt : MFv mX1_figureAt 2 := ⟨gT3 (List.mem_of_getElem? (i := 97) (by decide +kernel)) (by decide +kernel), gT3 (List.mem_of_getElem? (i := 98) (by decide +kernel)) (by decide +kernel), kcX1_figureAt⟩
theorem kcX1_errorAt : MFc mX1_errorAt 2 := ⟨gT3 (List.mem_of_getElem? (i := 95) rfl) rfl, kiRX1, by decide +kernel, by decide +kernel, by decide, by decide +kernel⟩
theorem kpX1_errorAt : MFv mX1_errorAt 2 := ⟨gT3 (List.mem_of_getElem? (i := 93) (by decide +kernel)) (by decide +kernel), gT3 (List.mem_of_getElem? (i := 94) (by decide +kernel)) (by decide +kernel), kcX1_errorAt⟩
theorem kcX1_isAlike : MFc mX1_isAlike 3 := ⟨gT3 (List.mem_of_getElem? (i := 199) rfl) rfl, kiRX1, by decide +kernel, by decide +kernel, by decide, by decide +kernel⟩
theorem kpX1_isAlike : MFv mX1_isAlike 3 := ⟨gT3 (List.mem_of_getElem? (i := 197) (by decide +kernel)) (by decide +kernel), gT3 (List.mem_of_getElem? (i := 198) (by decide +kernel)) (by decide +kernel), kcX1_isAlike⟩
theorem kcX1_settles : MFc mX1_settles 1 := ⟨gT3 (List.mem_of_getElem? (i := 32) rfl) rfl, kiRX1, by decide +kernel, by decide +kernel, by decide, by decide +kernel⟩
theorem kpX1_settles : MFv mX1_settles 1 := ⟨gT3 (List.mem_of_getElem? (i := 30) (by decide +kernel)) (by decide +kernel), gT3 (List.mem_of_getElem? (i := 31) (by decide +kernel)) (by decide +kernel), kcX1_settles⟩
theorem kcX1_reckonOwn : MFc mX1_reckonOwn 1 := ⟨gT3 (List.mem_of_getElem? (i := 10) rfl) rfl, kiRX1, by decide +kernel, by decide +kernel, by decide, by decide +kernel⟩
theorem kpX1_reckonOwn : MFv mX1_reckonOwn 1 := ⟨gT3 (List.mem_of_getElem? (i := 8) (by decide +kernel)) (by decide +kernel), gT3 (List.mem_of_getElem? (i := 9) (by decide +kernel)) (by decide +kernel), kcX1_reckonOwn⟩
theorem kcX1_reckonRight : MFc mX1_reckonRight 3 := ⟨gT3 (List.mem_of_getElem? (i := 157) rfl) rfl, kiRX1, by decide +kernel, by decide +kernel, by decide, by decide +kernel⟩
theorem kpX1_reckonRight : MFv mX1_reckonRight 3 := ⟨gT3 (List.mem_of_getElem? (i := 155) (by decide +kernel)) (by decide +kernel), gT3 (List.mem_of_getElem? (i := 156) (by decide +kernel)) (by decide +kernel), kcX1_reckonRight⟩
theorem kcX1_plan : MFc mX1_plan 3 := ⟨gT3 (List.mem_of_getElem? (i := 23) rfl) rfl, kiRX1, by decide +kernel, by decide +kernel, by decide, by decide +kernel⟩
theorem kpX1_plan : MFv mX1_plan 3 := ⟨gT3 (List.mem_of_getElem? (i := 22) (by decide +kernel)) (by decide +kernel), gSl (q := (yX1_plan, 8)) (List.mem_append_left _ (List.mem_of_getElem? (i := 15) (by decide +kernel))), kcX1_plan⟩
theorem kcX1_append : MFc mX1_append 1 := ⟨gT3 (List.mem_of_getElem? (i := 36) rfl) rfl, kiRX1, by decide +kernel, by decide +kernel, by decide, by decide +kernel⟩
theorem kpX1_append : MFv mX1_append 1 := ⟨gT3 (List.mem_of_getElem? (i := 35) (by decide +kernel)) (by decide +kernel), gSl (q := (yX1_append, 8)) (List.mem_append_right _ (List.mem_append_left _ (List.mem_of_getElem? (i := 0) (by decide +kernel)))), kcX1_append⟩
theorem kcX1_layHeld : MFc mX1_layHeld 2 := ⟨gT3 (List.mem_of_getElem? (i := 41) rfl) rfl, kiRX1, by decide +kernel, by decide +kernel, by decide, by decide +kernel⟩
theorem kpX1_layHeld : MFv mX1_layHeld 2 := ⟨gT3 (List.mem_of_getElem? (i := 40) (by decide +kernel)) (by decide +kernel), gSl (q := (yX1_layHeld, 8)) (List.mem_append_right _ (List.mem_append_left _ (List.mem_of_getElem? (i := 1) (by decide +kernel)))), kcX1_layHeld⟩
theorem kcX1_layLent : MFc mX1_layLent 3 := ⟨gT3 (List.mem_of_getElem? (i := 165) rfl) rfl, kiRX1, by decide +kernel, by decide +kernel, by decide, by decide +kernel⟩
theorem kpX1_layLent : MFv mX1_layLent 3 := ⟨gT3 (List.mem_of_getElem? (i := 164) (by decide +kernel)) (by decide +kernel), gSl (q := (yX1_layLent, 8)) (List.mem_append_right _ (List.mem_append_left _ (List.mem_of_getElem? (i := 12) (by decide +kernel)))), kcX1_layLent⟩
theorem kcX1_follow : MFc mX1_follow 2 := ⟨gT3 (List.mem_of_getElem? (i := 59) rfl) rfl, kiRX1, by decide +kernel, by decide +kernel, by decide, by decide +kernel⟩
theorem kpX1_follow : MFv mX1_follow 2 := ⟨gT3 (List.mem_of_getElem? (i := 58) (by decide +kernel)) (by decide +kernel), gSl (q := (yX1_follow, 8)) (List.mem_append_right _ (List.mem_append_left _ (List.mem_of_getElem? (i := 3) (by decide +kernel)))), kcX1_follow⟩
theorem kcX1_put : MFc mX1_put 4 := ⟨gT3 (List.mem_of_getElem? (i := 50) rfl) rfl, kiRX1, by decide +kernel, by decide +kernel, by decide, by decide +kernel⟩
theorem kpX1_put : MFv mX1_put 4 := ⟨gT3 (List.mem_of_getElem? (i := 49) (by decide +kernel)) (by decide +kernel), gSl (q := (yX1_put, 8)) (List.mem_append_right _ (List.mem_append_left _ (List.mem_of_getElem? (i := 2) (by decide +kernel)))), kcX1_put⟩
theorem kcX2_init : MFc mX2_init 1 := ⟨gT2 (List.mem_of_getElem? (i := 18) rfl) rfl, kiRX2, by decide +kernel, by decide +kernel, by decide, by decide +kernel⟩
theorem kpX2_init : MFi mX2_init 1 := ⟨gT2 (List.mem_of_getElem? (i := 17) (by decide +kernel)) (by decide +kernel), rfl, rfl, kcX2_init⟩
theorem kcX2_length : MFc mX2_length 0 := ⟨gT2 (List.mem_of_getElem? (i := 129) rfl) rfl, kiRX2, by decide +kernel, by decide +kernel, by decide, by decide +kernel⟩
theorem kpX2_length : MFv mX2_length 0 := ⟨gT2 (List.mem_of_getElem? (i := 127) (by decide +kernel)) (by decide +kernel), gT2 (List.mem_of_getElem? (i := 128) (by decide +kernel)) (by decide +kernel), kcX2_length⟩
theorem kcX2_byteAt : MFc mX2_byteAt 1 := ⟨gT2 (List.mem_of_getElem? (i := 82) rfl) rfl, kiRX2, by decide +kernel, by decide +kernel, by decide, by decide +kernel⟩
theorem kpX2_byteAt : MFv mX2_byteAt 1 := ⟨gT2 (List.mem_of_getElem? (i := 80) (by decide +kernel)) (by decide +kernel), gT2 (List.mem_of_getElem? (i := 81) (by decide +kernel)) (by decide +kernel), kcX2_byteAt⟩
theorem kcX2_putByte : MFc mX2_putByte 2 := ⟨gT2 (List.mem_of_getElem? (i := 46) rfl) rfl, kiRX2, by decide +kernel, by decide +kernel, by decide, by decide +kernel⟩
theorem kpX2_putByte : MFv mX2_putByte 2 := ⟨gT2 (List.mem_of_getElem? (i := 44) (by decide +kernel)) (by decide +kernel), gT2 (List.mem_of_getElem? (i := 45) (by decide +kernel)) (by decide +kernel), kcX2_putByte⟩
theorem kcX2_hasTextOf : MFc mX2_hasTextOf 1 := ⟨gT4 (List.mem_of_getElem? (i := 38) rfl) rfl, kiRX2, by decide +kernel, by decide +kernel, by decide, by decide +kernel⟩
theorem kpX2_hasTextOf : MFv mX2_hasTextOf 1 := ⟨gT4 (List.mem_of_getElem? (i := 36) (by decide +kernel)) (by decide +kernel), gT4 (List.mem_of_getElem? (i := 37) (by decide +kernel)) (by decide +kernel), kcX2_hasTextOf⟩
theorem kcX2_addStep : MFc mX2_addStep 3 := ⟨gT2 (List.mem_of_getElem? (i := 106) rfl) rfl, kiRX2, by decide +kernel, by decide +kernel, by decide, by decide +kernel⟩
theorem kpX2_addStep : MFv mX2_addStep 3 := ⟨gT2 (List.mem_of_getElem? (i := 104) (by decide +kernel)) (by decide +kernel), gT2 (List.mem_of_getElem? (i := 105) (by decide +kernel)) (by decide +kernel), kcX2_addStep⟩
theorem kcX2_countSteps : MFc mX2_countSteps 0 := ⟨gT3 (List.mem_of_getElem? (i := 71) rfl) rfl, kiRX2, by decide +kernel, by decide +kernel, by decide, by decide +kernel⟩
theorem kpX2_countSteps : MFv mX2_countSteps 0 := ⟨gT3 (List.mem_of_getElem? (i := 69) (by decide +kernel)) (by decide +kernel), gT3 (List.mem_of_getElem? (i := 70) (by decide +kernel)) (by decide +kernel), kcX2_countSteps⟩
theorem kcX2_placeOf : MFc mX2_placeOf 1 := ⟨gT2 (List.mem_of_getElem? (i := 141) rfl) rfl, kiRX2, by decide +kernel, by decide +kernel, by decide, by decide +kernel⟩
theorem kpX2_placeOf : MFv mX2_placeOf 1 := ⟨gT2 (List.mem_of_getElem? (i := 139) (by decide +kernel)) (by decide +kernel), gT2 (List.mem_of_getElem? (i := 140) (by decide +kernel)) (by decide +kernel), kcX2_placeOf⟩
theorem kcX2_stepAt : MFc mX2_stepAt 1 := ⟨gT2 (List.mem_of_getElem? (i := 145) rfl) rfl, kiRX2, by decide +kernel, by decide +kernel, by decide, by decide +kernel⟩
theorem kpX2_stepAt : MFv mX2_stepAt 1 := ⟨gT2 (List.mem_of_getElem? (i := 143) (by decide +kernel)) (by decide +kernel), gT2 (List.mem_of_getElem? (i := 144) (by decide +kernel)) (by decide +kernel), kcX2_stepAt⟩
theorem kcX2_operandAt : MFc mX2_operandAt 1 := ⟨gT2 (List.mem_of_getElem? (i := 153) rfl) rfl, kiRX2, by decide +kernel, by decide +kernel, by decide, by decide +kernel⟩
theorem kpX2_operandAt : MFv mX2_operandAt 1 := ⟨gT2 (List.mem_of_getElem? (i := 151) (by decide +kernel)) (by decide +kernel), gT2 (List.mem_of_getElem? (i := 152) (by decide +kernel)) (by decide +kernel), kcX2_operandAt⟩
theorem kcX2_needs : MFc mX2_needs 1 := ⟨gT2 (List.mem_of_getElem? (i := 137) rfl) rfl, kiRX2, by decide +kernel, by decide +kernel, by decide, by decide +kernel⟩
theorem kpX2_needs : MFv mX2_needs 1 := ⟨gT2 (List.mem_of_getElem? (i := 135) (by decide +kernel)) (by decide +kernel), gT2 (List.mem_of_getElem? (i := 136) (by decide +kernel)) (by decide +kernel), kcX2_needs⟩
theorem kcX3_init : MFc mX3_init 5 := ⟨gT1 (List.mem_of_getElem? (i := 156) rfl) rfl, kiRX3, by decide +kernel, by decide +kernel, by decide, by decide +kernel⟩
theorem kpX3_init : MFi mX3_init 5 := ⟨gT1 (List.mem_of_getElem? (i := 155) (by decide +kernel)) (by decide +kernel), rfl, rfl, kcX3_init⟩
theorem kcX3_slipPlace : MFc mX3_slipPlace 0 := ⟨gT4 (List.mem_of_getElem? (i := 14) rfl) rfl, kiRX3, by decide +kernel, by decide +kernel, by decide, by decide +kernel⟩
theorem kpX3_slipPlace : MFv mX3_slipPlace 0 := ⟨gT4 (List.mem_of_getElem? (i := 12) (by decide +kernel)) (by decide +kernel), gT4 (List.mem_of_getElem? (i := 13) (by decide +kernel)) (by decide +kernel), kcX3_slipPlace⟩
theorem kcX3_slipMade : MFc mX3_slipMade 0 := ⟨gT4 (List.mem_of_getElem? (i := 18) rfl) rfl, kiRX3, by decide +kernel, by decide +kernel, by decide, by decide +kernel⟩
theorem kpX3_slipMade : MFv mX3_slipMade 0 := ⟨gT4 (List.mem_of_getElem? (i := 16) (by decide +kernel)) (by decide +kernel), gT4 (List.mem_of_getElem? (i := 17) (by decide +kernel)) (by decide +kernel), kcX3_slipMade⟩
theorem kcX3_open : MFc mX3_open 2 := ⟨gT3 (List.mem_of_getElem? (i := 183) rfl) rfl, kiRX3, by decide +kernel, by decide +kernel, by decide, by decide +kernel⟩
theorem kpX3_open : MFv mX3_open 2 := ⟨gT3 (List.mem_of_getElem? (i := 181) (by decide +kernel)) (by decide +kernel), gT3 (List.mem_of_getElem? (i := 182) (by decide +kernel)) (by decide +kernel), kcX3_open⟩
theorem kcX3_judge : MFc mX3_judge 2 := ⟨gT3 (List.mem_of_getElem? (i := 188) rfl) rfl, kiRX3, by decide +kernel, by decide +kernel, by decide, by decide +kernel⟩
theorem kpX3_judge : MFv mX3_judge 2 := ⟨gT3 (List.mem_of_getElem? (i := 186) (by decide +kernel)) (by decide +kernel), gT3 (List.mem_of_getElem? (i := 187) (by decide +kernel)) (by decide +kernel), kcX3_judge⟩
theorem kcX3_judgeNumber : MFc mX3_judgeNumber 2 := ⟨gT3 (List.mem_of_getElem? (i := 193) rfl) rfl, kiRX3, by decide +kernel, by decide +kernel, by decide, by decide +kernel⟩
theorem kpX3_judgeNumber : MFv mX3_judgeNumber 2 := ⟨gT3 (List.mem_of_getElem? (i := 192) (by decide +kernel)) (by decide +kernel), gSl (q := (yX3_judgeNumber, 8)) (List.mem_append_right _ (List.mem_append_left _ (List.mem_of_getElem? (i := 14) (by decide +kernel)))), kcX3_judgeNumber⟩
theorem kcX3_isAlike : MFc mX3_isAlike 2 := ⟨gT3 (List.mem_of_getElem? (i := 203) rfl) rfl, kiRX3, by decide +kernel, by decide +kernel, by decide, by decide +kernel⟩
theorem kpX3_isAlike : MFv mX3_isAlike 2 := ⟨gT3 (List.mem_of_getElem? (i := 202) (by decide +kernel)) (by decide +kernel), gSl (q := (yX3_isAlike, 8)) (List.mem_append_right _ (List.mem_append_left _ (List.mem_of_getElem? (i := 15) (by decide +kernel)))), kcX3_isAlike⟩
theorem kcX3_findsSlip : MFc mX3_findsSlip 2 := ⟨gT3 (List.mem_of_getElem? (i := 208) rfl) rfl, kiRX3, by decide +kernel, by decide +kernel, by decide, by decide +kernel⟩
theorem kpX3_findsSlip : MFv mX3_findsSlip 2 := ⟨gT3 (List.mem_of_getElem? (i := 207) (by decide +kernel)) (by decide +kernel), gSl (q := (yX3_findsSlip, 8)) (List.mem_append_right _ (List.mem_append_right _ (List.mem_append_left _ (List.mem_of_getElem? (i := 0) (by decide +kernel))))), kcX3_findsSlip⟩
theorem kcX3_isSoChanged : MFc mX3_isSoChanged 4 := ⟨gT3 (List.mem_of_getElem? (i := 224) rfl) rfl, kiRX3, by decide +kernel, by decide +kernel, by decide, by decide +kernel⟩
theorem kpX3_isSoChanged : MFv mX3_isSoChanged 4 := ⟨gT3 (List.mem_of_getElem? (i := 223) (by decide +kernel)) (by decide +kernel), gSl (q := (yX3_isSoChanged, 8)) (List.mem_append_right _ (List.mem_append_right _ (List.mem_append_left _ (List.mem_of_getElem? (i := 1) (by decide +kernel))))), kcX3_isSoChanged⟩
theorem kcX3_option : MFc mX3_option 3 := ⟨gT3 (List.mem_of_getElem? (i := 213) rfl) rfl, kiRX3, by decide +kernel, by decide +kernel, by decide, by decide +kernel⟩
theorem kpX3_option : MFs mX3_option 3 := ⟨gT3 (List.mem_of_getElem? (i := 212) (by decide +kernel)) (by decide +kernel), kcX3_option⟩
theorem kcX3_neighbour : MFc mX3_neighbour 2 := ⟨gT3 (List.mem_of_getElem? (i := 220) rfl) rfl, kiRX3, by decide +kernel, by decide +kernel, by decide, by decide +kernel⟩
theorem kpX3_neighbour : MFs mX3_neighbour 2 := ⟨gT3 (List.mem_of_getElem? (i := 219) (by decide +kernel)) (by decide +kernel), kcX3_neighbour⟩
theorem kcX4_init : MFc mX4_init 0 := ⟨gT1 (List.mem_of_getElem? (i := 40) rfl) rfl, kiRX4, by decide +kernel, by decide +kernel, by decide, by decide +kernel⟩
theorem kpX4_init : MFi mX4_init 0 := ⟨gT1 (List.mem_of_getElem? (i := 39) (by decide +kernel)) (by decide +kernel), rfl, rfl, kcX4_init⟩
theorem kcX4_inputs : MFc mX4_inputs 0 := ⟨gT3 (List.mem_of_getElem? (i := 14) rfl) rfl, kiRX4, by decide +kernel, by decide +kernel, by decide, by decide +kernel⟩
theorem kpX4_inputs : MFv mX4_inputs 0 := ⟨gT3 (List.mem_of_getElem? (i := 12) (by decide +kernel)) (by decide +kernel), gT3 (List.mem_of_getElem? (i := 13) (by decide +kernel)) (by decide +kernel), kcX4_inputs⟩
theorem kcX4_wanted : MFc mX4_wanted 0 := ⟨gT3 (List.mem_of_getElem? (i := 161) rfl) rfl, kiRX4, by decide +kernel, by decide +kernel, by decide, by decide +kernel⟩
theorem kpX4_wanted : MFv mX4_wanted 0 := ⟨gT3 (List.mem_of_getElem? (i := 159) (by decide +kernel)) (by decide +kernel), gT3 (List.mem_of_getElem? (i := 160) (by decide +kernel)) (by decide +kernel), kcX4_wanted⟩
theorem kcX4_isInput : MFc mX4_isInput 1 := ⟨gT2 (List.mem_of_getElem? (i := 181) rfl) rfl, kiRX4, by decide +kernel, by decide +kernel, by decide, by decide +kernel⟩
theorem kpX4_isInput : MFv mX4_isInput 1 := ⟨gT2 (List.mem_of_getElem? (i := 179) (by decide +kernel)) (by decide +kernel), gT2 (List.mem_of_getElem? (i := 180) (by decide +kernel)) (by decide +kernel), kcX4_isInput⟩
theorem kcX4_isWanted : MFc mX4_isWanted 1 := ⟨gT2 (List.mem_of_getElem? (i := 186) rfl) rfl, kiRX4, by decide +kernel, by decide +kernel, by decide, by decide +kernel⟩
theorem kpX4_isWanted : MFv mX4_isWanted 1 := ⟨gT2 (List.mem_of_getElem? (i := 184) (by decide +kernel)) (by decide +kernel), gT2 (List.mem_of_getElem? (i := 185) (by decide +kernel)) (by decide +kernel), kcX4_isWanted⟩
theorem kcX4_isWorld : MFc mX4_isWorld 1 := ⟨gT2 (List.mem_of_getElem? (i := 233) rfl) rfl, kiRX4, by decide +kernel, by decide +kernel, by decide, by decide +kernel⟩
theorem kpX4_isWorld : MFv mX4_isWorld 1 := ⟨gT2 (List.mem_of_getElem? (i := 231) (by decide +kernel)) (by decide +kernel), gT2 (List.mem_of_getElem? (i := 232) (by decide +kernel)) (by decide +kernel), kcX4_isWorld⟩
theorem kcX4_countInputs : MFc mX4_countInputs 0 := ⟨gT2 (List.mem_of_getElem? (i := 190) rfl) rfl, kiRX4, by decide +kernel, by decide +kernel, by decide, by decide +kernel⟩
theorem kpX4_countInputs : MFv mX4_countInputs 0 := ⟨gT2 (List.mem_of_getElem? (i := 188) (by decide +kernel)) (by decide +kernel), gT2 (List.mem_of_getElem? (i := 189) (by decide +kernel)) (by decide +kernel), kcX4_countInputs⟩
theorem kcX4_countWanted : MFc mX4_countWanted 0 := ⟨gT2 (List.mem_of_getElem? (i := 208) rfl) rfl, kiRX4, by decide +kernel, by decide +kernel, by decide, by decide +kernel⟩
theorem kpX4_countWanted : MFv mX4_countWanted 0 := ⟨gT2 (List.mem_of_getElem? (i := 206) (by decide +kernel)) (by decide +kernel), gT2 (List.mem_of_getElem? (i := 207) (by decide +kernel)) (by decide +kernel), kcX4_countWanted⟩
theorem kcX4_countWorlds : MFc mX4_countWorlds 0 := ⟨gT2 (List.mem_of_getElem? (i := 221) rfl) rfl, kiRX4, by decide +kernel, by decide +kernel, by decide, by decide +kernel⟩
theorem kpX4_countWorlds : MFv mX4_countWorlds 0 := ⟨gT2 (List.mem_of_getElem? (i := 219) (by decide +kernel)) (by decide +kernel), gT2 (List.mem_of_getElem? (i := 220) (by decide +kernel)) (by decide +kernel), kcX4_countWorlds⟩
theorem kcX4_worth : MFc mX4_worth 1 := ⟨gT4 (List.mem_of_getElem? (i := 3) rfl) rfl, kiRX4, by decide +kernel, by decide +kernel, by decide, by decide +kernel⟩
theorem kpX4_worth : MFv mX4_worth 1 := ⟨gT4 (List.mem_of_getElem? (i := 1) (by decide +kernel)) (by decide +kernel), gT4 (List.mem_of_getElem? (i := 2) (by decide +kernel)) (by decide +kernel), kcX4_worth⟩
theorem kcX4_worthOfAll : MFc mX4_worthOfAll 0 := ⟨gT4 (List.mem_of_getElem? (i := 62) rfl) rfl, kiRX4, by decide +kernel, by decide +kernel, by decide, by decide +kernel⟩
theorem kpX4_worthOfAll : MFv mX4_worthOfAll 0 := ⟨gT4 (List.mem_of_getElem? (i := 60) (by decide +kernel)) (by decide +kernel), gT4 (List.mem_of_getElem? (i := 61) (by decide +kernel)) (by decide +kernel), kcX4_worthOfAll⟩
theorem kcX4_given : MFc mX4_given 2 := ⟨gT3 (List.mem_of_getElem? (i := 46) rfl) rfl, kiRX4, by decide +kernel, by decide +kernel, by decide, by decide +kernel⟩
theorem kpX4_given : MFv mX4_given 2 := ⟨gT3 (List.mem_of_getElem? (i := 44) (by decide +kernel)) (by decide +kernel), gT3 (List.mem_of_getElem? (i := 45) (by decide +kernel)) (by decide +kernel), kcX4_given⟩
theorem kcX4_addInput : MFc mX4_addInput 1 := ⟨gT2 (List.mem_of_getElem? (i := 200) rfl) rfl, kiRX4, by decide +kernel, by decide +kernel, by decide, by decide +kernel⟩
theorem kpX4_addInput : MFv mX4_addInput 1 := ⟨gT2 (List.mem_of_getElem? (i := 198) (by decide +kernel)) (by decide +kernel), gT2 (List.mem_of_getElem? (i := 199) (by decide +kernel)) (by decide +kernel), kcX4_addInput⟩
theorem kcX4_want : MFc mX4_want 2 := ⟨gT2 (List.mem_of_getElem? (i := 212) rfl) rfl, kiRX4, by decide +kernel, by decide +kernel, by decide, by decide +kernel⟩
theorem kpX4_want : MFv mX4_want 2 := ⟨gT2 (List.mem_of_getElem? (i := 210) (by decide +kernel)) (by decide +kernel), gT2 (List.mem_of_getElem? (i := 211) (by decide +kernel)) (by decide +kernel), kcX4_want⟩
theorem kcX4_addWorld : MFc mX4_addWorld 0 := ⟨gT2 (List.mem_of_getElem? (i := 225) rfl) rfl, kiRX4, by decide +kernel, by decide +kernel, by decide, by decide +kernel⟩
theorem kpX4_addWorld : MFv mX4_addWorld 0 := ⟨gT2 (List.mem_of_getElem? (i := 223) (by decide +kernel)) (by decide +kernel), gT2 (List.mem_of_getElem? (i := 224) (by decide +kernel)) (by decide +kernel), kcX4_addWorld⟩
theorem kcX4_put : MFc mX4_put 3 := ⟨gT2 (List.mem_of_getElem? (i := 237) rfl) rfl, kiRX4, by decide +kernel, by decide +kernel, by decide, by decide +kernel⟩
theorem kpX4_put : MFv mX4_put 3 := ⟨gT2 (List.mem_of_getElem? (i := 235) (by decide +kernel)) (by decide +kernel), gT2 (List.mem_of_getElem? (i := 236) (by decide +kernel)) (by decide +kernel), kcX4_put⟩
theorem kcX5_init : MFc mX5_init 0 := ⟨gT1 (List.mem_of_getElem? (i := 104) rfl) rfl, kiRX5, by decide +kernel, by decide +kernel, by decide, by decide +kernel⟩
theorem kpX5_init : MFi mX5_init 0 := ⟨gT1 (List.mem_of_getElem? (i := 103) (by decide +kernel)) (by decide +kernel), rfl, rfl, kcX5_init⟩
theorem kcX5_errorMet : MFc mX5_errorMet 0 := ⟨gT3 (List.mem_of_getElem? (i := 138) rfl) rfl, kiRX5, by decide +kernel, by decide +kernel, by decide, by decide +kernel⟩
theorem kpX5_errorMet : MFv mX5_errorMet 0 := ⟨gT3 (List.mem_of_getElem? (i := 136) (by decide +kernel)) (by decide +kernel), gT3 (List.mem_of_getElem? (i := 137) (by decide +kernel)) (by decide +kernel), kcX5_errorMet⟩
theorem kcX5_result : MFc mX5_result 0 := ⟨gT3 (List.mem_of_getElem? (i := 134) rfl) rfl, kiRX5, by decide +kernel, by decide +kernel, by decide, by decide +kernel⟩
theorem kpX5_result : MFv mX5_result 0 := ⟨gT3 (List.mem_of_getElem? (i := 132) (by decide +kernel)) (by decide +kernel), gT3 (List.mem_of_getElem? (i := 133) (by decide +kernel)) (by decide +kernel), kcX5_result⟩
theorem kcX5_reckon : MFc mX5_reckon 4 := ⟨gT3 (List.mem_of_getElem? (i := 67) rfl) rfl, kiRX5, by decide +kernel, by decide +kernel, by decide, by decide +kernel⟩
theorem kpX5_reckon : MFv mX5_reckon 4 := ⟨gT3 (List.mem_of_getElem? (i := 65) (by decide +kernel)) (by decide +kernel), gT3 (List.mem_of_getElem? (i := 66) (by decide +kernel)) (by decide +kernel), kcX5_reckon⟩
theorem kcX5_push : MFc mX5_push 1 := ⟨gT3 (List.mem_of_getElem? (i := 85) rfl) rfl, kiRX5, by decide +kernel, by decide +kernel, by decide, by decide +kernel⟩
theorem kpX5_push : MFv mX5_push 1 := ⟨gT3 (List.mem_of_getElem? (i := 84) (by decide +kernel)) (by decide +kernel), gSl (q := (yX5_push, 4)) (List.mem_append_right _ (List.mem_append_left _ (List.mem_of_getElem? (i := 4) (by decide +kernel)))), kcX5_push⟩
theorem kcX5_pop : MFc mX5_pop 0 := ⟨gT3 (List.mem_of_getElem? (i := 103) rfl) rfl, kiRX5, by decide +kernel, by decide +kernel, by decide, by decide +kernel⟩
theorem kpX5_pop : MFv mX5_pop 0 := ⟨gT3 (List.mem_of_getElem? (i := 102) (by decide +kernel)) (by decide +kernel), gSl (q := (yX5_pop, 4)) (List.mem_append_right _ (List.mem_append_left _ (List.mem_of_getElem? (i := 6) (by decide +kernel)))), kcX5_pop⟩
theorem kcX5_pushCell : MFc mX5_pushCell 3 := ⟨gT3 (List.mem_of_getElem? (i := 91) rfl) rfl, kiRX5, by decide +kernel, by decide +kernel, by decide, by decide +kernel⟩
theorem kpX5_pushCell : MFv mX5_pushCell 3 := ⟨gT3 (List.mem_of_getElem? (i := 90) (by decide +kernel)) (by decide +kernel), gSl (q := (yX5_pushCell, 4)) (List.mem_append_right _ (List.mem_append_left _ (List.mem_of_getElem? (i := 5) (by decide +kernel)))), kcX5_pushCell⟩
theorem kcX5_pushRectangle : MFc mX5_pushRectangle 2 := ⟨gT3 (List.mem_of_getElem? (i := 107) rfl) rfl, kiRX5, by decide +kernel, by decide +kernel, by decide, by decide +kernel⟩
theorem kpX5_pushRectangle : MFv mX5_pushRectangle 2 := ⟨gT3 (List.mem_of_getElem? (i := 106) (by decide +kernel)) (by decide +kernel), gSl (q := (yX5_pushRectangle, 4)) (List.mem_append_right _ (List.mem_append_left _ (List.mem_of_getElem? (i := 7) (by decide +kernel)))), kcX5_pushRectangle⟩
theorem kcX5_join : MFc mX5_join 1 := ⟨gT3 (List.mem_of_getElem? (i := 113) rfl) rfl, kiRX5, by decide +kernel, by decide +kernel, by decide, by decide +kernel⟩
theorem kpX5_join : MFv mX5_join 1 := ⟨gT3 (List.mem_of_getElem? (i := 112) (by decide +kernel)) (by decide +kernel), gSl (q := (yX5_join, 4)) (List.mem_append_right _ (List.mem_append_left _ (List.mem_of_getElem? (i := 8) (by decide +kernel)))), kcX5_join⟩
theorem kcX5_multiply : MFc mX5_multiply 2 := ⟨gT3 (List.mem_of_getElem? (i := 117) rfl) rfl, kiRX5, by decide +kernel, by decide +kernel, by decide, by decide +kernel⟩
theorem kpX5_multiply : MFv mX5_multiply 2 := ⟨gT3 (List.mem_of_getElem? (i := 116) (by decide +kernel)) (by decide +kernel), gSl (q := (yX5_multiply, 4)) (List.mem_append_right _ (List.mem_append_left _ (List.mem_of_getElem? (i := 9) (by decide +kernel)))), kcX5_multiply⟩
theorem kcX5_divide : MFc mX5_divide 2 := ⟨gT3 (List.mem_of_getElem? (i := 124) rfl) rfl, kiRX5, by decide +kernel, by decide +kernel, by decide, by decide +kernel⟩
theorem kpX5_divide : MFv mX5_divide 2 := ⟨gT3 (List.mem_of_getElem? (i := 123) (by decide +kernel)) (by decide +kernel), gSl (q := (yX5_divide, 4)) (List.mem_append_right _ (List.mem_append_left _ (List.mem_of_getElem? (i := 10) (by decide +kernel)))), kcX5_divide⟩
theorem kcX6_init : MFc mX6_init 1 := ⟨gT2 (List.mem_of_getElem? (i := 51) rfl) rfl, kiRX6, by decide +kernel, by decide +kernel, by decide, by decide +kernel⟩
theorem kpX6_init : MFi mX6_init 1 := ⟨gT2 (List.mem_of_getElem? (i := 50) (by decide +kernel)) (by decide +kernel), rfl, rfl, kcX6_init⟩
theorem kcX6_parse : MFc mX6_parse 0 := ⟨gT2 (List.mem_of_getElem? (i := 66) rfl) rfl, kiRX6, by decide +kernel, by decide +kernel, by decide, by decide +kernel⟩
theorem kpX6_parse : MFv mX6_parse 0 := ⟨gT2 (List.mem_of_getElem? (i := 64) (by decide +kernel)) (by decide +kernel), gT2 (List.mem_of_getElem? (i := 65) (by decide +kernel)) (by decide +kernel), kcX6_parse⟩
theorem kcX6_next : MFc mX6_next 0 := ⟨gT2 (List.mem_of_getElem? (i := 78) rfl) rfl, kiRX6, by decide +kernel, by decide +kernel, by decide, by decide +kernel⟩
theorem kpX6_next : MFv mX6_next 0 := ⟨gT2 (List.mem_of_getElem? (i := 77) (by decide +kernel)) (by decide +kernel), gSl (q := (yX6_next, 3)) (List.mem_append_left _ (List.mem_of_getElem? (i := 4) (by decide +kernel))), kcX6_next⟩
theorem kcX6_fail : MFc mX6_fail 1 := ⟨gT2 (List.mem_of_getElem? (i := 86) rfl) rfl, kiRX6, by decide +kernel, by decide +kernel, by decide, by decide +kernel⟩
theorem kpX6_fail : MFv mX6_fail 1 := ⟨gT2 (List.mem_of_getElem? (i := 85) (by decide +kernel)) (by decide +kernel), gSl (q := (yX6_fail, 3)) (List.mem_append_left _ (List.mem_of_getElem? (i := 5) (by decide +kernel))), kcX6_fail⟩
theorem kcX6_pass : MFc mX6_pass 1 := ⟨gT2 (List.mem_of_getElem? (i := 70) rfl) rfl, kiRX6, by decide +kernel, by decide +kernel, by decide, by decide +kernel⟩
theorem kpX6_pass : MFv mX6_pass 1 := ⟨gT2 (List.mem_of_getElem? (i := 69) (by decide +kernel)) (by decide +kernel), gSl (q := (yX6_pass, 3)) (List.mem_append_left _ (List.mem_of_getElem? (i := 2) (by decide +kernel))), kcX6_pass⟩
theorem kcX6_passWithin : MFc mX6_passWithin 2 := ⟨gT2 (List.mem_of_getElem? (i := 74) rfl) rfl, kiRX6, by decide +kernel, by decide +kernel, by decide, by decide +kernel⟩
theorem kpX6_passWithin : MFv mX6_passWithin 2 := ⟨gT2 (List.mem_of_getElem? (i := 73) (by decide +kernel)) (by decide +kernel), gSl (q := (yX6_passWithin, 3)) (List.mem_append_left _ (List.mem_of_getElem? (i := 3) (by decide +kernel))), kcX6_passWithin⟩
theorem kcX6_readSum : MFc mX6_readSum 1 := ⟨gT2 (List.mem_of_getElem? (i := 90) rfl) rfl, kiRX6, by decide +kernel, by decide +kernel, by decide, by decide +kernel⟩
theorem kpX6_readSum : MFv mX6_readSum 1 := ⟨gT2 (List.mem_of_getElem? (i := 89) (by decide +kernel)) (by decide +kernel), gSl (q := (yX6_readSum, 3)) (List.mem_append_left _ (List.mem_of_getElem? (i := 6) (by decide +kernel))), kcX6_readSum⟩
theorem kcX6_readProduct : MFc mX6_readProduct 1 := ⟨gT2 (List.mem_of_getElem? (i := 94) rfl) rfl, kiRX6, by decide +kernel, by decide +kernel, by decide, by decide +kernel⟩
theorem kpX6_readProduct : MFv mX6_readProduct 1 := ⟨gT2 (List.mem_of_getElem? (i := 93) (by decide +kernel)) (by decide +kernel), gSl (q := (yX6_readProduct, 3)) (List.mem_append_left _ (List.mem_of_getElem? (i := 7) (by decide +kernel))), kcX6_readProduct⟩
theorem kcX6_readFactor : MFc mX6_readFactor 1 := ⟨gT2 (List.mem_of_getElem? (i := 98) rfl) rfl, kiRX6, by decide +kernel, by decide +kernel, by decide, by decide +kernel⟩
theorem kpX6_readFactor : MFv mX6_readFactor 1 := ⟨gT2 (List.mem_of_getElem? (i := 97) (by decide +kernel)) (by decide +kernel), gSl (q := (yX6_readFactor, 3)) (List.mem_append_left _ (List.mem_of_getElem? (i := 8) (by decide +kernel))), kcX6_readFactor⟩
theorem kcX6_readNegative : MFc mX6_readNegative 1 := ⟨gT2 (List.mem_of_getElem? (i := 102) rfl) rfl, kiRX6, by decide +kernel, by decide +kernel, by decide, by decide +kernel⟩
theorem kpX6_readNegative : MFv mX6_readNegative 1 := ⟨gT2 (List.mem_of_getElem? (i := 101) (by decide +kernel)) (by decide +kernel), gSl (q := (yX6_readNegative, 3)) (List.mem_append_left _ (List.mem_of_getElem? (i := 9) (by decide +kernel))), kcX6_readNegative⟩
theorem kcX6_readGreater : MFc mX6_readGreater 1 := ⟨gT2 (List.mem_of_getElem? (i := 118) rfl) rfl, kiRX6, by decide +kernel, by decide +kernel, by decide, by decide +kernel⟩
theorem kpX6_readGreater : MFv mX6_readGreater 1 := ⟨gT2 (List.mem_of_getElem? (i := 117) (by decide +kernel)) (by decide +kernel), gSl (q := (yX6_readGreater, 3)) (List.mem_append_left _ (List.mem_of_getElem? (i := 12) (by decide +kernel))), kcX6_readGreater⟩
theorem kcX6_readRectangle : MFc mX6_readRectangle 0 := ⟨gT2 (List.mem_of_getElem? (i := 110) rfl) rfl, kiRX6, by decide +kernel, by decide +kernel, by decide, by decide +kernel⟩
theorem kpX6_readRectangle : MFv mX6_readRectangle 0 := ⟨gT2 (List.mem_of_getElem? (i := 109) (by decide +kernel)) (by decide +kernel), gSl (q := (yX6_readRectangle, 3)) (List.mem_append_left _ (List.mem_of_getElem? (i := 10) (by decide +kernel))), kcX6_readRectangle⟩
theorem kcX6_readNumber : MFc mX6_readNumber 0 := ⟨gT2 (List.mem_of_getElem? (i := 125) rfl) rfl, kiRX6, by decide +kernel, by decide +kernel, by decide, by decide +kernel⟩
theorem kpX6_readNumber : MFv mX6_readNumber 0 := ⟨gT2 (List.mem_of_getElem? (i := 124) (by decide +kernel)) (by decide +kernel), gSl (q := (yX6_readNumber, 3)) (List.mem_append_left _ (List.mem_of_getElem? (i := 13) (by decide +kernel))), kcX6_readNumber⟩
theorem kcX6_readCell : MFc mX6_readCell 1 := ⟨gT2 (List.mem_of_getElem? (i := 114) rfl) rfl, kiRX6, by decide +kernel, by decide +kernel, by decide, by decide +kernel⟩
theorem kpX6_readCell : MFv mX6_readCell 1 := ⟨gT2 (List.mem_of_getElem? (i := 113) (by decide +kernel)) (by decide +kernel), gSl (q := (yX6_readCell, 3)) (List.mem_append_left _ (List.mem_of_getElem? (i := 11) (by decide +kernel))), kcX6_readCell⟩
theorem kcX6_isDigit : MFc mX6_isDigit 1 := ⟨gT2 (List.mem_of_getElem? (i := 121) rfl) rfl, kiRX6, by decide +kernel, by decide +kernel, by decide, by decide +kernel⟩
theorem kpX6_isDigit : MFs mX6_isDigit 1 := ⟨gT2 (List.mem_of_getElem? (i := 120) (by decide +kernel)) (by decide +kernel), kcX6_isDigit⟩
theorem kcX7_init : MFc mX7_init 0 := ⟨gT1 (List.mem_of_getElem? (i := 63) rfl) rfl, kiRX7, by decide +kernel, by decide +kernel, by decide, by decide +kernel⟩
theorem kpX7_init : MFi mX7_init 0 := ⟨gT1 (List.mem_of_getElem? (i := 62) (by decide +kernel)) (by decide +kernel), rfl, rfl, kcX7_init⟩
theorem kcX7_empty : MFc mX7_empty 1 := ⟨gT2 (List.mem_of_getElem? (i := 173) rfl) rfl, kiRX7, by decide +kernel, by decide +kernel, by decide, by decide +kernel⟩
theorem kpX7_empty : MFv mX7_empty 1 := ⟨gT2 (List.mem_of_getElem? (i := 171) (by decide +kernel)) (by decide +kernel), gT2 (List.mem_of_getElem? (i := 172) (by decide +kernel)) (by decide +kernel), kcX7_empty⟩
theorem kcX7_putNumber : MFc mX7_putNumber 2 := ⟨gT2 (List.mem_of_getElem? (i := 0) rfl) rfl, kiRX7, by decide +kernel, by decide +kernel, by decide, by decide +kernel⟩
theorem kpX7_putNumber : MFv mX7_putNumber 2 := ⟨gT1 (List.mem_of_getElem? (i := 238) (by decide +kernel)) (by decide +kernel), gT1 (List.mem_of_getElem? (i := 239) (by decide +kernel)) (by decide +kernel), kcX7_putNumber⟩
theorem kcX7_putFormula : MFc mX7_putFormula 2 := ⟨gT2 (List.mem_of_getElem? (i := 133) rfl) rfl, kiRX7, by decide +kernel, by decide +kernel, by decide, by decide +kernel⟩
theorem kpX7_putFormula : MFv mX7_putFormula 2 := ⟨gT2 (List.mem_of_getElem? (i := 131) (by decide +kernel)) (by decide +kernel), gT2 (List.mem_of_getElem? (i := 132) (by decide +kernel)) (by decide +kernel), kcX7_putFormula⟩
theorem kcX7_put : MFc mX7_put 5 := ⟨gT2 (List.mem_of_getElem? (i := 4) rfl) rfl, kiRX7, by decide +kernel, by decide +kernel, by decide, by decide +kernel⟩
theorem kpX7_put : MFv mX7_put 5 := ⟨gT2 (List.mem_of_getElem? (i := 3) (by decide +kernel)) (by decide +kernel), gSl (q := (yX7_put, 6)) (List.mem_append_left _ (List.mem_of_getElem? (i := 1) (by decide +kernel))), kcX7_put⟩
theorem kcX7_reckoned : MFc mX7_reckoned 0 := ⟨gT3 (List.mem_of_getElem? (i := 18) rfl) rfl, kiRX7, by decide +kernel, by decide +kernel, by decide, by decide +kernel⟩
theorem kpX7_reckoned : MFv mX7_reckoned 0 := ⟨gT3 (List.mem_of_getElem? (i := 16) (by decide +kernel)) (by decide +kernel), gT3 (List.mem_of_getElem? (i := 17) (by decide +kernel)) (by decide +kernel), kcX7_reckoned⟩
theorem kcX7_heldAt : MFc mX7_heldAt 1 := ⟨gT2 (List.mem_of_getElem? (i := 169) rfl) rfl, kiRX7, by decide +kernel, by decide +kernel, by decide, by decide +kernel⟩
theorem kpX7_heldAt : MFv mX7_heldAt 1 := ⟨gT2 (List.mem_of_getElem? (i := 167) (by decide +kernel)) (by decide +kernel), gT2 (List.mem_of_getElem? (i := 168) (by decide +kernel)) (by decide +kernel), kcX7_heldAt⟩
theorem kcX7_numberAt : MFc mX7_numberAt 1 := ⟨gT3 (List.mem_of_getElem? (i := 55) rfl) rfl, kiRX7, by decide +kernel, by decide +kernel, by decide, by decide +kernel⟩
theorem kpX7_numberAt : MFv mX7_numberAt 1 := ⟨gT3 (List.mem_of_getElem? (i := 53) (by decide +kernel)) (by decide +kernel), gT3 (List.mem_of_getElem? (i := 54) (by decide +kernel)) (by decide +kernel), kcX7_numberAt⟩
theorem kcX7_formulaAt : MFc mX7_formulaAt 1 := ⟨gT3 (List.mem_of_getElem? (i := 63) rfl) rfl, kiRX7, by decide +kernel, by decide +kernel, by decide, by decide +kernel⟩
theorem kpX7_formulaAt : MFv mX7_formulaAt 1 := ⟨gT3 (List.mem_of_getElem? (i := 61) (by decide +kernel)) (by decide +kernel), gT3 (List.mem_of_getElem? (i := 62) (by decide +kernel)) (by decide +kernel), kcX7_formulaAt⟩
theorem kcX7_needsAt : MFc mX7_needsAt 1 := ⟨gT3 (List.mem_of_getElem? (i := 28) rfl) rfl, kiRX7, by decide +kernel, by decide +kernel, by decide, by decide +kernel⟩
theorem kpX7_needsAt : MFv mX7_needsAt 1 := ⟨gT3 (List.mem_of_getElem? (i := 26) (by decide +kernel)) (by decide +kernel), gT3 (List.mem_of_getElem? (i := 27) (by decide +kernel)) (by decide +kernel), kcX7_needsAt⟩
theorem kcX8_init : MFc mX8_init 0 := ⟨gT1 (List.mem_of_getElem? (i := 26) rfl) rfl, kiRX8, by decide +kernel, by decide +kernel, by decide, by decide +kernel⟩
theorem kpX8_init : MFi mX8_init 0 := ⟨gT1 (List.mem_of_getElem? (i := 25) (by decide +kernel)) (by decide +kernel), rfl, rfl, kcX8_init⟩
theorem kcX8_length : MFc mX8_length 0 := ⟨gT1 (List.mem_of_getElem? (i := 222) rfl) rfl, kiRX8, by decide +kernel, by decide +kernel, by decide, by decide +kernel⟩
theorem kpX8_length : MFv mX8_length 0 := ⟨gT1 (List.mem_of_getElem? (i := 220) (by decide +kernel)) (by decide +kernel), gT1 (List.mem_of_getElem? (i := 221) (by decide +kernel)) (by decide +kernel), kcX8_length⟩
theorem kcX8_hasRoom : MFc mX8_hasRoom 0 := ⟨gT1 (List.mem_of_getElem? (i := 214) rfl) rfl, kiRX8, by decide +kernel, by decide +kernel, by decide, by decide +kernel⟩
theorem kpX8_hasRoom : MFv mX8_hasRoom 0 := ⟨gT1 (List.mem_of_getElem? (i := 212) (by decide +kernel)) (by decide +kernel), gT1 (List.mem_of_getElem? (i := 213) (by decide +kernel)) (by decide +kernel), kcX8_hasRoom⟩
theorem kcX8_append : MFc mX8_append 1 := ⟨gT1 (List.mem_of_getElem? (i := 218) rfl) rfl, kiRX8, by decide +kernel, by decide +kernel, by decide, by decide +kernel⟩
theorem kpX8_append : MFv mX8_append 1 := ⟨gT1 (List.mem_of_getElem? (i := 216) (by decide +kernel)) (by decide +kernel), gT1 (List.mem_of_getElem? (i := 217) (by decide +kernel)) (by decide +kernel), kcX8_append⟩
theorem kcX8_moveTo : MFc mX8_moveTo 1 := ⟨gT2 (List.mem_of_getElem? (i := 42) rfl) rfl, kiRX8, by decide +kernel, by decide +kernel, by decide, by decide +kernel⟩
theorem kpX8_moveTo : MFv mX8_moveTo 1 := ⟨gT2 (List.mem_of_getElem? (i := 40) (by decide +kernel)) (by decide +kernel), gT2 (List.mem_of_getElem? (i := 41) (by decide +kernel)) (by decide +kernel), kcX8_moveTo⟩
theorem kcX9_init : MFc mX9_init 0 := ⟨gT1 (List.mem_of_getElem? (i := 18) rfl) rfl, kiRX9, by decide +kernel, by decide +kernel, by decide, by decide +kernel⟩
theorem kpX9_init : MFi mX9_init 0 := ⟨gT1 (List.mem_of_getElem? (i := 17) (by decide +kernel)) (by decide +kernel), rfl, rfl, kcX9_init⟩
theorem kcX9_feed : MFc mX9_feed 5 := ⟨gT1 (List.mem_of_getElem? (i := 210) rfl) rfl, kiRX9, by decide +kernel, by decide +kernel, by decide, by decide +kernel⟩
theorem kpX9_feed : MFv mX9_feed 5 := ⟨gT1 (List.mem_of_getElem? (i := 208) (by decide +kernel)) (by decide +kernel), gT1 (List.mem_of_getElem? (i := 209) (by decide +kernel)) (by decide +kernel), kcX9_feed⟩
theorem kcX9_number : MFc mX9_number 3 := ⟨gT1 (List.mem_of_getElem? (i := 226) rfl) rfl, kiRX9, by decide +kernel, by decide +kernel, by decide, by decide +kernel⟩
theorem kpX9_number : MFv mX9_number 3 := ⟨gT1 (List.mem_of_getElem? (i := 224) (by decide +kernel)) (by decide +kernel), gT1 (List.mem_of_getElem? (i := 225) (by decide +kernel)) (by decide +kernel), kcX9_number⟩
theorem kcX9_formula : MFc mX9_formula 3 := ⟨gT2 (List.mem_of_getElem? (i := 13) rfl) rfl, kiRX9, by decide +kernel, by decide +kernel, by decide, by decide +kernel⟩
theorem kpX9_formula : MFv mX9_formula 3 := ⟨gT2 (List.mem_of_getElem? (i := 11) (by decide +kernel)) (by decide +kernel), gT2 (List.mem_of_getElem? (i := 12) (by decide +kernel)) (by decide +kernel), kcX9_formula⟩
theorem kcX9_clear : MFc mX9_clear 2 := ⟨gT2 (List.mem_of_getElem? (i := 165) rfl) rfl, kiRX9, by decide +kernel, by decide +kernel, by decide, by decide +kernel⟩
theorem kpX9_clear : MFv mX9_clear 2 := ⟨gT2 (List.mem_of_getElem? (i := 163) (by decide +kernel)) (by decide +kernel), gT2 (List.mem_of_getElem? (i := 164) (by decide +kernel)) (by decide +kernel), kcX9_clear⟩
theorem kcX9_input : MFc mX9_input 1 := ⟨gT2 (List.mem_of_getElem? (i := 177) rfl) rfl, kiRX9, by decide +kernel, by decide +kernel, by decide, by decide +kernel⟩
theorem kpX9_input : MFv mX9_input 1 := ⟨gT2 (List.mem_of_getElem? (i := 175) (by decide +kernel)) (by decide +kernel), gT2 (List.mem_of_getElem? (i := 176) (by decide +kernel)) (by decide +kernel), kcX9_input⟩
theorem kcX9_wants : MFc mX9_wants 2 := ⟨gT2 (List.mem_of_getElem? (i := 204) rfl) rfl, kiRX9, by decide +kernel, by decide +kernel, by decide, by decide +kernel⟩
theorem kpX9_wants : MFv mX9_wants 2 := ⟨gT2 (List.mem_of_getElem? (i := 202) (by decide +kernel)) (by decide +kernel), gT2 (List.mem_of_getElem? (i := 203) (by decide +kernel)) (by decide +kernel), kcX9_wants⟩
theorem kcX9_world : MFc mX9_world 0 := ⟨gT2 (List.mem_of_getElem? (i := 217) rfl) rfl, kiRX9, by decide +kernel, by decide +kernel, by decide, by decide +kernel⟩
theorem kpX9_world : MFv mX9_world 0 := ⟨gT2 (List.mem_of_getElem? (i := 215) (by decide +kernel)) (by decide +kernel), gT2 (List.mem_of_getElem? (i := 216) (by decide +kernel)) (by decide +kernel), kcX9_world⟩
theorem kcX9_give : MFc mX9_give 3 := ⟨gT2 (List.mem_of_getElem? (i := 229) rfl) rfl, kiRX9, by decide +kernel, by decide +kernel, by decide, by decide +kernel⟩
theorem kpX9_give : MFv mX9_give 3 := ⟨gT2 (List.mem_of_getElem? (i := 227) (by decide +kernel)) (by decide +kernel), gT2 (List.mem_of_getElem? (i := 228) (by decide +kernel)) (by decide +kernel), kcX9_give⟩
theorem kcX9_value : MFc mX9_value 3 := ⟨gT3 (List.mem_of_getElem? (i := 2) rfl) rfl, kiRX9, by decide +kernel, by decide +kernel, by decide, by decide +kernel⟩
theorem kpX9_value : MFv mX9_value 3 := ⟨gT3 (List.mem_of_getElem? (i := 0) (by decide +kernel)) (by decide +kernel), gT3 (List.mem_of_getElem? (i := 1) (by decide +kernel)) (by decide +kernel), kcX9_value⟩
theorem kcX9_error : MFc mX9_error 3 := ⟨gT3 (List.mem_of_getElem? (i := 144) rfl) rfl, kiRX9, by decide +kernel, by decide +kernel, by decide, by decide +kernel⟩
theorem kpX9_error : MFv mX9_error 3 := ⟨gT3 (List.mem_of_getElem? (i := 142) (by decide +kernel)) (by decide +kernel), gT3 (List.mem_of_getElem? (i := 143) (by decide +kernel)) (by decide +kernel), kcX9_error⟩
theorem kcX9_right : MFc mX9_right 3 := ⟨gT3 (List.mem_of_getElem? (i := 149) rfl) rfl, kiRX9, by decide +kernel, by decide +kernel, by decide, by decide +kernel⟩
theorem kpX9_right : MFv mX9_right 3 := ⟨gT3 (List.mem_of_getElem? (i := 147) (by decide +kernel)) (by decide +kernel), gT3 (List.mem_of_getElem? (i := 148) (by decide +kernel)) (by decide +kernel), kcX9_right⟩
theorem kcX9_rightError : MFc mX9_rightError 3 := ⟨gT3 (List.mem_of_getElem? (i := 171) rfl) rfl, kiRX9, by decide +kernel, by decide +kernel, by decide, by decide +kernel⟩
theorem kpX9_rightError : MFv mX9_rightError 3 := ⟨gT3 (List.mem_of_getElem? (i := 169) (by decide +kernel)) (by decide +kernel), gT3 (List.mem_of_getElem? (i := 170) (by decide +kernel)) (by decide +kernel), kcX9_rightError⟩
theorem kcX9_kind : MFc mX9_kind 2 := ⟨gT3 (List.mem_of_getElem? (i := 175) rfl) rfl, kiRX9, by decide +kernel, by decide +kernel, by decide, by decide +kernel⟩
theorem kpX9_kind : MFv mX9_kind 2 := ⟨gT3 (List.mem_of_getElem? (i := 173) (by decide +kernel)) (by decide +kernel), gT3 (List.mem_of_getElem? (i := 174) (by decide +kernel)) (by decide +kernel), kcX9_kind⟩
theorem kcX9_points : MFc mX9_points 2 := ⟨gT3 (List.mem_of_getElem? (i := 239) rfl) rfl, kiRX9, by decide +kernel, by decide +kernel, by decide, by decide +kernel⟩
theorem kpX9_points : MFv mX9_points 2 := ⟨gT3 (List.mem_of_getElem? (i := 237) (by decide +kernel)) (by decide +kernel), gT3 (List.mem_of_getElem? (i := 238) (by decide +kernel)) (by decide +kernel), kcX9_points⟩
theorem kcX9_slip : MFc mX9_slip 3 := ⟨gT4 (List.mem_of_getElem? (i := 10) rfl) rfl, kiRX9, by decide +kernel, by decide +kernel, by decide, by decide +kernel⟩
theorem kpX9_slip : MFv mX9_slip 3 := ⟨gT4 (List.mem_of_getElem? (i := 8) (by decide +kernel)) (by decide +kernel), gT4 (List.mem_of_getElem? (i := 9) (by decide +kernel)) (by decide +kernel), kcX9_slip⟩
theorem kcX9_fault : MFc mX9_fault 2 := ⟨gT4 (List.mem_of_getElem? (i := 22) rfl) rfl, kiRX9, by decide +kernel, by decide +kernel, by decide, by decide +kernel⟩
theorem kpX9_fault : MFv mX9_fault 2 := ⟨gT4 (List.mem_of_getElem? (i := 20) (by decide +kernel)) (by decide +kernel), gT4 (List.mem_of_getElem? (i := 21) (by decide +kernel)) (by decide +kernel), kcX9_fault⟩
theorem kcX9_copied : MFc mX9_copied 3 := ⟨gT4 (List.mem_of_getElem? (i := 29) rfl) rfl, kiRX9, by decide +kernel, by decide +kernel, by decide, by decide +kernel⟩
theorem kpX9_copied : MFv mX9_copied 3 := ⟨gT4 (List.mem_of_getElem? (i := 27) (by decide +kernel)) (by decide +kernel), gT4 (List.mem_of_getElem? (i := 28) (by decide +kernel)) (by decide +kernel), kcX9_copied⟩
theorem kcX9_look : MFc mX9_look 3 := ⟨gT4 (List.mem_of_getElem? (i := 44) rfl) rfl, kiRX9, by decide +kernel, by decide +kernel, by decide, by decide +kernel⟩
theorem kpX9_look : MFv mX9_look 3 := ⟨gT4 (List.mem_of_getElem? (i := 42) (by decide +kernel)) (by decide +kernel), gT4 (List.mem_of_getElem? (i := 43) (by decide +kernel)) (by decide +kernel), kcX9_look⟩
theorem kcX9_count : MFc mX9_count 1 := ⟨gT4 (List.mem_of_getElem? (i := 58) rfl) rfl, kiRX9, by decide +kernel, by decide +kernel, by decide, by decide +kernel⟩
theorem kpX9_count : MFv mX9_count 1 := ⟨gT4 (List.mem_of_getElem? (i := 56) (by decide +kernel)) (by decide +kernel), gT4 (List.mem_of_getElem? (i := 57) (by decide +kernel)) (by decide +kernel), kcX9_count⟩
theorem kcX9_sheetAt : MFc mX9_sheetAt 1 := ⟨gT1 (List.mem_of_getElem? (i := 230) rfl) rfl, kiRX9, by decide +kernel, by decide +kernel, by decide, by decide +kernel⟩
theorem kpX9_sheetAt : MFv mX9_sheetAt 1 := ⟨gT1 (List.mem_of_getElem? (i := 229) (by decide +kernel)) (by decide +kernel), gSl (q := (yX9_sheetAt, 7)) (List.mem_append_left _ (List.mem_of_getElem? (i := 0) (by decide +kernel))), kcX9_sheetAt⟩
theorem kcX9_pupilAt : MFc mX9_pupilAt 1 := ⟨gT3 (List.mem_of_getElem? (i := 179) rfl) rfl, kiRX9, by decide +kernel, by decide +kernel, by decide, by decide +kernel⟩
theorem kpX9_pupilAt : MFv mX9_pupilAt 1 := ⟨gT3 (List.mem_of_getElem? (i := 178) (by decide +kernel)) (by decide +kernel), gSl (q := (yX9_pupilAt, 7)) (List.mem_append_right _ (List.mem_append_left _ (List.mem_of_getElem? (i := 13) (by decide +kernel)))), kcX9_pupilAt⟩
theorem kcX9_reckonsOwn : MFc mX9_reckonsOwn 3 := ⟨gT3 (List.mem_of_getElem? (i := 6) rfl) rfl, kiRX9, by decide +kernel, by decide +kernel, by decide, by decide +kernel⟩
theorem kpX9_reckonsOwn : MFv mX9_reckonsOwn 3 := ⟨gT3 (List.mem_of_getElem? (i := 5) (by decide +kernel)) (by decide +kernel), gSl (q := (yX9_reckonsOwn, 7)) (List.mem_append_left _ (List.mem_of_getElem? (i := 14) (by decide +kernel))), kcX9_reckonsOwn⟩
theorem kcX9_reckonsRight : MFc mX9_reckonsRight 3 := ⟨gT3 (List.mem_of_getElem? (i := 153) rfl) rfl, kiRX9, by decide +kernel, by decide +kernel, by decide, by decide +kernel⟩
theorem kpX9_reckonsRight : MFv mX9_reckonsRight 3 := ⟨gT3 (List.mem_of_getElem? (i := 152) (by decide +kernel)) (by decide +kernel), gSl (q := (yX9_reckonsRight, 7)) (List.mem_append_right _ (List.mem_append_left _ (List.mem_of_getElem? (i := 11) (by decide +kernel)))), kcX9_reckonsRight⟩
theorem kcX9_isShared : MFc mX9_isShared 3 := ⟨gT4 (List.mem_of_getElem? (i := 33) rfl) rfl, kiRX9, by decide +kernel, by decide +kernel, by decide, by decide +kernel⟩
theorem kpX9_isShared : MFv mX9_isShared 3 := ⟨gT4 (List.mem_of_getElem? (i := 32) (by decide +kernel)) (by decide +kernel), gSl (q := (yX9_isShared, 7)) (List.mem_append_right _ (List.mem_append_right _ (List.mem_append_left _ (List.mem_of_getElem? (i := 2) (by decide +kernel))))), kcX9_isShared⟩
theorem kcX9_countComing : MFc mX9_countComing 2 := ⟨gT4 (List.mem_of_getElem? (i := 48) rfl) rfl, kiRX9, by decide +kernel, by decide +kernel, by decide, by decide +kernel⟩
theorem kpX9_countComing : MFv mX9_countComing 2 := ⟨gT4 (List.mem_of_getElem? (i := 47) (by decide +kernel)) (by decide +kernel), gSl (q := (yX9_countComing, 7)) (List.mem_append_right _ (List.mem_append_right _ (List.mem_append_left _ (List.mem_of_getElem? (i := 3) (by decide +kernel))))), kcX9_countComing⟩
theorem kcX9_share : MFc mX9_share 2 := ⟨gT4 (List.mem_of_getElem? (i := 6) rfl) rfl, kiRX9, by decide +kernel, by decide +kernel, by decide, by decide +kernel⟩
theorem kpX9_share : MFs mX9_share 2 := ⟨gT4 (List.mem_of_getElem? (i := 5) (by decide +kernel)) (by decide +kernel), kcX9_share⟩
theorem kcX9_isFaulty : MFc mX9_isFaulty 1 := ⟨gT4 (List.mem_of_getElem? (i := 25) rfl) rfl, kiRX9, by decide +kernel, by decide +kernel, by decide, by decide +kernel⟩
theorem kpX9_isFaulty : MFs mX9_isFaulty 1 := ⟨gT4 (List.mem_of_getElem? (i := 24) (by decide +kernel)) (by decide +kernel), kcX9_isFaulty⟩
theorem kcX9_isCell : MFc mX9_isCell 1 := ⟨gT1 (List.mem_of_getElem? (i := 233) rfl) rfl, kiRX9, by decide +kernel, by decide +kernel, by decide, by decide +kernel⟩
theorem kpX9_isCell : MFs mX9_isCell 1 := ⟨gT1 (List.mem_of_getElem? (i := 232) (by decide +kernel)) (by decide +kernel), kcX9_isCell⟩
theorem kcX9_isNumber : MFc mX9_isNumber 1 := ⟨gT1 (List.mem_of_getElem? (i := 236) rfl) rfl, kiRX9, by decide +kernel, by decide +kernel, by decide, by decide +kernel⟩
theorem kpX9_isNumber : MFs mX9_isNumber 1 := ⟨gT1 (List.mem_of_getElem? (i := 235) (by decide +kernel)) (by decide +kernel), kcX9_isNumber⟩
theorem kcX9_isSign : MFc mX9_isSign 1 := ⟨gT3 (List.mem_of_getElem? (i := 81) rfl) rfl, kiRX9, by decide +kernel, by decide +kernel, by decide, by decide +kernel⟩
theorem kpX9_isSign : MFs mX9_isSign 1 := ⟨gT3 (List.mem_of_getElem? (i := 80) (by decide +kernel)) (by decide +kernel), kcX9_isSign⟩
theorem kcX9_bit : MFc mX9_bit 1 := ⟨gT2 (List.mem_of_getElem? (i := 8) rfl) rfl, kiRX9, by decide +kernel, by decide +kernel, by decide, by decide +kernel⟩
theorem kpX9_bit : MFs mX9_bit 1 := ⟨gT2 (List.mem_of_getElem? (i := 7) (by decide +kernel)) (by decide +kernel), kcX9_bit⟩
theorem kcX9_rectangle : MFc mX9_rectangle 2 := ⟨gT2 (List.mem_of_getElem? (i := 157) rfl) rfl, kiRX9, by decide +kernel, by decide +kernel, by decide, by decide +kernel⟩
theorem kpX9_rectangle : MFs mX9_rectangle 2 := ⟨gT2 (List.mem_of_getElem? (i := 156) (by decide +kernel)) (by decide +kernel), kcX9_rectangle⟩
theorem kcX10_init : MFc mX10_init 0 := ⟨gT4 (List.mem_of_getElem? (i := 68) rfl) rfl, kiRX10, by decide +kernel, by decide +kernel, by decide, by decide +kernel⟩
theorem kpX10_init : MFi mX10_init 0 := ⟨gT4 (List.mem_of_getElem? (i := 67) (by decide +kernel)) (by decide +kernel), rfl, rfl, kcX10_init⟩
theorem kcX10_lies : MFc mX10_lies 3 := ⟨gT5 (List.mem_of_getElem? (i := 6) rfl) rfl, kiRX10, by decide +kernel, by decide +kernel, by decide, by decide +kernel⟩
theorem kpX10_lies : MFs mX10_lies 3 := ⟨gT5 (List.mem_of_getElem? (i := 5) (by decide +kernel)) (by decide +kernel), kcX10_lies⟩
theorem kcX10_isCell : MFc mX10_isCell 1 := ⟨gT5 (List.mem_of_getElem? (i := 9) rfl) rfl, kiRX10, by decide +kernel, by decide +kernel, by decide, by decide +kernel⟩
theorem kpX10_isCell : MFs mX10_isCell 1 := ⟨gT5 (List.mem_of_getElem? (i := 8) (by decide +kernel)) (by decide +kernel), kcX10_isCell⟩
theorem kcX10_isSheet : MFc mX10_isSheet 1 := ⟨gT5 (List.mem_of_getElem? (i := 3) rfl) rfl, kiRX10, by decide +kernel, by decide +kernel, by decide, by decide +kernel⟩
theorem kpX10_isSheet : MFs mX10_isSheet 1 := ⟨gT5 (List.mem_of_getElem? (i := 2) (by decide +kernel)) (by decide +kernel), kcX10_isSheet⟩
theorem kcX10_isWanted : MFc mX10_isWanted 1 := ⟨gT5 (List.mem_of_getElem? (i := 110) rfl) rfl, kiRX10, by decide +kernel, by decide +kernel, by decide, by decide +kernel⟩
theorem kpX10_isWanted : MFv mX10_isWanted 1 := ⟨gT5 (List.mem_of_getElem? (i := 109) (by decide +kernel)) (by decide +kernel), gSl (q := (yX10_isWanted, 52)) (List.mem_append_right _ (List.mem_append_right _ (List.mem_append_right _ (List.mem_append_left _ (List.mem_of_getElem? (i := 8) (by decide +kernel)))))), kcX10_isWanted⟩
theorem kcX10_push : MFc mX10_push 1 := ⟨gT4 (List.mem_of_getElem? (i := 236) rfl) rfl, kiRX10, by decide +kernel, by decide +kernel, by decide, by decide +kernel⟩
theorem kpX10_push : MFv mX10_push 1 := ⟨gT4 (List.mem_of_getElem? (i := 235) (by decide +kernel)) (by decide +kernel), gSl (q := (yX10_push, 52)) (List.mem_append_right _ (List.mem_append_right _ (List.mem_append_left _ (List.mem_of_getElem? (i := 4) (by decide +kernel))))), kcX10_push⟩
theorem kcX10_feed : MFc mX10_feed 5 := ⟨gT4 (List.mem_of_getElem? (i := 232) rfl) rfl, kiRX10, by decide +kernel, by decide +kernel, by decide, by decide +kernel⟩
theorem kpX10_feed : MFv mX10_feed 5 := ⟨gT4 (List.mem_of_getElem? (i := 230) (by decide +kernel)) (by decide +kernel), gT4 (List.mem_of_getElem? (i := 231) (by decide +kernel)) (by decide +kernel), kcX10_feed⟩
theorem kcX10_number : MFc mX10_number 3 := ⟨gT5 (List.mem_of_getElem? (i := 0) rfl) rfl, kiRX10, by decide +kernel, by decide +kernel, by decide, by decide +kernel⟩
theorem kpX10_number : MFv mX10_number 3 := ⟨gT4 (List.mem_of_getElem? (i := 238) (by decide +kernel)) (by decide +kernel), gT4 (List.mem_of_getElem? (i := 239) (by decide +kernel)) (by decide +kernel), kcX10_number⟩
theorem kcX10_clear : MFc mX10_clear 2 := ⟨gT5 (List.mem_of_getElem? (i := 13) rfl) rfl, kiRX10, by decide +kernel, by decide +kernel, by decide, by decide +kernel⟩
theorem kpX10_clear : MFv mX10_clear 2 := ⟨gT5 (List.mem_of_getElem? (i := 11) (by decide +kernel)) (by decide +kernel), gT5 (List.mem_of_getElem? (i := 12) (by decide +kernel)) (by decide +kernel), kcX10_clear⟩
theorem kcX10_here : MFc mX10_here 0 := ⟨gT5 (List.mem_of_getElem? (i := 29) rfl) rfl, kiRX10, by decide +kernel, by decide +kernel, by decide, by decide +kernel⟩
theorem kpX10_here : MFv mX10_here 0 := ⟨gT5 (List.mem_of_getElem? (i := 28) (by decide +kernel)) (by decide +kernel), gSl (q := (yX10_here, 52)) (List.mem_append_right _ (List.mem_append_right _ (List.mem_append_left _ (List.mem_of_getElem? (i := 7) (by decide +kernel))))), kcX10_here⟩
theorem kcX10_fails : MFc mX10_fails 2 := ⟨gT5 (List.mem_of_getElem? (i := 33) rfl) rfl, kiRX10, by decide +kernel, by decide +kernel, by decide, by decide +kernel⟩
theorem kpX10_fails : MFv mX10_fails 2 := ⟨gT5 (List.mem_of_getElem? (i := 32) (by decide +kernel)) (by decide +kernel), gSl (q := (yX10_fails, 52)) (List.mem_append_right _ (List.mem_append_right _ (List.mem_append_left _ (List.mem_of_getElem? (i := 8) (by decide +kernel))))), kcX10_fails⟩
theorem kcX10_puts : MFc mX10_puts 5 := ⟨gT5 (List.mem_of_getElem? (i := 53) rfl) rfl, kiRX10, by decide +kernel, by decide +kernel, by decide, by decide +kernel⟩
theorem kpX10_puts : MFv mX10_puts 5 := ⟨gT5 (List.mem_of_getElem? (i := 52) (by decide +kernel)) (by decide +kernel), gSl (q := (yX10_puts, 52)) (List.mem_append_right _ (List.mem_append_right _ (List.mem_append_left _ (List.mem_of_getElem? (i := 13) (by decide +kernel))))), kcX10_puts⟩
theorem kcX10_waits : MFc mX10_waits 2 := ⟨gT5 (List.mem_of_getElem? (i := 45) rfl) rfl, kiRX10, by decide +kernel, by decide +kernel, by decide, by decide +kernel⟩
theorem kpX10_waits : MFv mX10_waits 2 := ⟨gT5 (List.mem_of_getElem? (i := 44) (by decide +kernel)) (by decide +kernel), gSl (q := (yX10_waits, 52)) (List.mem_append_right _ (List.mem_append_right _ (List.mem_append_left _ (List.mem_of_getElem? (i := 11) (by decide +kernel))))), kcX10_waits⟩
theorem kcX10_joins : MFc mX10_joins 0 := ⟨gT5 (List.mem_of_getElem? (i := 69) rfl) rfl, kiRX10, by decide +kernel, by decide +kernel, by decide, by decide +kernel⟩
theorem kpX10_joins : MFv mX10_joins 0 := ⟨gT5 (List.mem_of_getElem? (i := 68) (by decide +kernel)) (by decide +kernel), gSl (q := (yX10_joins, 52)) (List.mem_append_right _ (List.mem_append_right _ (List.mem_append_right _ (List.mem_append_left _ (List.mem_of_getElem? (i := 1) (by decide +kernel)))))), kcX10_joins⟩
theorem kcX10_opens : MFc mX10_opens 1 := ⟨gT5 (List.mem_of_getElem? (i := 41) rfl) rfl, kiRX10, by decide +kernel, by decide +kernel, by decide, by decide +kernel⟩
theorem kpX10_opens : MFv mX10_opens 1 := ⟨gT5 (List.mem_of_getElem? (i := 40) (by decide +kernel)) (by decide +kernel), gSl (q := (yX10_opens, 52)) (List.mem_append_right _ (List.mem_append_right _ (List.mem_append_left _ (List.mem_of_getElem? (i := 10) (by decide +kernel))))), kcX10_opens⟩
theorem kcX10_must : MFc mX10_must 1 := ⟨gT5 (List.mem_of_getElem? (i := 25) rfl) rfl, kiRX10, by decide +kernel, by decide +kernel, by decide, by decide +kernel⟩
theorem kpX10_must : MFv mX10_must 1 := ⟨gT5 (List.mem_of_getElem? (i := 24) (by decide +kernel)) (by decide +kernel), gSl (q := (yX10_must, 52)) (List.mem_append_right _ (List.mem_append_right _ (List.mem_append_left _ (List.mem_of_getElem? (i := 6) (by decide +kernel))))), kcX10_must⟩
theorem kcX10_seesDigit : MFc mX10_seesDigit 0 := ⟨gT5 (List.mem_of_getElem? (i := 57) rfl) rfl, kiRX10, by decide +kernel, by decide +kernel, by decide, by decide +kernel⟩
theorem kpX10_seesDigit : MFv mX10_seesDigit 0 := ⟨gT5 (List.mem_of_getElem? (i := 56) (by decide +kernel)) (by decide +kernel), gSl (q := (yX10_seesDigit, 52)) (List.mem_append_right _ (List.mem_append_right _ (List.mem_append_left _ (List.mem_of_getElem? (i := 14) (by decide +kernel))))), kcX10_seesDigit⟩
theorem kcX10_readNumber : MFc mX10_readNumber 0 := ⟨gT5 (List.mem_of_getElem? (i := 61) rfl) rfl, kiRX10, by decide +kernel, by decide +kernel, by decide, by decide +kernel⟩
theorem kpX10_readNumber : MFv mX10_readNumber 0 := ⟨gT5 (List.mem_of_getElem? (i := 60) (by decide +kernel)) (by decide +kernel), gSl (q := (yX10_readNumber, 52)) (List.mem_append_right _ (List.mem_append_right _ (List.mem_append_left _ (List.mem_of_getElem? (i := 15) (by decide +kernel))))), kcX10_readNumber⟩
theorem kcX10_readCell : MFc mX10_readCell 0 := ⟨gT5 (List.mem_of_getElem? (i := 49) rfl) rfl, kiRX10, by decide +kernel, by decide +kernel, by decide, by decide +kernel⟩
theorem kpX10_readCell : MFv mX10_readCell 0 := ⟨gT5 (List.mem_of_getElem? (i := 48) (by decide +kernel)) (by decide +kernel), gSl (q := (yX10_readCell, 52)) (List.mem_append_right _ (List.mem_append_right _ (List.mem_append_left _ (List.mem_of_getElem? (i := 12) (by decide +kernel))))), kcX10_readCell⟩
theorem kcX10_factorEnds : MFc mX10_factorEnds 0 := ⟨gT5 (List.mem_of_getElem? (i := 65) rfl) rfl, kiRX10, by decide +kernel, by decide +kernel, by decide, by decide +kernel⟩
theorem kpX10_factorEnds : MFv mX10_factorEnds 0 := ⟨gT5 (List.mem_of_getElem? (i := 64) (by decide +kernel)) (by decide +kernel), gSl (q := (yX10_factorEnds, 52)) (List.mem_append_right _ (List.mem_append_right _ (List.mem_append_right _ (List.mem_append_left _ (List.mem_of_getElem? (i := 0) (by decide +kernel)))))), kcX10_factorEnds⟩
theorem kcX10_sumEnds : MFc mX10_sumEnds 0 := ⟨gT5 (List.mem_of_getElem? (i := 76) rfl) rfl, kiRX10, by decide +kernel, by decide +kernel, by decide, by decide +kernel⟩
theorem kpX10_sumEnds : MFv mX10_sumEnds 0 := ⟨gT5 (List.mem_of_getElem? (i := 75) (by decide +kernel)) (by decide +kernel), gSl (q := (yX10_sumEnds, 52)) (List.mem_append_right _ (List.mem_append_right _ (List.mem_append_right _ (List.mem_append_left _ (List.mem_of_getElem? (i := 2) (by decide +kernel)))))), kcX10_sumEnds⟩
theorem kcX10_factor : MFc mX10_factor 0 := ⟨gT5 (List.mem_of_getElem? (i := 37) rfl) rfl, kiRX10, by decide +kernel, by decide +kernel, by decide, by decide +kernel⟩
theorem kpX10_factor : MFv mX10_factor 0 := ⟨gT5 (List.mem_of_getElem? (i := 36) (by decide +kernel)) (by decide +kernel), gSl (q := (yX10_factor, 52)) (List.mem_append_right _ (List.mem_append_right _ (List.mem_append_left _ (List.mem_of_getElem? (i := 9) (by decide +kernel))))), kcX10_factor⟩
theorem kcX10_joinOf : MFc mX10_joinOf 1 := ⟨gT5 (List.mem_of_getElem? (i := 72) rfl) rfl, kiRX10, by decide +kernel, by decide +kernel, by decide, by decide +kernel⟩
theorem kpX10_joinOf : MFs mX10_joinOf 1 := ⟨gT5 (List.mem_of_getElem? (i := 71) (by decide +kernel)) (by decide +kernel), kcX10_joinOf⟩
theorem kcX10_reads : MFc mX10_reads 1 := ⟨gT5 (List.mem_of_getElem? (i := 21) rfl) rfl, kiRX10, by decide +kernel, by decide +kernel, by decide, by decide +kernel⟩
theorem kpX10_reads : MFv mX10_reads 1 := ⟨gT5 (List.mem_of_getElem? (i := 20) (by decide +kernel)) (by decide +kernel), gSl (q := (yX10_reads, 52)) (List.mem_append_right _ (List.mem_append_right _ (List.mem_append_left _ (List.mem_of_getElem? (i := 5) (by decide +kernel))))), kcX10_reads⟩
theorem kcX10_formula : MFc mX10_formula 3 := ⟨gT5 (List.mem_of_getElem? (i := 17) rfl) rfl, kiRX10, by decide +kernel, by decide +kernel, by decide, by decide +kernel⟩
theorem kpX10_formula : MFv mX10_formula 3 := ⟨gT5 (List.mem_of_getElem? (i := 15) (by decide +kernel)) (by decide +kernel), gT5 (List.mem_of_getElem? (i := 16) (by decide +kernel)) (by decide +kernel), kcX10_formula⟩
theorem kcX10_input : MFc mX10_input 1 := ⟨gT5 (List.mem_of_getElem? (i := 106) rfl) rfl, kiRX10, by decide +kernel, by decide +kernel, by decide, by decide +kernel⟩
theorem kpX10_input : MFv mX10_input 1 := ⟨gT5 (List.mem_of_getElem? (i := 104) (by decide +kernel)) (by decide +kernel), gT5 (List.mem_of_getElem? (i := 105) (by decide +kernel)) (by decide +kernel), kcX10_input⟩
theorem kcX10_wants : MFc mX10_wants 2 := ⟨gT5 (List.mem_of_getElem? (i := 114) rfl) rfl, kiRX10, by decide +kernel, by decide +kernel, by decide, by decide +kernel⟩
theorem kpX10_wants : MFv mX10_wants 2 := ⟨gT5 (List.mem_of_getElem? (i := 112) (by decide +kernel)) (by decide +kernel), gT5 (List.mem_of_getElem? (i := 113) (by decide +kernel)) (by decide +kernel), kcX10_wants⟩
theorem kcX10_world : MFc mX10_world 0 := ⟨gT5 (List.mem_of_getElem? (i := 118) rfl) rfl, kiRX10, by decide +kernel, by decide +kernel, by decide, by decide +kernel⟩
theorem kpX10_world : MFv mX10_world 0 := ⟨gT5 (List.mem_of_getElem? (i := 116) (by decide +kernel)) (by decide +kernel), gT5 (List.mem_of_getElem? (i := 117) (by decide +kernel)) (by decide +kernel), kcX10_world⟩
theorem kcX10_give : MFc mX10_give 3 := ⟨gT5 (List.mem_of_getElem? (i := 122) rfl) rfl, kiRX10, by decide +kernel, by decide +kernel, by decide, by decide +kernel⟩
theorem kpX10_give : MFv mX10_give 3 := ⟨gT5 (List.mem_of_getElem? (i := 120) (by decide +kernel)) (by decide +kernel), gT5 (List.mem_of_getElem? (i := 121) (by decide +kernel)) (by decide +kernel), kcX10_give⟩
theorem kcX10_isChanged : MFc mX10_isChanged 2 := ⟨gT5 (List.mem_of_getElem? (i := 88) rfl) rfl, kiRX10, by decide +kernel, by decide +kernel, by decide, by decide +kernel⟩
theorem kpX10_isChanged : MFv mX10_isChanged 2 := ⟨gT5 (List.mem_of_getElem? (i := 87) (by decide +kernel)) (by decide +kernel), gSl (q := (yX10_isChanged, 52)) (List.mem_append_right _ (List.mem_append_right _ (List.mem_append_right _ (List.mem_append_left _ (List.mem_of_getElem? (i := 5) (by decide +kernel)))))), kcX10_isChanged⟩
theorem kcX10_opOf : MFc mX10_opOf 2 := ⟨gT5 (List.mem_of_getElem? (i := 84) rfl) rfl, kiRX10, by decide +kernel, by decide +kernel, by decide, by decide +kernel⟩
theorem kpX10_opOf : MFv mX10_opOf 2 := ⟨gT5 (List.mem_of_getElem? (i := 83) (by decide +kernel)) (by decide +kernel), gSl (q := (yX10_opOf, 52)) (List.mem_append_right _ (List.mem_append_right _ (List.mem_append_right _ (List.mem_append_left _ (List.mem_of_getElem? (i := 4) (by decide +kernel)))))), kcX10_opOf⟩
theorem kcX10_argOf : MFc mX10_argOf 2 := ⟨gT5 (List.mem_of_getElem? (i := 92) rfl) rfl, kiRX10, by decide +kernel, by decide +kernel, by decide, by decide +kernel⟩
theorem kpX10_argOf : MFv mX10_argOf 2 := ⟨gT5 (List.mem_of_getElem? (i := 91) (by decide +kernel)) (by decide +kernel), gSl (q := (yX10_argOf, 52)) (List.mem_append_right _ (List.mem_append_right _ (List.mem_append_right _ (List.mem_append_left _ (List.mem_of_getElem? (i := 6) (by decide +kernel)))))), kcX10_argOf⟩
theorem kcX10_arg2Of : MFc mX10_arg2Of 2 := ⟨gT5 (List.mem_of_getElem? (i := 96) rfl) rfl, kiRX10, by decide +kernel, by decide +kernel, by decide, by decide +kernel⟩
theorem kpX10_arg2Of : MFv mX10_arg2Of 2 := ⟨gT5 (List.mem_of_getElem? (i := 95) (by decide +kernel)) (by decide +kernel), gSl (q := (yX10_arg2Of, 52)) (List.mem_append_right _ (List.mem_append_right _ (List.mem_append_right _ (List.mem_append_left _ (List.mem_of_getElem? (i := 7) (by decide +kernel)))))), kcX10_arg2Of⟩
theorem kcX10_isBetween : MFc mX10_isBetween 3 := ⟨gT5 (List.mem_of_getElem? (i := 102) rfl) rfl, kiRX10, by decide +kernel, by decide +kernel, by decide, by decide +kernel⟩
theorem kpX10_isBetween : MFs mX10_isBetween 3 := ⟨gT5 (List.mem_of_getElem? (i := 101) (by decide +kernel)) (by decide +kernel), kcX10_isBetween⟩
theorem kcX10_isWithin : MFc mX10_isWithin 3 := ⟨gT5 (List.mem_of_getElem? (i := 99) rfl) rfl, kiRX10, by decide +kernel, by decide +kernel, by decide, by decide +kernel⟩
theorem kpX10_isWithin : MFs mX10_isWithin 3 := ⟨gT5 (List.mem_of_getElem? (i := 98) (by decide +kernel)) (by decide +kernel), kcX10_isWithin⟩
theorem kcX10_needs : MFc mX10_needs 2 := ⟨gT5 (List.mem_of_getElem? (i := 154) rfl) rfl, kiRX10, by decide +kernel, by decide +kernel, by decide, by decide +kernel⟩
theorem kpX10_needs : MFv mX10_needs 2 := ⟨gT5 (List.mem_of_getElem? (i := 153) (by decide +kernel)) (by decide +kernel), gSl (q := (yX10_needs, 52)) (List.mem_append_right _ (List.mem_append_right _ (List.mem_append_right _ (List.mem_append_left _ (List.mem_of_getElem? (i := 14) (by decide +kernel)))))), kcX10_needs⟩
theorem kcX10_names0 : MFc mX10_names0 1 := ⟨gT5 (List.mem_of_getElem? (i := 80) rfl) rfl, kiRX10, by decide +kernel, by decide +kernel, by decide, by decide +kernel⟩
theorem kpX10_names0 : MFv mX10_names0 1 := ⟨gT5 (List.mem_of_getElem? (i := 79) (by decide +kernel)) (by decide +kernel), gSl (q := (yX10_names0, 52)) (List.mem_append_right _ (List.mem_append_right _ (List.mem_append_right _ (List.mem_append_left _ (List.mem_of_getElem? (i := 3) (by decide +kernel)))))), kcX10_names0⟩
theorem kcX10_has : MFc mX10_has 2 := ⟨gT5 (List.mem_of_getElem? (i := 146) rfl) rfl, kiRX10, by decide +kernel, by decide +kernel, by decide, by decide +kernel⟩
theorem kpX10_has : MFs mX10_has 2 := ⟨gT5 (List.mem_of_getElem? (i := 145) (by decide +kernel)) (by decide +kernel), kcX10_has⟩
theorem kcX10_isTold : MFc mX10_isTold 3 := ⟨gT5 (List.mem_of_getElem? (i := 150) rfl) rfl, kiRX10, by decide +kernel, by decide +kernel, by decide, by decide +kernel⟩
theorem kpX10_isTold : MFv mX10_isTold 3 := ⟨gT5 (List.mem_of_getElem? (i := 149) (by decide +kernel)) (by decide +kernel), gSl (q := (yX10_isTold, 52)) (List.mem_append_right _ (List.mem_append_right _ (List.mem_append_right _ (List.mem_append_left _ (List.mem_of_getElem? (i := 13) (by decide +kernel)))))), kcX10_isTold⟩
theorem kcX10_orders : MFc mX10_orders 3 := ⟨gT5 (List.mem_of_getElem? (i := 143) rfl) rfl, kiRX10, by decide +kernel, by decide +kernel, by decide, by decide +kernel⟩
theorem kpX10_orders : MFv mX10_orders 3 := ⟨gT5 (List.mem_of_getElem? (i := 142) (by decide +kernel)) (by decide +kernel), gSl (q := (yX10_orders, 52)) (List.mem_append_right _ (List.mem_append_right _ (List.mem_append_right _ (List.mem_append_left _ (List.mem_of_getElem? (i := 12) (by decide +kernel)))))), kcX10_orders⟩
theorem kcX10_comes : MFc mX10_comes 1 := ⟨gT5 (List.mem_of_getElem? (i := 166) rfl) rfl, kiRX10, by decide +kernel, by decide +kernel, by decide, by decide +kernel⟩
theorem kpX10_comes : MFv mX10_comes 1 := ⟨gT5 (List.mem_of_getElem? (i := 165) (by decide +kernel)) (by decide +kernel), gSl (q := (yX10_comes, 52)) (List.mem_append_right _ (List.mem_append_right _ (List.mem_append_right _ (List.mem_append_right _ (List.mem_of_getElem? (i := 1) (by decide +kernel)))))), kcX10_comes⟩
theorem kcX10_times : MFc mX10_times 2 := ⟨gT5 (List.mem_of_getElem? (i := 184) rfl) rfl, kiRX10, by decide +kernel, by decide +kernel, by decide, by decide +kernel⟩
theorem kpX10_times : MFv mX10_times 2 := ⟨gT5 (List.mem_of_getElem? (i := 183) (by decide +kernel)) (by decide +kernel), gSl (q := (yX10_times, 52)) (List.mem_append_right _ (List.mem_append_right _ (List.mem_append_right _ (List.mem_append_right _ (List.mem_of_getElem? (i := 5) (by decide +kernel)))))), kcX10_times⟩
theorem kcX10_parts : MFc mX10_parts 2 := ⟨gT5 (List.mem_of_getElem? (i := 188) rfl) rfl, kiRX10, by decide +kernel, by decide +kernel, by decide, by decide +kernel⟩
theorem kpX10_parts : MFv mX10_parts 2 := ⟨gT5 (List.mem_of_getElem? (i := 187) (by decide +kernel)) (by decide +kernel), gSl (q := (yX10_parts, 52)) (List.mem_append_right _ (List.mem_append_right _ (List.mem_append_right _ (List.mem_append_right _ (List.mem_of_getElem? (i := 6) (by decide +kernel)))))), kcX10_parts⟩
theorem kcX10_two : MFc mX10_two 1 := ⟨gT5 (List.mem_of_getElem? (i := 180) rfl) rfl, kiRX10, by decide +kernel, by decide +kernel, by decide, by decide +kernel⟩
theorem kpX10_two : MFv mX10_two 1 := ⟨gT5 (List.mem_of_getElem? (i := 179) (by decide +kernel)) (by decide +kernel), gSl (q := (yX10_two, 52)) (List.mem_append_right _ (List.mem_append_right _ (List.mem_append_right _ (List.mem_append_right _ (List.mem_of_getElem? (i := 4) (by decide +kernel)))))), kcX10_two⟩
theorem kcX10_names : MFc mX10_names 1 := ⟨gT5 (List.mem_of_getElem? (i := 172) rfl) rfl, kiRX10, by decide +kernel, by decide +kernel, by decide, by decide +kernel⟩
theorem kpX10_names : MFv mX10_names 1 := ⟨gT5 (List.mem_of_getElem? (i := 171) (by decide +kernel)) (by decide +kernel), gSl (q := (yX10_names, 52)) (List.mem_append_right _ (List.mem_append_right _ (List.mem_append_right _ (List.mem_append_right _ (List.mem_of_getElem? (i := 2) (by decide +kernel)))))), kcX10_names⟩
theorem kcX10_range : MFc mX10_range 2 := ⟨gT5 (List.mem_of_getElem? (i := 176) rfl) rfl, kiRX10, by decide +kernel, by decide +kernel, by decide, by decide +kernel⟩
theorem kpX10_range : MFv mX10_range 2 := ⟨gT5 (List.mem_of_getElem? (i := 175) (by decide +kernel)) (by decide +kernel), gSl (q := (yX10_range, 52)) (List.mem_append_right _ (List.mem_append_right _ (List.mem_append_right _ (List.mem_append_right _ (List.mem_of_getElem? (i := 3) (by decide +kernel)))))), kcX10_range⟩
theorem kcX10_reckons : MFc mX10_reckons 1 := ⟨gT5 (List.mem_of_getElem? (i := 162) rfl) rfl, kiRX10, by decide +kernel, by decide +kernel, by decide, by decide +kernel⟩
theorem kpX10_reckons : MFv mX10_reckons 1 := ⟨gT5 (List.mem_of_getElem? (i := 161) (by decide +kernel)) (by decide +kernel), gSl (q := (yX10_reckons, 52)) (List.mem_append_right _ (List.mem_append_right _ (List.mem_append_right _ (List.mem_append_right _ (List.mem_of_getElem? (i := 0) (by decide +kernel)))))), kcX10_reckons⟩
theorem kcX10_works : MFc mX10_works 4 := ⟨gT5 (List.mem_of_getElem? (i := 158) rfl) rfl, kiRX10, by decide +kernel, by decide +kernel, by decide, by decide +kernel⟩
theorem kpX10_works : MFv mX10_works 4 := ⟨gT5 (List.mem_of_getElem? (i := 157) (by decide +kernel)) (by decide +kernel), gSl (q := (yX10_works, 52)) (List.mem_append_right _ (List.mem_append_right _ (List.mem_append_right _ (List.mem_append_left _ (List.mem_of_getElem? (i := 15) (by decide +kernel)))))), kcX10_works⟩
theorem kcX10_tells : MFc mX10_tells 4 := ⟨gT5 (List.mem_of_getElem? (i := 135) rfl) rfl, kiRX10, by decide +kernel, by decide +kernel, by decide, by decide +kernel⟩
theorem kpX10_tells : MFv mX10_tells 4 := ⟨gT5 (List.mem_of_getElem? (i := 134) (by decide +kernel)) (by decide +kernel), gSl (q := (yX10_tells, 52)) (List.mem_append_right _ (List.mem_append_right _ (List.mem_append_right _ (List.mem_append_left _ (List.mem_of_getElem? (i := 10) (by decide +kernel)))))), kcX10_tells⟩
theorem kcX10_tasks : MFc mX10_tasks 0 := ⟨gT5 (List.mem_of_getElem? (i := 139) rfl) rfl, kiRX10, by decide +kernel, by decide +kernel, by decide, by decide +kernel⟩
theorem kpX10_tasks : MFv mX10_tasks 0 := ⟨gT5 (List.mem_of_getElem? (i := 138) (by decide +kernel)) (by decide +kernel), gSl (q := (yX10_tasks, 52)) (List.mem_append_right _ (List.mem_append_right _ (List.mem_append_right _ (List.mem_append_left _ (List.mem_of_getElem? (i := 11) (by decide +kernel)))))), kcX10_tasks⟩
theorem kcX10_is : MFc mX10_is 3 := ⟨gT5 (List.mem_of_getElem? (i := 130) rfl) rfl, kiRX10, by decide +kernel, by decide +kernel, by decide, by decide +kernel⟩
theorem kpX10_is : MFv mX10_is 3 := ⟨gT5 (List.mem_of_getElem? (i := 129) (by decide +kernel)) (by decide +kernel), gSl (q := (yX10_is, 52)) (List.mem_append_right _ (List.mem_append_right _ (List.mem_append_right _ (List.mem_append_left _ (List.mem_of_getElem? (i := 9) (by decide +kernel)))))), kcX10_is⟩
theorem kcX10_value : MFc mX10_value 3 := ⟨gT5 (List.mem_of_getElem? (i := 126) rfl) rfl, kiRX10, by decide +kernel, by decide +kernel, by decide, by decide +kernel⟩
theorem kpX10_value : MFv mX10_value 3 := ⟨gT5 (List.mem_of_getElem? (i := 124) (by decide +kernel)) (by decide +kernel), gT5 (List.mem_of_getElem? (i := 125) (by decide +kernel)) (by decide +kernel), kcX10_value⟩
theorem kcX10_error : MFc mX10_error 3 := ⟨gT5 (List.mem_of_getElem? (i := 192) rfl) rfl, kiRX10, by decide +kernel, by decide +kernel, by decide, by decide +kernel⟩
theorem kpX10_error : MFv mX10_error 3 := ⟨gT5 (List.mem_of_getElem? (i := 190) (by decide +kernel)) (by decide +kernel), gT5 (List.mem_of_getElem? (i := 191) (by decide +kernel)) (by decide +kernel), kcX10_error⟩
theorem kcX10_right : MFc mX10_right 3 := ⟨gT5 (List.mem_of_getElem? (i := 196) rfl) rfl, kiRX10, by decide +kernel, by decide +kernel, by decide, by decide +kernel⟩
theorem kpX10_right : MFv mX10_right 3 := ⟨gT5 (List.mem_of_getElem? (i := 194) (by decide +kernel)) (by decide +kernel), gT5 (List.mem_of_getElem? (i := 195) (by decide +kernel)) (by decide +kernel), kcX10_right⟩
theorem kcX10_rightError : MFc mX10_rightError 3 := ⟨gT5 (List.mem_of_getElem? (i := 200) rfl) rfl, kiRX10, by decide +kernel, by decide +kernel, by decide, by decide +kernel⟩
theorem kpX10_rightError : MFv mX10_rightError 3 := ⟨gT5 (List.mem_of_getElem? (i := 198) (by decide +kernel)) (by decide +kernel), gT5 (List.mem_of_getElem? (i := 199) (by decide +kernel)) (by decide +kernel), kcX10_rightError⟩
theorem kcX10_isAlike : MFc mX10_isAlike 3 := ⟨gT5 (List.mem_of_getElem? (i := 215) rfl) rfl, kiRX10, by decide +kernel, by decide +kernel, by decide, by decide +kernel⟩
theorem kpX10_isAlike : MFv mX10_isAlike 3 := ⟨gT5 (List.mem_of_getElem? (i := 214) (by decide +kernel)) (by decide +kernel), gSl (q := (yX10_isAlike, 52)) (List.mem_append_right _ (List.mem_append_right _ (List.mem_append_right _ (List.mem_append_right _ (List.mem_of_getElem? (i := 8) (by decide +kernel)))))), kcX10_isAlike⟩
theorem kcX10_tries : MFc mX10_tries 6 := ⟨gT5 (List.mem_of_getElem? (i := 230) rfl) rfl, kiRX10, by decide +kernel, by decide +kernel, by decide, by decide +kernel⟩
theorem kpX10_tries : MFv mX10_tries 6 := ⟨gT5 (List.mem_of_getElem? (i := 229) (by decide +kernel)) (by decide +kernel), gSl (q := (yX10_tries, 52)) (List.mem_append_right _ (List.mem_append_right _ (List.mem_append_right _ (List.mem_append_right _ (List.mem_of_getElem? (i := 11) (by decide +kernel)))))), kcX10_tries⟩
theorem kcX10_signOf : MFc mX10_signOf 1 := ⟨gT5 (List.mem_of_getElem? (i := 226) rfl) rfl, kiRX10, by decide +kernel, by decide +kernel, by decide, by decide +kernel⟩
theorem kpX10_signOf : MFs mX10_signOf 1 := ⟨gT5 (List.mem_of_getElem? (i := 225) (by decide +kernel)) (by decide +kernel), kcX10_signOf⟩
theorem kcX10_beside : MFc mX10_beside 2 := ⟨gT5 (List.mem_of_getElem? (i := 233) rfl) rfl, kiRX10, by decide +kernel, by decide +kernel, by decide, by decide +kernel⟩
theorem kpX10_beside : MFs mX10_beside 2 := ⟨gT5 (List.mem_of_getElem? (i := 232) (by decide +kernel)) (by decide +kernel), kcX10_beside⟩
theorem kcX10_slips : MFc mX10_slips 5 := ⟨gT5 (List.mem_of_getElem? (i := 223) rfl) rfl, kiRX10, by decide +kernel, by decide +kernel, by decide, by decide +kernel⟩
theorem kpX10_slips : MFv mX10_slips 5 := ⟨gT5 (List.mem_of_getElem? (i := 222) (by decide +kernel)) (by decide +kernel), gSl (q := (yX10_slips, 52)) (List.mem_append_right _ (List.mem_append_right _ (List.mem_append_right _ (List.mem_append_right _ (List.mem_of_getElem? (i := 10) (by decide +kernel)))))), kcX10_slips⟩
theorem kcX10_isSlip : MFc mX10_isSlip 2 := ⟨gT5 (List.mem_of_getElem? (i := 219) rfl) rfl, kiRX10, by decide +kernel, by decide +kernel, by decide, by decide +kernel⟩
theorem kpX10_isSlip : MFv mX10_isSlip 2 := ⟨gT5 (List.mem_of_getElem? (i := 218) (by decide +kernel)) (by decide +kernel), gSl (q := (yX10_isSlip, 52)) (List.mem_append_right _ (List.mem_append_right _ (List.mem_append_right _ (List.mem_append_right _ (List.mem_of_getElem? (i := 9) (by decide +kernel)))))), kcX10_isSlip⟩
theorem kcX10_kindOf : MFc mX10_kindOf 2 := ⟨gT5 (List.mem_of_getElem? (i := 211) rfl) rfl, kiRX10, by decide +kernel, by decide +kernel, by decide, by decide +kernel⟩
theorem kpX10_kindOf : MFv mX10_kindOf 2 := ⟨gT5 (List.mem_of_getElem? (i := 210) (by decide +kernel)) (by decide +kernel), gSl (q := (yX10_kindOf, 52)) (List.mem_append_right _ (List.mem_append_right _ (List.mem_append_right _ (List.mem_append_right _ (List.mem_of_getElem? (i := 7) (by decide +kernel)))))), kcX10_kindOf⟩
theorem kcX10_isPupil : MFc mX10_isPupil 1 := ⟨gT5 (List.mem_of_getElem? (i := 207) rfl) rfl, kiRX10, by decide +kernel, by decide +kernel, by decide, by decide +kernel⟩
theorem kpX10_isPupil : MFs mX10_isPupil 1 := ⟨gT5 (List.mem_of_getElem? (i := 206) (by decide +kernel)) (by decide +kernel), kcX10_isPupil⟩
theorem kcX10_kind : MFc mX10_kind 2 := ⟨gT5 (List.mem_of_getElem? (i := 204) rfl) rfl, kiRX10, by decide +kernel, by decide +kernel, by decide, by decide +kernel⟩
theorem kpX10_kind : MFv mX10_kind 2 := ⟨gT5 (List.mem_of_getElem? (i := 202) (by decide +kernel)) (by decide +kernel), gT5 (List.mem_of_getElem? (i := 203) (by decide +kernel)) (by decide +kernel), kcX10_kind⟩
theorem kcX10_pointsOf : MFc mX10_pointsOf 2 := ⟨gT6 (List.mem_of_getElem? (i := 1) rfl) rfl, kiRX10, by decide +kernel, by decide +kernel, by decide, by decide +kernel⟩
theorem kpX10_pointsOf : MFv mX10_pointsOf 2 := ⟨gT6 (List.mem_of_getElem? (i := 0) (by decide +kernel)) (by decide +kernel), gSl (q := (yX10_pointsOf, 52)) (List.mem_append_right _ (List.mem_append_right _ (List.mem_append_right _ (List.mem_append_right _ (List.mem_of_getElem? (i := 12) (by decide +kernel)))))), kcX10_pointsOf⟩
theorem kcX10_points : MFc mX10_points 2 := ⟨gT5 (List.mem_of_getElem? (i := 237) rfl) rfl, kiRX10, by decide +kernel, by decide +kernel, by decide, by decide +kernel⟩
theorem kpX10_points : MFv mX10_points 2 := ⟨gT5 (List.mem_of_getElem? (i := 235) (by decide +kernel)) (by decide +kernel), gT5 (List.mem_of_getElem? (i := 236) (by decide +kernel)) (by decide +kernel), kcX10_points⟩
theorem kcX10_slip : MFc mX10_slip 3 := ⟨gT6 (List.mem_of_getElem? (i := 5) rfl) rfl, kiRX10, by decide +kernel, by decide +kernel, by decide, by decide +kernel⟩
theorem kpX10_slip : MFv mX10_slip 3 := ⟨gT6 (List.mem_of_getElem? (i := 3) (by decide +kernel)) (by decide +kernel), gT6 (List.mem_of_getElem? (i := 4) (by decide +kernel)) (by decide +kernel), kcX10_slip⟩
theorem kcX10_fault : MFc mX10_fault 2 := ⟨gT6 (List.mem_of_getElem? (i := 9) rfl) rfl, kiRX10, by decide +kernel, by decide +kernel, by decide, by decide +kernel⟩
theorem kpX10_fault : MFv mX10_fault 2 := ⟨gT6 (List.mem_of_getElem? (i := 7) (by decide +kernel)) (by decide +kernel), gT6 (List.mem_of_getElem? (i := 8) (by decide +kernel)) (by decide +kernel), kcX10_fault⟩
theorem kcX10_areOneText : MFc mX10_areOneText 2 := ⟨gT6 (List.mem_of_getElem? (i := 17) rfl) rfl, kiRX10, by decide +kernel, by decide +kernel, by decide, by decide +kernel⟩
theorem kpX10_areOneText : MFv mX10_areOneText 2 := ⟨gT6 (List.mem_of_getElem? (i := 16) (by decide +kernel)) (by decide +kernel), gSl (q := (yX10_areOneText, 52)) (List.mem_append_right _ (List.mem_append_right _ (List.mem_append_right _ (List.mem_append_right _ (List.mem_of_getElem? (i := 13) (by decide +kernel)))))), kcX10_areOneText⟩
theorem kcX10_copied : MFc mX10_copied 3 := ⟨gT6 (List.mem_of_getElem? (i := 13) rfl) rfl, kiRX10, by decide +kernel, by decide +kernel, by decide, by decide +kernel⟩
theorem kpX10_copied : MFv mX10_copied 3 := ⟨gT6 (List.mem_of_getElem? (i := 11) (by decide +kernel)) (by decide +kernel), gT6 (List.mem_of_getElem? (i := 12) (by decide +kernel)) (by decide +kernel), kcX10_copied⟩
theorem kcX10_comesTo : MFc mX10_comesTo 3 := ⟨gT6 (List.mem_of_getElem? (i := 25) rfl) rfl, kiRX10, by decide +kernel, by decide +kernel, by decide, by decide +kernel⟩
theorem kpX10_comesTo : MFv mX10_comesTo 3 := ⟨gT6 (List.mem_of_getElem? (i := 24) (by decide +kernel)) (by decide +kernel), gSl (q := (yX10_comesTo, 52)) (List.mem_append_right _ (List.mem_append_right _ (List.mem_append_right _ (List.mem_append_right _ (List.mem_of_getElem? (i := 14) (by decide +kernel)))))), kcX10_comesTo⟩
theorem kcX10_look : MFc mX10_look 3 := ⟨gT6 (List.mem_of_getElem? (i := 21) rfl) rfl, kiRX10, by decide +kernel, by decide +kernel, by decide, by decide +kernel⟩
theorem kpX10_look : MFv mX10_look 3 := ⟨gT6 (List.mem_of_getElem? (i := 19) (by decide +kernel)) (by decide +kernel), gT6 (List.mem_of_getElem? (i := 20) (by decide +kernel)) (by decide +kernel), kcX10_look⟩
theorem kcX10_count : MFc mX10_count 1 := ⟨gT6 (List.mem_of_getElem? (i := 29) rfl) rfl, kiRX10, by decide +kernel, by decide +kernel, by decide, by decide +kernel⟩
theorem kpX10_count : MFv mX10_count 1 := ⟨gT6 (List.mem_of_getElem? (i := 27) (by decide +kernel)) (by decide +kernel), gT6 (List.mem_of_getElem? (i := 28) (by decide +kernel)) (by decide +kernel), kcX10_count⟩
theorem kcJ13_bitCount_95d88 : MFc mJ13_bitCount_95d88 1 := ⟨gT2 (List.mem_of_getElem? (i := 193) rfl) rfl, kiRJ13, by decide +kernel, by decide +kernel, by decide, by decide +kernel⟩
theorem kpJ13_bitCount_95d88 : MFs mJ13_bitCount_95d88 1 := ⟨gT2 (List.mem_of_getElem? (i := 192) (by decide +kernel)) (by decide +kernel), kcJ13_bitCount_95d88⟩
theorem kcJ9_floorDiv_f86c9 : MFc mJ9_floorDiv_f86c9 2 := ⟨gT3 (List.mem_of_getElem? (i := 127) rfl) rfl, kiRJ9, by decide +kernel, by decide +kernel, by decide, by decide +kernel⟩
theorem kpJ9_floorDiv_f86c9 : MFs mJ9_floorDiv_f86c9 2 := ⟨gT3 (List.mem_of_getElem? (i := 126) (by decide +kernel)) (by decide +kernel), kcJ9_floorDiv_f86c9⟩
theorem kcJ9_abs_067f4 : MFc mJ9_abs_067f4 1 := ⟨gT3 (List.mem_of_getElem? (i := 120) rfl) rfl, kiRJ9, by decide +kernel, by decide +kernel, by decide, by decide +kernel⟩
theorem kpJ9_abs_067f4 : MFs mJ9_abs_067f4 1 := ⟨gT3 (List.mem_of_getElem? (i := 119) (by decide +kernel)) (by decide +kernel), kcJ9_abs_067f4⟩
theorem kcJ9_max_7cf53 : MFc mJ9_max_7cf53 2 := ⟨gT2 (List.mem_of_getElem? (i := 22) rfl) rfl, kiRJ9, by decide +kernel, by decide +kernel, by decide, by decide +kernel⟩
theorem kpJ9_max_7cf53 : MFs mJ9_max_7cf53 2 := ⟨gT2 (List.mem_of_getElem? (i := 21) (by decide +kernel)) (by decide +kernel), kcJ9_max_7cf53⟩
theorem kcJ9_max_f86c9 : MFc mJ9_max_f86c9 2 := ⟨gT3 (List.mem_of_getElem? (i := 130) rfl) rfl, kiRJ9, by decide +kernel, by decide +kernel, by decide, by decide +kernel⟩
theorem kpJ9_max_f86c9 : MFs mJ9_max_f86c9 2 := ⟨gT3 (List.mem_of_getElem? (i := 129) (by decide +kernel)) (by decide +kernel), kcJ9_max_f86c9⟩
theorem kcJ9_min_7cf53 : MFc mJ9_min_7cf53 2 := ⟨gT2 (List.mem_of_getElem? (i := 160) rfl) rfl, kiRJ9, by decide +kernel, by decide +kernel, by decide, by decide +kernel⟩
theorem kpJ9_min_7cf53 : MFs mJ9_min_7cf53 2 := ⟨gT2 (List.mem_of_getElem? (i := 159) (by decide +kernel)) (by decide +kernel), kcJ9_min_7cf53⟩
theorem knL_7 : NEW RL 7 9 := ⟨by decide, gT1 (List.mem_of_getElem? (i := 14) (by decide +kernel)) (by decide +kernel), gT1 (List.mem_of_getElem? (i := 15) (by decide +kernel)) (by decide +kernel), gT1 (List.mem_of_getElem? (i := 1) (by decide +kernel)) (by decide +kernel)⟩
theorem kclL_7 : Cond.classLink RL 7 RX9 ∈ wsG := gT1 (List.mem_of_getElem? (i := 14) (by decide +kernel)) (by decide +kernel)
theorem kmL_9 : MLK RL 9 mX9_init := gT1 (List.mem_of_getElem? (i := 16) (by decide +kernel)) (by decide +kernel)
theorem koX9_1 : Cond.methodLink RX9 1 objectInit ∈ wsG := gT1 (List.mem_of_getElem? (i := 19) (by decide +kernel)) (by decide +kernel)
theorem knX9_7 : NEW RX9 7 8 := ⟨by decide, gT1 (List.mem_of_getElem? (i := 22) (by decide +kernel)) (by decide +kernel), gT1 (List.mem_of_getElem? (i := 23) (by decide +kernel)) (by decide +kernel), gT1 (List.mem_of_getElem? (i := 2) (by decide +kernel)) (by decide +kernel)⟩
theorem kclX9_7 : Cond.classLink RX9 7 RX8 ∈ wsG := gT1 (List.mem_of_getElem? (i := 22) (by decide +kernel)) (by decide +kernel)
theorem kmX9_9 : MLK RX9 9 mX8_init := gT1 (List.mem_of_getElem? (i := 24) (by decide +kernel)) (by decide +kernel)
theorem koX8_3 : Cond.methodLink RX8 3 objectInit ∈ wsG := gT1 (List.mem_of_getElem? (i := 27) (by decide +kernel)) (by decide +kernel)
theorem kfX8_9 : FLK RX8 9 8 0 := ⟨by decide, gT1 (List.mem_of_getElem? (i := 28) (by decide +kernel)) (by decide +kernel)⟩
theorem kfX8_15 : FLK RX8 15 8 1 := ⟨by decide, gT1 (List.mem_of_getElem? (i := 29) (by decide +kernel)) (by decide +kernel)⟩
theorem ka_int : Cond.arrayClass .int ∈ wsG := gT1 (List.mem_of_getElem? (i := 35) (by decide +kernel)) (by decide +kernel)
theorem knX9_16 : NEW RX9 16 4 := ⟨by decide, gT1 (List.mem_of_getElem? (i := 36) (by decide +kernel)) (by decide +kernel), gT1 (List.mem_of_getElem? (i := 37) (by decide +kernel)) (by decide +kernel), gT1 (List.mem_of_getElem? (i := 3) (by decide +kernel)) (by decide +kernel)⟩
theorem kclX9_16 : Cond.classLink RX9 16 RX4 ∈ wsG := gT1 (List.mem_of_getElem? (i := 36) (by decide +kernel)) (by decide +kernel)
theorem kmX9_18 : MLK RX9 18 mX4_init := gT1 (List.mem_of_getElem? (i := 38) (by decide +kernel)) (by decide +kernel)
theorem koX4_3 : Cond.methodLink RX4 3 objectInit ∈ wsG := gT1 (List.mem_of_getElem? (i := 41) (by decide +kernel)) (by decide +kernel)
theorem kfX4_9 : FLK RX4 9 4 0 := ⟨by decide, gT1 (List.mem_of_getElem? (i := 42) (by decide +kernel)) (by decide +kernel)⟩
theorem kfX4_15 : FLK RX4 15 4 1 := ⟨by decide, gT1 (List.mem_of_getElem? (i := 43) (by decide +kernel)) (by decide +kernel)⟩
theorem kfX4_18 : FLK RX4 18 4 2 := ⟨by decide, gT1 (List.mem_of_getElem? (i := 44) (by decide +kernel)) (by decide +kernel)⟩
theorem kfX4_22 : FLK RX4 22 4 3 := ⟨by decide, gT1 (List.mem_of_getElem? (i := 45) (by decide +kernel)) (by decide +kernel)⟩
theorem kfX4_29 : FLK RX4 29 4 4 := ⟨by decide, gT1 (List.mem_of_getElem? (i := 46) (by decide +kernel)) (by decide +kernel)⟩
theorem knX9_23 : NEW RX9 23 7 := ⟨by decide, gT1 (List.mem_of_getElem? (i := 58) (by decide +kernel)) (by decide +kernel), gT1 (List.mem_of_getElem? (i := 60) (by decide +kernel)) (by decide +kernel), gT1 (List.mem_of_getElem? (i := 4) (by decide +kernel)) (by decide +kernel)⟩
theorem kclX9_23 : Cond.classLink RX9 23 RX7 ∈ wsG := gT1 (List.mem_of_getElem? (i := 58) (by decide +kernel)) (by decide +kernel)
theorem kmX9_29 : MLK RX9 29 mX7_init := gT1 (List.mem_of_getElem? (i := 61) (by decide +kernel)) (by decide +kernel)
theorem koX7_3 : Cond.methodLink RX7 3 objectInit ∈ wsG := gT1 (List.mem_of_getElem? (i := 64) (by decide +kernel)) (by decide +kernel)
theorem knX7_9 : NEW RX7 9 0 := ⟨by decide, gT1 (List.mem_of_getElem? (i := 65) (by decide +kernel)) (by decide +kernel), gT1 (List.mem_of_getElem? (i := 66) (by decide +kernel)) (by decide +kernel), gT1 (List.mem_of_getElem? (i := 5) (by decide +kernel)) (by decide +kernel)⟩
theorem kclX7_9 : Cond.classLink RX7 9 RX0 ∈ wsG := gT1 (List.mem_of_getElem? (i := 65) (by decide +kernel)) (by decide +kernel)
theorem kmX7_11 : MLK RX7 11 mX0_init := gT1 (List.mem_of_getElem? (i := 67) (by decide +kernel)) (by decide +kernel)
theorem koX0_3 : Cond.methodLink RX0 3 objectInit ∈ wsG := gT1 (List.mem_of_getElem? (i := 70) (by decide +kernel)) (by decide +kernel)
theorem kfX0_9 : FLK RX0 9 0 0 := ⟨by decide, gT1 (List.mem_of_getElem? (i := 71) (by decide +kernel)) (by decide +kernel)⟩
theorem kfX0_15 : FLK RX0 15 0 1 := ⟨by decide, gT1 (List.mem_of_getElem? (i := 72) (by decide +kernel)) (by decide +kernel)⟩
theorem knX7_25 : NEW RX7 25 2 := ⟨by decide, gT1 (List.mem_of_getElem? (i := 78) (by decide +kernel)) (by decide +kernel), gT2 (List.mem_of_getElem? (i := 15) (by decide +kernel)) (by decide +kernel), gT1 (List.mem_of_getElem? (i := 10) (by decide +kernel)) (by decide +kernel)⟩
theorem kclX7_25 : Cond.classLink RX7 25 RX2 ∈ wsG := gT1 (List.mem_of_getElem? (i := 78) (by decide +kernel)) (by decide +kernel)
theorem kfX7_12 : FLK RX7 12 7 0 := ⟨by decide, gT1 (List.mem_of_getElem? (i := 80) (by decide +kernel)) (by decide +kernel)⟩
theorem kfX7_18 : FLK RX7 18 7 1 := ⟨by decide, gT1 (List.mem_of_getElem? (i := 81) (by decide +kernel)) (by decide +kernel)⟩
theorem kfX7_22 : FLK RX7 22 7 2 := ⟨by decide, gT1 (List.mem_of_getElem? (i := 82) (by decide +kernel)) (by decide +kernel)⟩
theorem kfX7_27 : FLK RX7 27 7 3 := ⟨by decide, gT1 (List.mem_of_getElem? (i := 83) (by decide +kernel)) (by decide +kernel)⟩
theorem kfX7_31 : FLK RX7 31 7 4 := ⟨by decide, gT1 (List.mem_of_getElem? (i := 84) (by decide +kernel)) (by decide +kernel)⟩
theorem kfX7_46 : FLK RX7 46 7 5 := ⟨by decide, gT1 (List.mem_of_getElem? (i := 85) (by decide +kernel)) (by decide +kernel)⟩
theorem ka_long : Cond.arrayClass .long ∈ wsG := gT1 (List.mem_of_getElem? (i := 99) (by decide +kernel)) (by decide +kernel)
theorem knX9_30 : NEW RX9 30 5 := ⟨by decide, gT1 (List.mem_of_getElem? (i := 100) (by decide +kernel)) (by decide +kernel), gT1 (List.mem_of_getElem? (i := 101) (by decide +kernel)) (by decide +kernel), gT1 (List.mem_of_getElem? (i := 6) (by decide +kernel)) (by decide +kernel)⟩
theorem kclX9_30 : Cond.classLink RX9 30 RX5 ∈ wsG := gT1 (List.mem_of_getElem? (i := 100) (by decide +kernel)) (by decide +kernel)
theorem kmX9_32 : MLK RX9 32 mX5_init := gT1 (List.mem_of_getElem? (i := 102) (by decide +kernel)) (by decide +kernel)
theorem koX5_3 : Cond.methodLink RX5 3 objectInit ∈ wsG := gT1 (List.mem_of_getElem? (i := 105) (by decide +kernel)) (by decide +kernel)
theorem kfX5_9 : FLK RX5 9 5 0 := ⟨by decide, gT1 (List.mem_of_getElem? (i := 106) (by decide +kernel)) (by decide +kernel)⟩
theorem kfX5_23 : FLK RX5 23 5 1 := ⟨by decide, gT1 (List.mem_of_getElem? (i := 107) (by decide +kernel)) (by decide +kernel)⟩
theorem kfX5_15 : FLK RX5 15 5 2 := ⟨by decide, gT1 (List.mem_of_getElem? (i := 108) (by decide +kernel)) (by decide +kernel)⟩
theorem kfX5_19 : FLK RX5 19 5 3 := ⟨by decide, gT1 (List.mem_of_getElem? (i := 109) (by decide +kernel)) (by decide +kernel)⟩
theorem knX9_33 : NEW RX9 33 1 := ⟨by decide, gT1 (List.mem_of_getElem? (i := 119) (by decide +kernel)) (by decide +kernel), gT1 (List.mem_of_getElem? (i := 120) (by decide +kernel)) (by decide +kernel), gT1 (List.mem_of_getElem? (i := 7) (by decide +kernel)) (by decide +kernel)⟩
theorem kclX9_33 : Cond.classLink RX9 33 RX1 ∈ wsG := gT1 (List.mem_of_getElem? (i := 119) (by decide +kernel)) (by decide +kernel)
theorem kmX9_35 : MLK RX9 35 mX1_init := gT1 (List.mem_of_getElem? (i := 121) (by decide +kernel)) (by decide +kernel)
theorem koX1_3 : Cond.methodLink RX1 3 objectInit ∈ wsG := gT1 (List.mem_of_getElem? (i := 124) (by decide +kernel)) (by decide +kernel)
theorem knX1_19 : NEW RX1 19 0 := ⟨by decide, gT1 (List.mem_of_getElem? (i := 125) (by decide +kernel)) (by decide +kernel), gT1 (List.mem_of_getElem? (i := 66) (by decide +kernel)) (by decide +kernel), gT1 (List.mem_of_getElem? (i := 5) (by decide +kernel)) (by decide +kernel)⟩
theorem kclX1_19 : Cond.classLink RX1 19 RX0 ∈ wsG := gT1 (List.mem_of_getElem? (i := 125) (by decide +kernel)) (by decide +kernel)
theorem kmX1_21 : MLK RX1 21 mX0_init := gT1 (List.mem_of_getElem? (i := 126) (by decide +kernel)) (by decide +kernel)
theorem kfX1_9 : FLK RX1 9 1 0 := ⟨by decide, gT1 (List.mem_of_getElem? (i := 127) (by decide +kernel)) (by decide +kernel)⟩
theorem kfX1_15 : FLK RX1 15 1 1 := ⟨by decide, gT1 (List.mem_of_getElem? (i := 128) (by decide +kernel)) (by decide +kernel)⟩
theorem kfX1_22 : FLK RX1 22 1 2 := ⟨by decide, gT1 (List.mem_of_getElem? (i := 129) (by decide +kernel)) (by decide +kernel)⟩
theorem kfX1_26 : FLK RX1 26 1 3 := ⟨by decide, gT1 (List.mem_of_getElem? (i := 130) (by decide +kernel)) (by decide +kernel)⟩
theorem kfX1_30 : FLK RX1 30 1 4 := ⟨by decide, gT1 (List.mem_of_getElem? (i := 131) (by decide +kernel)) (by decide +kernel)⟩
theorem kfX1_34 : FLK RX1 34 1 5 := ⟨by decide, gT1 (List.mem_of_getElem? (i := 132) (by decide +kernel)) (by decide +kernel)⟩
theorem kfX1_88 : FLK RX1 88 1 6 := ⟨by decide, gT1 (List.mem_of_getElem? (i := 133) (by decide +kernel)) (by decide +kernel)⟩
theorem kfX1_45 : FLK RX1 45 1 7 := ⟨by decide, gT1 (List.mem_of_getElem? (i := 134) (by decide +kernel)) (by decide +kernel)⟩
theorem knX9_48 : NEW RX9 48 3 := ⟨by decide, gT1 (List.mem_of_getElem? (i := 152) (by decide +kernel)) (by decide +kernel), gT1 (List.mem_of_getElem? (i := 153) (by decide +kernel)) (by decide +kernel), gT1 (List.mem_of_getElem? (i := 8) (by decide +kernel)) (by decide +kernel)⟩
theorem kclX9_48 : Cond.classLink RX9 48 RX3 ∈ wsG := gT1 (List.mem_of_getElem? (i := 152) (by decide +kernel)) (by decide +kernel)
theorem kmX9_50 : MLK RX9 50 mX3_init := gT1 (List.mem_of_getElem? (i := 154) (by decide +kernel)) (by decide +kernel)
theorem koX3_3 : Cond.methodLink RX3 3 objectInit ∈ wsG := gT1 (List.mem_of_getElem? (i := 157) (by decide +kernel)) (by decide +kernel)
theorem knX3_29 : NEW RX3 29 0 := ⟨by decide, gT1 (List.mem_of_getElem? (i := 158) (by decide +kernel)) (by decide +kernel), gT1 (List.mem_of_getElem? (i := 66) (by decide +kernel)) (by decide +kernel), gT1 (List.mem_of_getElem? (i := 5) (by decide +kernel)) (by decide +kernel)⟩
theorem kclX3_29 : Cond.classLink RX3 29 RX0 ∈ wsG := gT1 (List.mem_of_getElem? (i := 158) (by decide +kernel)) (by decide +kernel)
theorem kmX3_31 : MLK RX3 31 mX0_init := gT1 (List.mem_of_getElem? (i := 159) (by decide +kernel)) (by decide +kernel)
theorem kfX3_9 : FLK RX3 9 3 0 := ⟨by decide, gT1 (List.mem_of_getElem? (i := 160) (by decide +kernel)) (by decide +kernel)⟩
theorem kfX3_15 : FLK RX3 15 3 1 := ⟨by decide, gT1 (List.mem_of_getElem? (i := 161) (by decide +kernel)) (by decide +kernel)⟩
theorem kfX3_32 : FLK RX3 32 3 2 := ⟨by decide, gT1 (List.mem_of_getElem? (i := 162) (by decide +kernel)) (by decide +kernel)⟩
theorem kfX3_19 : FLK RX3 19 3 3 := ⟨by decide, gT1 (List.mem_of_getElem? (i := 163) (by decide +kernel)) (by decide +kernel)⟩
theorem kfX3_23 : FLK RX3 23 3 4 := ⟨by decide, gT1 (List.mem_of_getElem? (i := 164) (by decide +kernel)) (by decide +kernel)⟩
theorem kfX3_26 : FLK RX3 26 3 5 := ⟨by decide, gT1 (List.mem_of_getElem? (i := 165) (by decide +kernel)) (by decide +kernel)⟩
theorem kfX3_36 : FLK RX3 36 3 6 := ⟨by decide, gT1 (List.mem_of_getElem? (i := 166) (by decide +kernel)) (by decide +kernel)⟩
theorem kfX3_40 : FLK RX3 40 3 7 := ⟨by decide, gT1 (List.mem_of_getElem? (i := 167) (by decide +kernel)) (by decide +kernel)⟩
theorem kfX9_10 : FLK RX9 10 9 0 := ⟨by decide, gT1 (List.mem_of_getElem? (i := 185) (by decide +kernel)) (by decide +kernel)⟩
theorem kfX9_19 : FLK RX9 19 9 1 := ⟨by decide, gT1 (List.mem_of_getElem? (i := 186) (by decide +kernel)) (by decide +kernel)⟩
theorem kfX9_25 : FLK RX9 25 9 2 := ⟨by decide, gT1 (List.mem_of_getElem? (i := 187) (by decide +kernel)) (by decide +kernel)⟩
theorem kfX9_38 : FLK RX9 38 9 3 := ⟨by decide, gT1 (List.mem_of_getElem? (i := 188) (by decide +kernel)) (by decide +kernel)⟩
theorem kfX9_42 : FLK RX9 42 9 4 := ⟨by decide, gT1 (List.mem_of_getElem? (i := 189) (by decide +kernel)) (by decide +kernel)⟩
theorem kfX9_45 : FLK RX9 45 9 5 := ⟨by decide, gT1 (List.mem_of_getElem? (i := 190) (by decide +kernel)) (by decide +kernel)⟩
theorem kfX9_53 : FLK RX9 53 9 6 := ⟨by decide, gT1 (List.mem_of_getElem? (i := 191) (by decide +kernel)) (by decide +kernel)⟩
theorem kmL_13 : MLK RL 13 mX9_feed := gT1 (List.mem_of_getElem? (i := 207) (by decide +kernel)) (by decide +kernel)
theorem kmX9_57 : MLK RX9 57 mX8_hasRoom := gT1 (List.mem_of_getElem? (i := 211) (by decide +kernel)) (by decide +kernel)
theorem kmX9_61 : MLK RX9 61 mX8_append := gT1 (List.mem_of_getElem? (i := 215) (by decide +kernel)) (by decide +kernel)
theorem kmX9_65 : MLK RX9 65 mX8_length := gT1 (List.mem_of_getElem? (i := 219) (by decide +kernel)) (by decide +kernel)
theorem kmL_18 : MLK RL 18 mX9_number := gT1 (List.mem_of_getElem? (i := 223) (by decide +kernel)) (by decide +kernel)
theorem kmX9_69 : MLK RX9 69 mX9_sheetAt := gT1 (List.mem_of_getElem? (i := 227) (by decide +kernel)) (by decide +kernel)
theorem kmX9_73 : MLK RX9 73 mX9_isCell := gT1 (List.mem_of_getElem? (i := 231) (by decide +kernel)) (by decide +kernel)
theorem kmX9_77 : MLK RX9 77 mX9_isNumber := gT1 (List.mem_of_getElem? (i := 234) (by decide +kernel)) (by decide +kernel)
theorem kmX9_80 : MLK RX9 80 mX7_putNumber := gT1 (List.mem_of_getElem? (i := 237) (by decide +kernel)) (by decide +kernel)
theorem kmX7_35 : MLK RX7 35 mX7_put := gT2 (List.mem_of_getElem? (i := 1) (by decide +kernel)) (by decide +kernel)
theorem kkX7_54 : Cond.constantLong RX7 54 (-1) ∈ wsG := gT2 (List.mem_of_getElem? (i := 9) (by decide +kernel)) (by decide +kernel)
theorem kmL_23 : MLK RL 23 mX9_formula := gT2 (List.mem_of_getElem? (i := 10) (by decide +kernel)) (by decide +kernel)
theorem knX9_84 : NEW RX9 84 2 := ⟨by decide, gT2 (List.mem_of_getElem? (i := 14) (by decide +kernel)) (by decide +kernel), gT2 (List.mem_of_getElem? (i := 15) (by decide +kernel)) (by decide +kernel), gT1 (List.mem_of_getElem? (i := 10) (by decide +kernel)) (by decide +kernel)⟩
theorem kclX9_84 : Cond.classLink RX9 84 RX2 ∈ wsG := gT2 (List.mem_of_getElem? (i := 14) (by decide +kernel)) (by decide +kernel)
theorem kmX9_86 : MLK RX9 86 mX2_init := gT2 (List.mem_of_getElem? (i := 16) (by decide +kernel)) (by decide +kernel)
theorem koX2_3 : Cond.methodLink RX2 3 objectInit ∈ wsG := gT2 (List.mem_of_getElem? (i := 19) (by decide +kernel)) (by decide +kernel)
theorem kmX2_9 : MLK RX2 9 mJ9_max_7cf53 := gT2 (List.mem_of_getElem? (i := 20) (by decide +kernel)) (by decide +kernel)
theorem kfX2_15 : FLK RX2 15 2 0 := ⟨by decide, gT2 (List.mem_of_getElem? (i := 23) (by decide +kernel)) (by decide +kernel)⟩
theorem kfX2_21 : FLK RX2 21 2 1 := ⟨by decide, gT2 (List.mem_of_getElem? (i := 24) (by decide +kernel)) (by decide +kernel)⟩
theorem kfX2_24 : FLK RX2 24 2 2 := ⟨by decide, gT2 (List.mem_of_getElem? (i := 25) (by decide +kernel)) (by decide +kernel)⟩
theorem kfX2_27 : FLK RX2 27 2 3 := ⟨by decide, gT2 (List.mem_of_getElem? (i := 26) (by decide +kernel)) (by decide +kernel)⟩
theorem kfX2_38 : FLK RX2 38 2 4 := ⟨by decide, gT2 (List.mem_of_getElem? (i := 27) (by decide +kernel)) (by decide +kernel)⟩
theorem kmX9_88 : MLK RX9 88 mX8_moveTo := gT2 (List.mem_of_getElem? (i := 39) (by decide +kernel)) (by decide +kernel)
theorem kmX8_19 : MLK RX8 19 mX2_putByte := gT2 (List.mem_of_getElem? (i := 43) (by decide +kernel)) (by decide +kernel)
theorem knX9_92 : NEW RX9 92 6 := ⟨by decide, gT2 (List.mem_of_getElem? (i := 47) (by decide +kernel)) (by decide +kernel), gT2 (List.mem_of_getElem? (i := 48) (by decide +kernel)) (by decide +kernel), gT1 (List.mem_of_getElem? (i := 12) (by decide +kernel)) (by decide +kernel)⟩
theorem kclX9_92 : Cond.classLink RX9 92 RX6 ∈ wsG := gT2 (List.mem_of_getElem? (i := 47) (by decide +kernel)) (by decide +kernel)
theorem kmX9_94 : MLK RX9 94 mX6_init := gT2 (List.mem_of_getElem? (i := 49) (by decide +kernel)) (by decide +kernel)
theorem koX6_3 : Cond.methodLink RX6 3 objectInit ∈ wsG := gT2 (List.mem_of_getElem? (i := 52) (by decide +kernel)) (by decide +kernel)
theorem kfX6_9 : FLK RX6 9 6 0 := ⟨by decide, gT2 (List.mem_of_getElem? (i := 53) (by decide +kernel)) (by decide +kernel)⟩
theorem kfX6_22 : FLK RX6 22 6 1 := ⟨by decide, gT2 (List.mem_of_getElem? (i := 54) (by decide +kernel)) (by decide +kernel)⟩
theorem kfX6_35 : FLK RX6 35 6 2 := ⟨by decide, gT2 (List.mem_of_getElem? (i := 55) (by decide +kernel)) (by decide +kernel)⟩
theorem kmX9_96 : MLK RX9 96 mX6_parse := gT2 (List.mem_of_getElem? (i := 63) (by decide +kernel)) (by decide +kernel)
theorem kmX6_15 : MLK RX6 15 mX6_pass := gT2 (List.mem_of_getElem? (i := 67) (by decide +kernel)) (by decide +kernel)
theorem kmX6_42 : MLK RX6 42 mX6_passWithin := gT2 (List.mem_of_getElem? (i := 71) (by decide +kernel)) (by decide +kernel)
theorem kmX6_46 : MLK RX6 46 mX6_next := gT2 (List.mem_of_getElem? (i := 75) (by decide +kernel)) (by decide +kernel)
theorem kmX6_38 : MLK RX6 38 mX2_byteAt := gT2 (List.mem_of_getElem? (i := 79) (by decide +kernel)) (by decide +kernel)
theorem kmX6_32 : MLK RX6 32 mX6_fail := gT2 (List.mem_of_getElem? (i := 83) (by decide +kernel)) (by decide +kernel)
theorem kmX6_19 : MLK RX6 19 mX6_readSum := gT2 (List.mem_of_getElem? (i := 87) (by decide +kernel)) (by decide +kernel)
theorem kmX6_49 : MLK RX6 49 mX6_readProduct := gT2 (List.mem_of_getElem? (i := 91) (by decide +kernel)) (by decide +kernel)
theorem kmX6_56 : MLK RX6 56 mX6_readFactor := gT2 (List.mem_of_getElem? (i := 95) (by decide +kernel)) (by decide +kernel)
theorem kmX6_59 : MLK RX6 59 mX6_readNegative := gT2 (List.mem_of_getElem? (i := 99) (by decide +kernel)) (by decide +kernel)
theorem kmX6_52 : MLK RX6 52 mX2_addStep := gT2 (List.mem_of_getElem? (i := 103) (by decide +kernel)) (by decide +kernel)
theorem kmX6_62 : MLK RX6 62 mX6_readRectangle := gT2 (List.mem_of_getElem? (i := 107) (by decide +kernel)) (by decide +kernel)
theorem kmX6_75 : MLK RX6 75 mX6_readCell := gT2 (List.mem_of_getElem? (i := 111) (by decide +kernel)) (by decide +kernel)
theorem kmX6_65 : MLK RX6 65 mX6_readGreater := gT2 (List.mem_of_getElem? (i := 115) (by decide +kernel)) (by decide +kernel)
theorem kmX6_68 : MLK RX6 68 mX6_isDigit := gT2 (List.mem_of_getElem? (i := 119) (by decide +kernel)) (by decide +kernel)
theorem kmX6_72 : MLK RX6 72 mX6_readNumber := gT2 (List.mem_of_getElem? (i := 122) (by decide +kernel)) (by decide +kernel)
theorem kmX6_26 : MLK RX6 26 mX2_length := gT2 (List.mem_of_getElem? (i := 126) (by decide +kernel)) (by decide +kernel)
theorem kmX9_99 : MLK RX9 99 mX7_putFormula := gT2 (List.mem_of_getElem? (i := 130) (by decide +kernel)) (by decide +kernel)
theorem kmX7_39 : MLK RX7 39 mX2_needs := gT2 (List.mem_of_getElem? (i := 134) (by decide +kernel)) (by decide +kernel)
theorem kmX2_42 : MLK RX2 42 mX2_placeOf := gT2 (List.mem_of_getElem? (i := 138) (by decide +kernel)) (by decide +kernel)
theorem kmX2_45 : MLK RX2 45 mX2_stepAt := gT2 (List.mem_of_getElem? (i := 142) (by decide +kernel)) (by decide +kernel)
theorem kmX2_48 : MLK RX2 48 mX0_operandOf := gT2 (List.mem_of_getElem? (i := 146) (by decide +kernel)) (by decide +kernel)
theorem kmX0_28 : MLK RX0 28 mX2_operandAt := gT2 (List.mem_of_getElem? (i := 150) (by decide +kernel)) (by decide +kernel)
theorem kmX9_229 : MLK RX9 229 mJ9_min_7cf53 := gT2 (List.mem_of_getElem? (i := 158) (by decide +kernel)) (by decide +kernel)
theorem kmX9_234 : MLK RX9 234 mJ9_max_7cf53 := gT2 (List.mem_of_getElem? (i := 161) (by decide +kernel)) (by decide +kernel)
theorem kmL_28 : MLK RL 28 mX9_clear := gT2 (List.mem_of_getElem? (i := 162) (by decide +kernel)) (by decide +kernel)
theorem kmX9_103 : MLK RX9 103 mX7_heldAt := gT2 (List.mem_of_getElem? (i := 166) (by decide +kernel)) (by decide +kernel)
theorem kmX9_107 : MLK RX9 107 mX7_empty := gT2 (List.mem_of_getElem? (i := 170) (by decide +kernel)) (by decide +kernel)
theorem kmL_33 : MLK RL 33 mX9_input := gT2 (List.mem_of_getElem? (i := 174) (by decide +kernel)) (by decide +kernel)
theorem kmX9_110 : MLK RX9 110 mX4_isInput := gT2 (List.mem_of_getElem? (i := 178) (by decide +kernel)) (by decide +kernel)
theorem kmX9_113 : MLK RX9 113 mX4_isWanted := gT2 (List.mem_of_getElem? (i := 183) (by decide +kernel)) (by decide +kernel)
theorem kmX9_116 : MLK RX9 116 mX4_countInputs := gT2 (List.mem_of_getElem? (i := 187) (by decide +kernel)) (by decide +kernel)
theorem kmX4_33 : MLK RX4 33 mJ13_bitCount_95d88 := gT2 (List.mem_of_getElem? (i := 191) (by decide +kernel)) (by decide +kernel)
theorem kkJ13_314 : Cond.constantLong RJ13 314 (6148914691236517205) ∈ wsG := gT2 (List.mem_of_getElem? (i := 194) (by decide +kernel)) (by decide +kernel)
theorem kkJ13_316 : Cond.constantLong RJ13 316 (3689348814741910323) ∈ wsG := gT2 (List.mem_of_getElem? (i := 195) (by decide +kernel)) (by decide +kernel)
theorem kkJ13_318 : Cond.constantLong RJ13 318 (1085102592571150095) ∈ wsG := gT2 (List.mem_of_getElem? (i := 196) (by decide +kernel)) (by decide +kernel)
theorem kmX9_119 : MLK RX9 119 mX4_addInput := gT2 (List.mem_of_getElem? (i := 197) (by decide +kernel)) (by decide +kernel)
theorem kmL_38 : MLK RL 38 mX9_wants := gT2 (List.mem_of_getElem? (i := 201) (by decide +kernel)) (by decide +kernel)
theorem kmX9_122 : MLK RX9 122 mX4_countWanted := gT2 (List.mem_of_getElem? (i := 205) (by decide +kernel)) (by decide +kernel)
theorem kmX9_125 : MLK RX9 125 mX4_want := gT2 (List.mem_of_getElem? (i := 209) (by decide +kernel)) (by decide +kernel)
theorem kmL_42 : MLK RL 42 mX9_world := gT2 (List.mem_of_getElem? (i := 214) (by decide +kernel)) (by decide +kernel)
theorem kmX9_128 : MLK RX9 128 mX4_countWorlds := gT2 (List.mem_of_getElem? (i := 218) (by decide +kernel)) (by decide +kernel)
theorem kmX9_131 : MLK RX9 131 mX4_addWorld := gT2 (List.mem_of_getElem? (i := 222) (by decide +kernel)) (by decide +kernel)
theorem kmL_47 : MLK RL 47 mX9_give := gT2 (List.mem_of_getElem? (i := 226) (by decide +kernel)) (by decide +kernel)
theorem kmX9_134 : MLK RX9 134 mX4_isWorld := gT2 (List.mem_of_getElem? (i := 230) (by decide +kernel)) (by decide +kernel)
theorem kmX9_137 : MLK RX9 137 mX4_put := gT2 (List.mem_of_getElem? (i := 234) (by decide +kernel)) (by decide +kernel)
theorem kmX4_47 : MLK RX4 47 mX4_isWorld := gT2 (List.mem_of_getElem? (i := 238) (by decide +kernel)) (by decide +kernel)
theorem kmL_51 : MLK RL 51 mX9_value := gT2 (List.mem_of_getElem? (i := 239) (by decide +kernel)) (by decide +kernel)
theorem kmX9_141 : MLK RX9 141 mX9_reckonsOwn := gT3 (List.mem_of_getElem? (i := 3) (by decide +kernel)) (by decide +kernel)
theorem kmX9_204 : MLK RX9 204 mX1_reckonOwn := gT3 (List.mem_of_getElem? (i := 7) (by decide +kernel)) (by decide +kernel)
theorem kmX1_51 : MLK RX1 51 mX4_inputs := gT3 (List.mem_of_getElem? (i := 11) (by decide +kernel)) (by decide +kernel)
theorem kmX1_57 : MLK RX1 57 mX7_reckoned := gT3 (List.mem_of_getElem? (i := 15) (by decide +kernel)) (by decide +kernel)
theorem kkX1_49 : Cond.constantLong RX1 49 (-1) ∈ wsG := gT3 (List.mem_of_getElem? (i := 19) (by decide +kernel)) (by decide +kernel)
theorem kmX1_62 : MLK RX1 62 mX1_plan := gT3 (List.mem_of_getElem? (i := 20) (by decide +kernel)) (by decide +kernel)
theorem kmX1_92 : MLK RX1 92 mX7_needsAt := gT3 (List.mem_of_getElem? (i := 25) (by decide +kernel)) (by decide +kernel)
theorem kmX1_95 : MLK RX1 95 mX1_settles := gT3 (List.mem_of_getElem? (i := 29) (by decide +kernel)) (by decide +kernel)
theorem kmX1_99 : MLK RX1 99 mX1_append := gT3 (List.mem_of_getElem? (i := 33) (by decide +kernel)) (by decide +kernel)
theorem kmX1_66 : MLK RX1 66 mX4_isWorld := gT3 (List.mem_of_getElem? (i := 37) (by decide +kernel)) (by decide +kernel)
theorem kmX1_70 : MLK RX1 70 mX1_layHeld := gT3 (List.mem_of_getElem? (i := 38) (by decide +kernel)) (by decide +kernel)
theorem kmX1_103 : MLK RX1 103 mX4_isInput := gT3 (List.mem_of_getElem? (i := 42) (by decide +kernel)) (by decide +kernel)
theorem kmX1_106 : MLK RX1 106 mX4_given := gT3 (List.mem_of_getElem? (i := 43) (by decide +kernel)) (by decide +kernel)
theorem kmX1_109 : MLK RX1 109 mX1_put := gT3 (List.mem_of_getElem? (i := 47) (by decide +kernel)) (by decide +kernel)
theorem kmX1_113 : MLK RX1 113 mX7_heldAt := gT3 (List.mem_of_getElem? (i := 51) (by decide +kernel)) (by decide +kernel)
theorem kmX1_117 : MLK RX1 117 mX7_numberAt := gT3 (List.mem_of_getElem? (i := 52) (by decide +kernel)) (by decide +kernel)
theorem kmX1_74 : MLK RX1 74 mX1_follow := gT3 (List.mem_of_getElem? (i := 56) (by decide +kernel)) (by decide +kernel)
theorem kmX1_120 : MLK RX1 120 mX7_formulaAt := gT3 (List.mem_of_getElem? (i := 60) (by decide +kernel)) (by decide +kernel)
theorem kmX1_124 : MLK RX1 124 mX5_reckon := gT3 (List.mem_of_getElem? (i := 64) (by decide +kernel)) (by decide +kernel)
theorem kmX5_26 : MLK RX5 26 mX2_countSteps := gT3 (List.mem_of_getElem? (i := 68) (by decide +kernel)) (by decide +kernel)
theorem kmX5_32 : MLK RX5 32 mX2_placeOf := gT3 (List.mem_of_getElem? (i := 72) (by decide +kernel)) (by decide +kernel)
theorem kmX5_36 : MLK RX5 36 mX0_operandOf := gT3 (List.mem_of_getElem? (i := 73) (by decide +kernel)) (by decide +kernel)
theorem kmX5_42 : MLK RX5 42 mX0_stepOf := gT3 (List.mem_of_getElem? (i := 74) (by decide +kernel)) (by decide +kernel)
theorem kmX0_18 : MLK RX0 18 mX2_stepAt := gT3 (List.mem_of_getElem? (i := 78) (by decide +kernel)) (by decide +kernel)
theorem kmX5_45 : MLK RX5 45 mX5_push := gT3 (List.mem_of_getElem? (i := 82) (by decide +kernel)) (by decide +kernel)
theorem kkX5_65 : Cond.constantLong RX5 65 (1000000000000) ∈ wsG := gT3 (List.mem_of_getElem? (i := 86) (by decide +kernel)) (by decide +kernel)
theorem kkX5_67 : Cond.constantLong RX5 67 (-1000000000000) ∈ wsG := gT3 (List.mem_of_getElem? (i := 87) (by decide +kernel)) (by decide +kernel)
theorem kmX5_49 : MLK RX5 49 mX5_pushCell := gT3 (List.mem_of_getElem? (i := 88) (by decide +kernel)) (by decide +kernel)
theorem kmX5_69 : MLK RX5 69 mX1_errorAt := gT3 (List.mem_of_getElem? (i := 92) (by decide +kernel)) (by decide +kernel)
theorem kmX5_75 : MLK RX5 75 mX1_figureAt := gT3 (List.mem_of_getElem? (i := 96) (by decide +kernel)) (by decide +kernel)
theorem kmX5_53 : MLK RX5 53 mX5_pop := gT3 (List.mem_of_getElem? (i := 100) (by decide +kernel)) (by decide +kernel)
theorem kmX5_57 : MLK RX5 57 mX5_pushRectangle := gT3 (List.mem_of_getElem? (i := 104) (by decide +kernel)) (by decide +kernel)
theorem kmX5_61 : MLK RX5 61 mX5_join := gT3 (List.mem_of_getElem? (i := 110) (by decide +kernel)) (by decide +kernel)
theorem kmX5_86 : MLK RX5 86 mX5_multiply := gT3 (List.mem_of_getElem? (i := 114) (by decide +kernel)) (by decide +kernel)
theorem kmX5_99 : MLK RX5 99 mJ9_abs_067f4 := gT3 (List.mem_of_getElem? (i := 118) (by decide +kernel)) (by decide +kernel)
theorem kmX5_90 : MLK RX5 90 mX5_divide := gT3 (List.mem_of_getElem? (i := 121) (by decide +kernel)) (by decide +kernel)
theorem kmX5_103 : MLK RX5 103 mJ9_floorDiv_f86c9 := gT3 (List.mem_of_getElem? (i := 125) (by decide +kernel)) (by decide +kernel)
theorem kmX5_93 : MLK RX5 93 mJ9_max_f86c9 := gT3 (List.mem_of_getElem? (i := 128) (by decide +kernel)) (by decide +kernel)
theorem kmX1_130 : MLK RX1 130 mX5_result := gT3 (List.mem_of_getElem? (i := 131) (by decide +kernel)) (by decide +kernel)
theorem kmX1_133 : MLK RX1 133 mX5_errorMet := gT3 (List.mem_of_getElem? (i := 135) (by decide +kernel)) (by decide +kernel)
theorem kmX9_145 : MLK RX9 145 mX1_figureAt := gT3 (List.mem_of_getElem? (i := 139) (by decide +kernel)) (by decide +kernel)
theorem kkX9_149 : Cond.constantLong RX9 149 (-1) ∈ wsG := gT3 (List.mem_of_getElem? (i := 140) (by decide +kernel)) (by decide +kernel)
theorem kmL_56 : MLK RL 56 mX9_error := gT3 (List.mem_of_getElem? (i := 141) (by decide +kernel)) (by decide +kernel)
theorem kmX9_151 : MLK RX9 151 mX1_errorAt := gT3 (List.mem_of_getElem? (i := 145) (by decide +kernel)) (by decide +kernel)
theorem kmL_60 : MLK RL 60 mX9_right := gT3 (List.mem_of_getElem? (i := 146) (by decide +kernel)) (by decide +kernel)
theorem kmX9_155 : MLK RX9 155 mX9_reckonsRight := gT3 (List.mem_of_getElem? (i := 150) (by decide +kernel)) (by decide +kernel)
theorem kmX9_208 : MLK RX9 208 mX1_reckonRight := gT3 (List.mem_of_getElem? (i := 154) (by decide +kernel)) (by decide +kernel)
theorem kmX1_77 : MLK RX1 77 mX4_wanted := gT3 (List.mem_of_getElem? (i := 158) (by decide +kernel)) (by decide +kernel)
theorem kmX1_84 : MLK RX1 84 mX1_layLent := gT3 (List.mem_of_getElem? (i := 162) (by decide +kernel)) (by decide +kernel)
theorem kmX1_41 : MLK RX1 41 mX1_figureAt := gT3 (List.mem_of_getElem? (i := 166) (by decide +kernel)) (by decide +kernel)
theorem kmX1_37 : MLK RX1 37 mX1_errorAt := gT3 (List.mem_of_getElem? (i := 167) (by decide +kernel)) (by decide +kernel)
theorem kmL_64 : MLK RL 64 mX9_rightError := gT3 (List.mem_of_getElem? (i := 168) (by decide +kernel)) (by decide +kernel)
theorem kmL_68 : MLK RL 68 mX9_kind := gT3 (List.mem_of_getElem? (i := 172) (by decide +kernel)) (by decide +kernel)
theorem kmX9_158 : MLK RX9 158 mX9_pupilAt := gT3 (List.mem_of_getElem? (i := 176) (by decide +kernel)) (by decide +kernel)
theorem kmX9_161 : MLK RX9 161 mX3_open := gT3 (List.mem_of_getElem? (i := 180) (by decide +kernel)) (by decide +kernel)
theorem kmX3_43 : MLK RX3 43 mX1_reckonOwn := gT3 (List.mem_of_getElem? (i := 184) (by decide +kernel)) (by decide +kernel)
theorem kmX9_165 : MLK RX9 165 mX3_judge := gT3 (List.mem_of_getElem? (i := 185) (by decide +kernel)) (by decide +kernel)
theorem kmX3_49 : MLK RX3 49 mX7_formulaAt := gT3 (List.mem_of_getElem? (i := 189) (by decide +kernel)) (by decide +kernel)
theorem kmX3_55 : MLK RX3 55 mX3_judgeNumber := gT3 (List.mem_of_getElem? (i := 190) (by decide +kernel)) (by decide +kernel)
theorem kmX3_71 : MLK RX3 71 mX7_heldAt := gT3 (List.mem_of_getElem? (i := 194) (by decide +kernel)) (by decide +kernel)
theorem kmX3_75 : MLK RX3 75 mX4_isWorld := gT3 (List.mem_of_getElem? (i := 195) (by decide +kernel)) (by decide +kernel)
theorem kmX3_81 : MLK RX3 81 mX1_isAlike := gT3 (List.mem_of_getElem? (i := 196) (by decide +kernel)) (by decide +kernel)
theorem kmX3_59 : MLK RX3 59 mX3_isAlike := gT3 (List.mem_of_getElem? (i := 200) (by decide +kernel)) (by decide +kernel)
theorem kmX3_63 : MLK RX3 63 mX1_reckonRight := gT3 (List.mem_of_getElem? (i := 204) (by decide +kernel)) (by decide +kernel)
theorem kmX3_67 : MLK RX3 67 mX3_findsSlip := gT3 (List.mem_of_getElem? (i := 205) (by decide +kernel)) (by decide +kernel)
theorem kmX3_84 : MLK RX3 84 mX2_length := gT3 (List.mem_of_getElem? (i := 209) (by decide +kernel)) (by decide +kernel)
theorem kmX3_90 : MLK RX3 90 mX2_stepAt := gT3 (List.mem_of_getElem? (i := 210) (by decide +kernel)) (by decide +kernel)
theorem kmX3_93 : MLK RX3 93 mX3_option := gT3 (List.mem_of_getElem? (i := 211) (by decide +kernel)) (by decide +kernel)
theorem kmX3_134 : MLK RX3 134 mX2_operandAt := gT3 (List.mem_of_getElem? (i := 214) (by decide +kernel)) (by decide +kernel)
theorem kmX3_144 : MLK RX3 144 mX3_neighbour := gT3 (List.mem_of_getElem? (i := 218) (by decide +kernel)) (by decide +kernel)
theorem kmX3_97 : MLK RX3 97 mX3_isSoChanged := gT3 (List.mem_of_getElem? (i := 221) (by decide +kernel)) (by decide +kernel)
theorem kmX3_101 : MLK RX3 101 mX0_set := gT3 (List.mem_of_getElem? (i := 225) (by decide +kernel)) (by decide +kernel)
theorem kmX3_105 : MLK RX3 105 mX2_needs := gT3 (List.mem_of_getElem? (i := 229) (by decide +kernel)) (by decide +kernel)
theorem kmX3_109 : MLK RX3 109 mX1_settles := gT3 (List.mem_of_getElem? (i := 230) (by decide +kernel)) (by decide +kernel)
theorem kmX3_113 : MLK RX3 113 mX5_reckon := gT3 (List.mem_of_getElem? (i := 231) (by decide +kernel)) (by decide +kernel)
theorem kmX3_119 : MLK RX3 119 mX5_errorMet := gT3 (List.mem_of_getElem? (i := 232) (by decide +kernel)) (by decide +kernel)
theorem kmX3_122 : MLK RX3 122 mX5_result := gT3 (List.mem_of_getElem? (i := 233) (by decide +kernel)) (by decide +kernel)
theorem kmX3_126 : MLK RX3 126 mX1_errorAt := gT3 (List.mem_of_getElem? (i := 234) (by decide +kernel)) (by decide +kernel)
theorem kmX3_130 : MLK RX3 130 mX1_figureAt := gT3 (List.mem_of_getElem? (i := 235) (by decide +kernel)) (by decide +kernel)
theorem kmL_73 : MLK RL 73 mX9_points := gT3 (List.mem_of_getElem? (i := 236) (by decide +kernel)) (by decide +kernel)
theorem kmX9_168 : MLK RX9 168 mX4_worth := gT4 (List.mem_of_getElem? (i := 0) (by decide +kernel)) (by decide +kernel)
theorem kmX9_171 : MLK RX9 171 mX9_share := gT4 (List.mem_of_getElem? (i := 4) (by decide +kernel)) (by decide +kernel)
theorem kmL_77 : MLK RL 77 mX9_slip := gT4 (List.mem_of_getElem? (i := 7) (by decide +kernel)) (by decide +kernel)
theorem kmX9_174 : MLK RX9 174 mX3_slipPlace := gT4 (List.mem_of_getElem? (i := 11) (by decide +kernel)) (by decide +kernel)
theorem kmX9_177 : MLK RX9 177 mX3_slipMade := gT4 (List.mem_of_getElem? (i := 15) (by decide +kernel)) (by decide +kernel)
theorem kmL_81 : MLK RL 81 mX9_fault := gT4 (List.mem_of_getElem? (i := 19) (by decide +kernel)) (by decide +kernel)
theorem kmX9_180 : MLK RX9 180 mX9_isFaulty := gT4 (List.mem_of_getElem? (i := 23) (by decide +kernel)) (by decide +kernel)
theorem kmL_85 : MLK RL 85 mX9_copied := gT4 (List.mem_of_getElem? (i := 26) (by decide +kernel)) (by decide +kernel)
theorem kmX9_183 : MLK RX9 183 mX9_isShared := gT4 (List.mem_of_getElem? (i := 30) (by decide +kernel)) (by decide +kernel)
theorem kmX9_190 : MLK RX9 190 mX7_formulaAt := gT4 (List.mem_of_getElem? (i := 34) (by decide +kernel)) (by decide +kernel)
theorem kmX9_212 : MLK RX9 212 mX2_hasTextOf := gT4 (List.mem_of_getElem? (i := 35) (by decide +kernel)) (by decide +kernel)
theorem kmX2_30 : MLK RX2 30 mX2_length := gT4 (List.mem_of_getElem? (i := 39) (by decide +kernel)) (by decide +kernel)
theorem kmX2_34 : MLK RX2 34 mX2_byteAt := gT4 (List.mem_of_getElem? (i := 40) (by decide +kernel)) (by decide +kernel)
theorem kmL_89 : MLK RL 89 mX9_look := gT4 (List.mem_of_getElem? (i := 41) (by decide +kernel)) (by decide +kernel)
theorem kmX9_187 : MLK RX9 187 mX9_countComing := gT4 (List.mem_of_getElem? (i := 45) (by decide +kernel)) (by decide +kernel)
theorem kmX9_216 : MLK RX9 216 mX7_needsAt := gT4 (List.mem_of_getElem? (i := 49) (by decide +kernel)) (by decide +kernel)
theorem kmX9_220 : MLK RX9 220 mX9_bit := gT4 (List.mem_of_getElem? (i := 50) (by decide +kernel)) (by decide +kernel)
theorem kmX9_223 : MLK RX9 223 mJ13_bitCount_95d88 := gT4 (List.mem_of_getElem? (i := 51) (by decide +kernel)) (by decide +kernel)
theorem kmX9_194 : MLK RX9 194 mX2_length := gT4 (List.mem_of_getElem? (i := 52) (by decide +kernel)) (by decide +kernel)
theorem kmX9_195 : MLK RX9 195 mX7_numberAt := gT4 (List.mem_of_getElem? (i := 53) (by decide +kernel)) (by decide +kernel)
theorem kmX9_198 : MLK RX9 198 mX2_byteAt := gT4 (List.mem_of_getElem? (i := 54) (by decide +kernel)) (by decide +kernel)
theorem kmL_93 : MLK RL 93 mX9_count := gT4 (List.mem_of_getElem? (i := 55) (by decide +kernel)) (by decide +kernel)
theorem kmX9_201 : MLK RX9 201 mX4_worthOfAll := gT4 (List.mem_of_getElem? (i := 59) (by decide +kernel)) (by decide +kernel)
theorem kmX4_43 : MLK RX4 43 mX4_worth := gT4 (List.mem_of_getElem? (i := 63) (by decide +kernel)) (by decide +kernel)
theorem knL_10 : NEW RL 10 10 := ⟨by decide, gT4 (List.mem_of_getElem? (i := 64) (by decide +kernel)) (by decide +kernel), gT4 (List.mem_of_getElem? (i := 65) (by decide +kernel)) (by decide +kernel), gT1 (List.mem_of_getElem? (i := 9) (by decide +kernel)) (by decide +kernel)⟩
theorem kclL_10 : Cond.classLink RL 10 RX10 ∈ wsG := gT4 (List.mem_of_getElem? (i := 64) (by decide +kernel)) (by decide +kernel)
theorem kmL_12 : MLK RL 12 mX10_init := gT4 (List.mem_of_getElem? (i := 66) (by decide +kernel)) (by decide +kernel)
theorem koX10_1 : Cond.methodLink RX10 1 objectInit ∈ wsG := gT4 (List.mem_of_getElem? (i := 69) (by decide +kernel)) (by decide +kernel)
theorem kfX10_7 : FLK RX10 7 10 0 := ⟨by decide, gT4 (List.mem_of_getElem? (i := 70) (by decide +kernel)) (by decide +kernel)⟩
theorem kfX10_108 : FLK RX10 108 10 1 := ⟨by decide, gT4 (List.mem_of_getElem? (i := 71) (by decide +kernel)) (by decide +kernel)⟩
theorem kfX10_13 : FLK RX10 13 10 2 := ⟨by decide, gT4 (List.mem_of_getElem? (i := 72) (by decide +kernel)) (by decide +kernel)⟩
theorem kfX10_17 : FLK RX10 17 10 3 := ⟨by decide, gT4 (List.mem_of_getElem? (i := 73) (by decide +kernel)) (by decide +kernel)⟩
theorem kfX10_20 : FLK RX10 20 10 4 := ⟨by decide, gT4 (List.mem_of_getElem? (i := 74) (by decide +kernel)) (by decide +kernel)⟩
theorem kfX10_23 : FLK RX10 23 10 5 := ⟨by decide, gT4 (List.mem_of_getElem? (i := 75) (by decide +kernel)) (by decide +kernel)⟩
theorem kfX10_26 : FLK RX10 26 10 6 := ⟨by decide, gT4 (List.mem_of_getElem? (i := 76) (by decide +kernel)) (by decide +kernel)⟩
theorem kfX10_29 : FLK RX10 29 10 7 := ⟨by decide, gT4 (List.mem_of_getElem? (i := 77) (by decide +kernel)) (by decide +kernel)⟩
theorem kfX10_32 : FLK RX10 32 10 8 := ⟨by decide, gT4 (List.mem_of_getElem? (i := 78) (by decide +kernel)) (by decide +kernel)⟩
theorem kfX10_35 : FLK RX10 35 10 9 := ⟨by decide, gT4 (List.mem_of_getElem? (i := 79) (by decide +kernel)) (by decide +kernel)⟩
theorem kfX10_38 : FLK RX10 38 10 10 := ⟨by decide, gT4 (List.mem_of_getElem? (i := 80) (by decide +kernel)) (by decide +kernel)⟩
theorem kfX10_41 : FLK RX10 41 10 11 := ⟨by decide, gT4 (List.mem_of_getElem? (i := 81) (by decide +kernel)) (by decide +kernel)⟩
theorem kfX10_44 : FLK RX10 44 10 12 := ⟨by decide, gT4 (List.mem_of_getElem? (i := 82) (by decide +kernel)) (by decide +kernel)⟩
theorem kfX10_48 : FLK RX10 48 10 13 := ⟨by decide, gT4 (List.mem_of_getElem? (i := 83) (by decide +kernel)) (by decide +kernel)⟩
theorem kfX10_52 : FLK RX10 52 10 14 := ⟨by decide, gT4 (List.mem_of_getElem? (i := 84) (by decide +kernel)) (by decide +kernel)⟩
theorem kfX10_204 : FLK RX10 204 10 15 := ⟨by decide, gT4 (List.mem_of_getElem? (i := 85) (by decide +kernel)) (by decide +kernel)⟩
theorem kfX10_207 : FLK RX10 207 10 16 := ⟨by decide, gT4 (List.mem_of_getElem? (i := 86) (by decide +kernel)) (by decide +kernel)⟩
theorem kfX10_210 : FLK RX10 210 10 17 := ⟨by decide, gT4 (List.mem_of_getElem? (i := 87) (by decide +kernel)) (by decide +kernel)⟩
theorem kfX10_55 : FLK RX10 55 10 18 := ⟨by decide, gT4 (List.mem_of_getElem? (i := 88) (by decide +kernel)) (by decide +kernel)⟩
theorem kfX10_58 : FLK RX10 58 10 19 := ⟨by decide, gT4 (List.mem_of_getElem? (i := 89) (by decide +kernel)) (by decide +kernel)⟩
theorem kfX10_61 : FLK RX10 61 10 20 := ⟨by decide, gT4 (List.mem_of_getElem? (i := 90) (by decide +kernel)) (by decide +kernel)⟩
theorem kfX10_122 : FLK RX10 122 10 21 := ⟨by decide, gT4 (List.mem_of_getElem? (i := 91) (by decide +kernel)) (by decide +kernel)⟩
theorem kfX10_126 : FLK RX10 126 10 22 := ⟨by decide, gT4 (List.mem_of_getElem? (i := 92) (by decide +kernel)) (by decide +kernel)⟩
theorem kfX10_129 : FLK RX10 129 10 23 := ⟨by decide, gT4 (List.mem_of_getElem? (i := 93) (by decide +kernel)) (by decide +kernel)⟩
theorem kfX10_132 : FLK RX10 132 10 24 := ⟨by decide, gT4 (List.mem_of_getElem? (i := 94) (by decide +kernel)) (by decide +kernel)⟩
theorem kfX10_135 : FLK RX10 135 10 25 := ⟨by decide, gT4 (List.mem_of_getElem? (i := 95) (by decide +kernel)) (by decide +kernel)⟩
theorem kfX10_138 : FLK RX10 138 10 26 := ⟨by decide, gT4 (List.mem_of_getElem? (i := 96) (by decide +kernel)) (by decide +kernel)⟩
theorem kfX10_141 : FLK RX10 141 10 27 := ⟨by decide, gT4 (List.mem_of_getElem? (i := 97) (by decide +kernel)) (by decide +kernel)⟩
theorem kfX10_148 : FLK RX10 148 10 28 := ⟨by decide, gT4 (List.mem_of_getElem? (i := 98) (by decide +kernel)) (by decide +kernel)⟩
theorem kfX10_64 : FLK RX10 64 10 29 := ⟨by decide, gT4 (List.mem_of_getElem? (i := 99) (by decide +kernel)) (by decide +kernel)⟩
theorem kfX10_67 : FLK RX10 67 10 30 := ⟨by decide, gT4 (List.mem_of_getElem? (i := 100) (by decide +kernel)) (by decide +kernel)⟩
theorem kfX10_70 : FLK RX10 70 10 31 := ⟨by decide, gT4 (List.mem_of_getElem? (i := 101) (by decide +kernel)) (by decide +kernel)⟩
theorem kfX10_73 : FLK RX10 73 10 32 := ⟨by decide, gT4 (List.mem_of_getElem? (i := 102) (by decide +kernel)) (by decide +kernel)⟩
theorem kfX10_76 : FLK RX10 76 10 33 := ⟨by decide, gT4 (List.mem_of_getElem? (i := 103) (by decide +kernel)) (by decide +kernel)⟩
theorem kfX10_79 : FLK RX10 79 10 34 := ⟨by decide, gT4 (List.mem_of_getElem? (i := 104) (by decide +kernel)) (by decide +kernel)⟩
theorem kfX10_82 : FLK RX10 82 10 35 := ⟨by decide, gT4 (List.mem_of_getElem? (i := 105) (by decide +kernel)) (by decide +kernel)⟩
theorem kfX10_85 : FLK RX10 85 10 36 := ⟨by decide, gT4 (List.mem_of_getElem? (i := 106) (by decide +kernel)) (by decide +kernel)⟩
theorem kfX10_217 : FLK RX10 217 10 37 := ⟨by decide, gT4 (List.mem_of_getElem? (i := 107) (by decide +kernel)) (by decide +kernel)⟩
theorem kfX10_220 : FLK RX10 220 10 38 := ⟨by decide, gT4 (List.mem_of_getElem? (i := 108) (by decide +kernel)) (by decide +kernel)⟩
theorem kfX10_223 : FLK RX10 223 10 39 := ⟨by decide, gT4 (List.mem_of_getElem? (i := 109) (by decide +kernel)) (by decide +kernel)⟩
theorem kfX10_254 : FLK RX10 254 10 40 := ⟨by decide, gT4 (List.mem_of_getElem? (i := 110) (by decide +kernel)) (by decide +kernel)⟩
theorem kfX10_89 : FLK RX10 89 10 41 := ⟨by decide, gT4 (List.mem_of_getElem? (i := 111) (by decide +kernel)) (by decide +kernel)⟩
theorem kfX10_92 : FLK RX10 92 10 42 := ⟨by decide, gT4 (List.mem_of_getElem? (i := 112) (by decide +kernel)) (by decide +kernel)⟩
theorem kfX10_95 : FLK RX10 95 10 43 := ⟨by decide, gT4 (List.mem_of_getElem? (i := 113) (by decide +kernel)) (by decide +kernel)⟩
theorem kfX10_98 : FLK RX10 98 10 44 := ⟨by decide, gT4 (List.mem_of_getElem? (i := 114) (by decide +kernel)) (by decide +kernel)⟩
theorem kfX10_101 : FLK RX10 101 10 45 := ⟨by decide, gT4 (List.mem_of_getElem? (i := 115) (by decide +kernel)) (by decide +kernel)⟩
theorem kfX10_266 : FLK RX10 266 10 46 := ⟨by decide, gT4 (List.mem_of_getElem? (i := 116) (by decide +kernel)) (by decide +kernel)⟩
theorem kfX10_263 : FLK RX10 263 10 47 := ⟨by decide, gT4 (List.mem_of_getElem? (i := 117) (by decide +kernel)) (by decide +kernel)⟩
theorem kfX10_305 : FLK RX10 305 10 48 := ⟨by decide, gT4 (List.mem_of_getElem? (i := 118) (by decide +kernel)) (by decide +kernel)⟩
theorem kfX10_302 : FLK RX10 302 10 49 := ⟨by decide, gT4 (List.mem_of_getElem? (i := 119) (by decide +kernel)) (by decide +kernel)⟩
theorem kfX10_318 : FLK RX10 318 10 50 := ⟨by decide, gT4 (List.mem_of_getElem? (i := 120) (by decide +kernel)) (by decide +kernel)⟩
theorem kfX10_324 : FLK RX10 324 10 51 := ⟨by decide, gT4 (List.mem_of_getElem? (i := 121) (by decide +kernel)) (by decide +kernel)⟩
theorem ka_byte : Cond.arrayClass .byte ∈ wsG := gT4 (List.mem_of_getElem? (i := 227) (by decide +kernel)) (by decide +kernel)
theorem ka_boolean : Cond.arrayClass .boolean ∈ wsG := gT4 (List.mem_of_getElem? (i := 228) (by decide +kernel)) (by decide +kernel)
theorem kmL_17 : MLK RL 17 mX10_feed := gT4 (List.mem_of_getElem? (i := 229) (by decide +kernel)) (by decide +kernel)
theorem kmX10_111 : MLK RX10 111 mX10_push := gT4 (List.mem_of_getElem? (i := 233) (by decide +kernel)) (by decide +kernel)
theorem kmL_22 : MLK RL 22 mX10_number := gT4 (List.mem_of_getElem? (i := 237) (by decide +kernel)) (by decide +kernel)
theorem kmX10_115 : MLK RX10 115 mX10_isSheet := gT5 (List.mem_of_getElem? (i := 1) (by decide +kernel)) (by decide +kernel)
theorem kmX10_104 : MLK RX10 104 mX10_lies := gT5 (List.mem_of_getElem? (i := 4) (by decide +kernel)) (by decide +kernel)
theorem kmX10_119 : MLK RX10 119 mX10_isCell := gT5 (List.mem_of_getElem? (i := 7) (by decide +kernel)) (by decide +kernel)
theorem kmL_32 : MLK RL 32 mX10_clear := gT5 (List.mem_of_getElem? (i := 10) (by decide +kernel)) (by decide +kernel)
theorem kmL_27 : MLK RL 27 mX10_formula := gT5 (List.mem_of_getElem? (i := 14) (by decide +kernel)) (by decide +kernel)
theorem kmX10_194 : MLK RX10 194 mX10_reads := gT5 (List.mem_of_getElem? (i := 18) (by decide +kernel)) (by decide +kernel)
theorem kmX10_172 : MLK RX10 172 mX10_must := gT5 (List.mem_of_getElem? (i := 22) (by decide +kernel)) (by decide +kernel)
theorem kmX10_158 : MLK RX10 158 mX10_here := gT5 (List.mem_of_getElem? (i := 26) (by decide +kernel)) (by decide +kernel)
theorem kmX10_151 : MLK RX10 151 mX10_fails := gT5 (List.mem_of_getElem? (i := 30) (by decide +kernel)) (by decide +kernel)
theorem kmX10_181 : MLK RX10 181 mX10_factor := gT5 (List.mem_of_getElem? (i := 34) (by decide +kernel)) (by decide +kernel)
theorem kmX10_169 : MLK RX10 169 mX10_opens := gT5 (List.mem_of_getElem? (i := 38) (by decide +kernel)) (by decide +kernel)
theorem kmX10_155 : MLK RX10 155 mX10_waits := gT5 (List.mem_of_getElem? (i := 42) (by decide +kernel)) (by decide +kernel)
theorem kmX10_175 : MLK RX10 175 mX10_readCell := gT5 (List.mem_of_getElem? (i := 46) (by decide +kernel)) (by decide +kernel)
theorem kmX10_144 : MLK RX10 144 mX10_puts := gT5 (List.mem_of_getElem? (i := 50) (by decide +kernel)) (by decide +kernel)
theorem kmX10_162 : MLK RX10 162 mX10_seesDigit := gT5 (List.mem_of_getElem? (i := 54) (by decide +kernel)) (by decide +kernel)
theorem kmX10_178 : MLK RX10 178 mX10_readNumber := gT5 (List.mem_of_getElem? (i := 58) (by decide +kernel)) (by decide +kernel)
theorem kmX10_184 : MLK RX10 184 mX10_factorEnds := gT5 (List.mem_of_getElem? (i := 62) (by decide +kernel)) (by decide +kernel)
theorem kmX10_166 : MLK RX10 166 mX10_joins := gT5 (List.mem_of_getElem? (i := 66) (by decide +kernel)) (by decide +kernel)
theorem kmX10_187 : MLK RX10 187 mX10_joinOf := gT5 (List.mem_of_getElem? (i := 70) (by decide +kernel)) (by decide +kernel)
theorem kmX10_191 : MLK RX10 191 mX10_sumEnds := gT5 (List.mem_of_getElem? (i := 73) (by decide +kernel)) (by decide +kernel)
theorem kmX10_197 : MLK RX10 197 mX10_names0 := gT5 (List.mem_of_getElem? (i := 77) (by decide +kernel)) (by decide +kernel)
theorem kmX10_229 : MLK RX10 229 mX10_opOf := gT5 (List.mem_of_getElem? (i := 81) (by decide +kernel)) (by decide +kernel)
theorem kmX10_213 : MLK RX10 213 mX10_isChanged := gT5 (List.mem_of_getElem? (i := 85) (by decide +kernel)) (by decide +kernel)
theorem kmX10_233 : MLK RX10 233 mX10_argOf := gT5 (List.mem_of_getElem? (i := 89) (by decide +kernel)) (by decide +kernel)
theorem kmX10_236 : MLK RX10 236 mX10_arg2Of := gT5 (List.mem_of_getElem? (i := 93) (by decide +kernel)) (by decide +kernel)
theorem kmX10_239 : MLK RX10 239 mX10_isWithin := gT5 (List.mem_of_getElem? (i := 97) (by decide +kernel)) (by decide +kernel)
theorem kmX10_226 : MLK RX10 226 mX10_isBetween := gT5 (List.mem_of_getElem? (i := 100) (by decide +kernel)) (by decide +kernel)
theorem kmL_37 : MLK RL 37 mX10_input := gT5 (List.mem_of_getElem? (i := 103) (by decide +kernel)) (by decide +kernel)
theorem kmX10_201 : MLK RX10 201 mX10_isWanted := gT5 (List.mem_of_getElem? (i := 107) (by decide +kernel)) (by decide +kernel)
theorem kmL_41 : MLK RL 41 mX10_wants := gT5 (List.mem_of_getElem? (i := 111) (by decide +kernel)) (by decide +kernel)
theorem kmL_46 : MLK RL 46 mX10_world := gT5 (List.mem_of_getElem? (i := 115) (by decide +kernel)) (by decide +kernel)
theorem kmL_50 : MLK RL 50 mX10_give := gT5 (List.mem_of_getElem? (i := 119) (by decide +kernel)) (by decide +kernel)
theorem kmL_55 : MLK RL 55 mX10_value := gT5 (List.mem_of_getElem? (i := 123) (by decide +kernel)) (by decide +kernel)
theorem kmX10_309 : MLK RX10 309 mX10_is := gT5 (List.mem_of_getElem? (i := 127) (by decide +kernel)) (by decide +kernel)
theorem kkX10_257 : Cond.constantLong RX10 257 (-1) ∈ wsG := gT5 (List.mem_of_getElem? (i := 131) (by decide +kernel)) (by decide +kernel)
theorem kmX10_312 : MLK RX10 312 mX10_tells := gT5 (List.mem_of_getElem? (i := 132) (by decide +kernel)) (by decide +kernel)
theorem kmX10_292 : MLK RX10 292 mX10_tasks := gT5 (List.mem_of_getElem? (i := 136) (by decide +kernel)) (by decide +kernel)
theorem kmX10_295 : MLK RX10 295 mX10_orders := gT5 (List.mem_of_getElem? (i := 140) (by decide +kernel)) (by decide +kernel)
theorem kmX10_242 : MLK RX10 242 mX10_has := gT5 (List.mem_of_getElem? (i := 144) (by decide +kernel)) (by decide +kernel)
theorem kmX10_246 : MLK RX10 246 mX10_isTold := gT5 (List.mem_of_getElem? (i := 147) (by decide +kernel)) (by decide +kernel)
theorem kmX10_250 : MLK RX10 250 mX10_needs := gT5 (List.mem_of_getElem? (i := 151) (by decide +kernel)) (by decide +kernel)
theorem kmX10_298 : MLK RX10 298 mX10_works := gT5 (List.mem_of_getElem? (i := 155) (by decide +kernel)) (by decide +kernel)
theorem kmX10_289 : MLK RX10 289 mX10_reckons := gT5 (List.mem_of_getElem? (i := 159) (by decide +kernel)) (by decide +kernel)
theorem kmX10_269 : MLK RX10 269 mX10_comes := gT5 (List.mem_of_getElem? (i := 163) (by decide +kernel)) (by decide +kernel)
theorem kkX10_259 : Cond.constantLong RX10 259 (1000000000000) ∈ wsG := gT5 (List.mem_of_getElem? (i := 167) (by decide +kernel)) (by decide +kernel)
theorem kkX10_261 : Cond.constantLong RX10 261 (-1000000000000) ∈ wsG := gT5 (List.mem_of_getElem? (i := 168) (by decide +kernel)) (by decide +kernel)
theorem kmX10_280 : MLK RX10 280 mX10_names := gT5 (List.mem_of_getElem? (i := 169) (by decide +kernel)) (by decide +kernel)
theorem kmX10_283 : MLK RX10 283 mX10_range := gT5 (List.mem_of_getElem? (i := 173) (by decide +kernel)) (by decide +kernel)
theorem kmX10_286 : MLK RX10 286 mX10_two := gT5 (List.mem_of_getElem? (i := 177) (by decide +kernel)) (by decide +kernel)
theorem kmX10_273 : MLK RX10 273 mX10_times := gT5 (List.mem_of_getElem? (i := 181) (by decide +kernel)) (by decide +kernel)
theorem kmX10_277 : MLK RX10 277 mX10_parts := gT5 (List.mem_of_getElem? (i := 185) (by decide +kernel)) (by decide +kernel)
theorem kmL_59 : MLK RL 59 mX10_error := gT5 (List.mem_of_getElem? (i := 189) (by decide +kernel)) (by decide +kernel)
theorem kmL_63 : MLK RL 63 mX10_right := gT5 (List.mem_of_getElem? (i := 193) (by decide +kernel)) (by decide +kernel)
theorem kmL_67 : MLK RL 67 mX10_rightError := gT5 (List.mem_of_getElem? (i := 197) (by decide +kernel)) (by decide +kernel)
theorem kmL_72 : MLK RL 72 mX10_kind := gT5 (List.mem_of_getElem? (i := 201) (by decide +kernel)) (by decide +kernel)
theorem kmX10_341 : MLK RX10 341 mX10_isPupil := gT5 (List.mem_of_getElem? (i := 205) (by decide +kernel)) (by decide +kernel)
theorem kmX10_344 : MLK RX10 344 mX10_kindOf := gT5 (List.mem_of_getElem? (i := 208) (by decide +kernel)) (by decide +kernel)
theorem kmX10_315 : MLK RX10 315 mX10_isAlike := gT5 (List.mem_of_getElem? (i := 212) (by decide +kernel)) (by decide +kernel)
theorem kmX10_338 : MLK RX10 338 mX10_isSlip := gT5 (List.mem_of_getElem? (i := 216) (by decide +kernel)) (by decide +kernel)
theorem kmX10_334 : MLK RX10 334 mX10_slips := gT5 (List.mem_of_getElem? (i := 220) (by decide +kernel)) (by decide +kernel)
theorem kmX10_321 : MLK RX10 321 mX10_signOf := gT5 (List.mem_of_getElem? (i := 224) (by decide +kernel)) (by decide +kernel)
theorem kmX10_327 : MLK RX10 327 mX10_tries := gT5 (List.mem_of_getElem? (i := 227) (by decide +kernel)) (by decide +kernel)
theorem kmX10_331 : MLK RX10 331 mX10_beside := gT5 (List.mem_of_getElem? (i := 231) (by decide +kernel)) (by decide +kernel)
theorem kmL_76 : MLK RL 76 mX10_points := gT5 (List.mem_of_getElem? (i := 234) (by decide +kernel)) (by decide +kernel)
theorem kmX10_347 : MLK RX10 347 mX10_pointsOf := gT5 (List.mem_of_getElem? (i := 238) (by decide +kernel)) (by decide +kernel)
theorem kmL_80 : MLK RL 80 mX10_slip := gT6 (List.mem_of_getElem? (i := 2) (by decide +kernel)) (by decide +kernel)
theorem kmL_84 : MLK RL 84 mX10_fault := gT6 (List.mem_of_getElem? (i := 6) (by decide +kernel)) (by decide +kernel)
theorem kmL_88 : MLK RL 88 mX10_copied := gT6 (List.mem_of_getElem? (i := 10) (by decide +kernel)) (by decide +kernel)
theorem kmX10_350 : MLK RX10 350 mX10_areOneText := gT6 (List.mem_of_getElem? (i := 14) (by decide +kernel)) (by decide +kernel)
theorem kmL_92 : MLK RL 92 mX10_look := gT6 (List.mem_of_getElem? (i := 18) (by decide +kernel)) (by decide +kernel)
theorem kmX10_353 : MLK RX10 353 mX10_comesTo := gT6 (List.mem_of_getElem? (i := 22) (by decide +kernel)) (by decide +kernel)
theorem kmL_97 : MLK RL 97 mX10_count := gT6 (List.mem_of_getElem? (i := 26) (by decide +kernel)) (by decide +kernel)
theorem ka_char : Cond.arrayClass .char ∈ wsG := gT6 (List.mem_of_getElem? (i := 30) (by decide +kernel)) (by decide +kernel)
theorem kobj_i : Cond.instanceMethod objectInit ∈ wsG := gT1 (List.mem_of_getElem? (i := 20) (by decide +kernel)) (by decide +kernel)
theorem kobj_c : Cond.code objectInit ⟨#[0xb1]⟩ 1 none ∈ wsG := gT1 (List.mem_of_getElem? (i := 21) (by decide +kernel)) (by decide +kernel)
end
section
/-! MEMORY BY NUMBERS: the cells that the law makes are numbered in the order in which they are made (0: the script, 1: SIGNS, 2: the marker, ..); a memory is what each holds. -/
abbrev Mem : Type := (Nat → Nat → Int32) × (Nat → Nat → Int64) × (Nat → Nat → Option Nat) × (Nat → Nat)
def rI (M : Mem) (q k : Nat) : Int32 := M.1 q k
def rJ (M : Mem) (q k : Nat) : Int64 := M.2.1 q k
def rA (M : Mem) (q k : Nat) : Option Nat := M.2.2.1 q k
def rL (M : Mem) (q : Nat) : Nat := M.2.2.2 q
def up2 {α : Type} (f : Nat → Nat → α) (q k : Nat) (v : α) : Nat → Nat → α := fun a j => if a = q ∧ j = k then v else f a j
def sI (M : Mem) (q k : Nat) (v : Int32) : Mem := (up2 M.1 q k v, M.2)
def sJ (M : Mem) (q k : Nat) (v : Int64) : Mem := (M.1, up2 M.2.1 q k v, M.2.2)
def sA (M : Mem) (q k : Nat) (v : Option Nat) : Mem := (M.1, M.2.1, up2 M.2.2.1 q k v, M.2.2.2)
/-- the cell N made, of length n: zeroes and nulls -/
def mk (M : Mem) (N n : Nat) : Mem := (fun a j => if a = N then 0 else M.1 a j, fun a j => if a = N then 0 else M.2.1 a j, fun a j => if a = N then none else M.2.2.1 a j, fun a => if a = N then n else M.2.2.2 a)
/-- kinds: 0 to 10 the classes of vwCl; 11 int[], 12 long[], 13 byte[], 14 boolean[], 15 Formula[], 16 Sheet[] -/
def KDL : List Nat := [99, 99, 9, 8, 11, 4, 11, 11, 16, 7, 0, 11, 11, 15, 12, 7, 0, 11, 11, 15, 12, 7, 0, 11, 11, 15, 12, 7, 0, 11, 11, 15, 12, 7, 0, 11, 11, 15, 12, 7, 0, 11, 11, 15, 12, 5, 12, 1, 0, 12, 11, 11, 1, 0, 12, 11, 11, 1, 0, 12, 11, 11, 3, 0, 10, 13, 11, 11, 11, 13, 11, 11, 11, 11, 11, 11, 12, 14, 11, 11, 12, 11, 11, 11, 11, 11, 11, 11, 11, 11, 12, 12, 11, 12]
def LNL : List Nat := [0, 0, 0, 0, 60, 0, 384, 64, 6, 0, 0, 64, 64, 64, 64, 0, 0, 64, 64, 64, 64, 0, 0, 64, 64, 64, 64, 0, 0, 64, 64, 64, 64, 0, 0, 64, 64, 64, 64, 0, 0, 64, 64, 64, 64, 0, 40, 0, 0, 384, 384, 64, 0, 0, 384, 384, 64, 0, 0, 384, 384, 64, 0, 0, 0, 60, 384, 384, 384, 15360, 384, 15360, 15360, 15360, 15360, 15360, 384, 64, 64, 384, 384, 384, 40, 40, 40, 40, 40, 40, 40, 64, 64, 64, 64, 40]
def KDN (r : Nat) : Nat := if r = 0 then 2 else if r = 5 then 6 else 11
def KD (q : Nat) : Nat := if q < 94 then KDL.getD q 99 else KDN ((q - 94) % 6)
def ln (M : Mem) (q : Nat) : Nat := if q < 94 then (if q = 0 then rL M q else LNL.getD q 0) else rL M q
/-- the kinds of a class's fields: 0 int, 1 long, 2 reference, 3 boolean -/
def TYL : List (List Nat) := [[0, 0], [2, 2, 2, 2, 2, 2, 0, 1], [2, 2, 2, 2, 0], [2, 2, 2, 2, 2, 2, 0, 0], [2, 2, 1, 1, 0], [2, 0, 0, 1], [2, 0, 0], [2, 2, 2, 2, 2, 1], [2, 0], [2, 2, 2, 2, 2, 2, 2],
  [2, 0, 2, 2, 2, 2, 2, 2, 2, 2, 2, 2, 2, 2, 2, 0, 0, 0, 2, 2, 2, 3, 0, 0, 0, 0, 0, 0, 0, 2, 2, 2, 2, 2, 2, 2, 0, 0, 0, 0, 0, 2, 2, 2, 2, 2, 0, 0, 1, 0, 0, 0]]
def tyz (c : Nat) : List Nat := TYL.getD c []
def fv (a : Nat → Nat) (M : Mem) (q k t : Nat) : Value := if t = 1 then .long (rJ M q k) else if t = 2 then va_rf ((rA M q k).map a) else .int (rI M q k)
def fl (a : Nat → Nat) (M : Mem) (q : Nat) : List Nat → Nat → List Value
  | [], _ => []
  | t :: ts, k => fv a M q k t :: fl a M q ts (k + 1)
/-- where the cells lie -/
def adr (b sg base : Nat) : Nat → Nat := fun k => if k = 0 then b else if k = 1 then sg else base + (k - 2)
/-- a run's world: the classes, the array classes, the script's cell, SIGNS' cell, the first new cell, the script -/
abbrev World : Type := va_G × (Nat → ClassId) × Nat × Nat × Nat × Nat × (Nat → Int32)
abbrev wD (g : World) : va_G := g.1
abbrev wc (g : World) : Nat → ClassId := g.2.1
abbrev wb (g : World) : Nat := g.2.2.1
abbrev wsg (g : World) : Nat := g.2.2.2.1
abbrev wz (g : World) : Nat := g.2.2.2.2.1
abbrev wL (g : World) : Nat := g.2.2.2.2.2.1
abbrev wxs (g : World) : Nat → Int32 := g.2.2.2.2.2.2
def wad (g : World) : Nat → Nat := adr (wb g) (wsg g) (wz g)
def ent (g : World) (M : Mem) (q : Nat) : va_E :=
  if KD q < 11 then .inr (KD q, fl (wad g) M q (tyz (KD q)) 0)
  else if KD q = 12 then .inl (wc g 1, ln M q, .inr (.inl (M.2.1 q)))
  else if KD q = 15 ∨ KD q = 16 then .inl (wc g (KD q - 11), ln M q, .inr (.inr (.inr (.inr (fun j => (rA M q j).map (wad g))))))
  else .inl (wc g (KD q - 11), ln M q, .inl (M.1 q))
def Rep (g : World) (N : Nat) (M : Mem) (H : Heap) : Prop := (2 ≤ N ∧ wL g = ln M 0 ∧ ∀ j, j < wL g → wxs g j = M.1 0 j) ∧ H.size = wz g + (N - 2) ∧ ∀ q, 2 ≤ q → q < N → va_at (wD g) vwCl (wad g q, ent g M q) H
def tv (a : Nat → Nat) : Value → Value
  | .ref q => .ref (a q)
  | v => v
abbrev tvL (a : Nat → Nat) (q : Nat × Value) : Nat × Value := (q.1, tv a q.2)
theorem tv_cat (a : Nat → Nat) (v : Value) : (tv a v).category = v.category := by cases v <;> rfl
def nestM : List (String × Nat × MethodName × String) := [("SheetMarker$Change", 24, yX9_isSign, "SheetMarker"), ("SheetMarker$Figures", 80, yX9_bit, "SheetMarker"), ("SheetMarker$Formula", 54, yX9_bit, "SheetMarker"), ("SheetMarker$Formula", 58, yX9_rectangle, "SheetMarker"), ("SheetMarker$Judge", 137, yX9_isSign, "SheetMarker"), ("SheetMarker$Lesson", 25, yX9_bit, "SheetMarker"), ("SheetMarker$Lesson", 39, yX9_isCell, "SheetMarker"), ("SheetMarker$Machine", 79, yX9_rectangle, "SheetMarker"), ("SheetMarker$Machine", 82, yX9_bit, "SheetMarker"), ("SheetMarker$Sheet", 42, yX9_isCell, "SheetMarker"), ("SheetMarker$Sheet", 50, yX9_bit, "SheetMarker")]
def sgF (j : Nat) : Value := .int (if j = 0 then 43 else if j = 1 then 45 else if j = 2 then 42 else 47)
abbrev wA (g : World) : Nat → Prop := fun q => wz g ≤ q
/-- what stays as it is from the law's entry on: the script, SIGNS, the words on nest mates, the array classes -/
def Stat (g : World) (U : State) (H : Heap) : Prop := va_X (wb g) (wL g) (wxs g) U H ∧ va_Z "SheetMarker" "SIGNS" "[C" (.ref (wsg g)) (wA g) U H ∧ va_T .char (wsg g) 4 sgF (wA g) U H ∧ wb g < wz g ∧ wsg g < wz g ∧
  (∀ q ∈ nestM, va_Nw (.methodLinkNest q.1 q.2.1 q.2.2.1 q.2.2.2) U) ∧ va_Nw (.fieldLinkNest "SheetMarker$Judge" 140 "SheetMarker" "SIGNS" "[C" "SheetMarker") U ∧ va_AO "SheetMarker$Formula" U ∧ va_AO "SheetMarker$Sheet" U
abbrev wtys (g : World) : List (ClassId × FieldType) := [(wc g 0, .int), (wc g 1, .long), (wc g 2, .byte), (wc g 3, .boolean), (wc g 4, .object "SheetMarker$Formula"), (wc g 5, .object "SheetMarker$Sheet")]
abbrev kyl (d : Nat) : Nat := 40 * d
def Cx (μ : MD) (d : Nat) (g : World) (p : Program) (R : Room) (s : State) (m : MethodId) (args : Array Value) (meth : Method) (c : Code) : Prop :=
  p.tables.exec = Jvm.exec ∧ c.code = μ.2.1 ∧ c.maxLocals = μ.2.2.1 ∧ meth.sig.returnType = μ.2.2.2 ∧ s.vm.findClass μ.1.cls = some m.cls ∧ (∀ w ∈ wsG, w.before args s = true) ∧ meth.locks = false ∧ meth.name = μ.1.name ∧
  va_K (wD g) vwCl (wtys g) s ∧ Stat g s s.heap ∧ wz g ≤ s.heap.size ∧ d + 1 ≤ R.frames ∧ kyl (d + 1) ≤ R.locals
def AQ (g : World) (Q : Option Value → Nat → Mem → Prop) : Array Value → State → Outcome → State → Prop := fun _ st oc t => (∃ (r : Option Value) (N' : Nat) (M' : Mem), oc = .returned (r.map (tv (wad g))) ∧ Q r N' M' ∧ Rep g N' M' t.heap) ∧ va_F (wA g) st t
/-- from pc of a method, with these locals, this stack, this memory, with room for d frames more, mc cells, ms slots: it returns, and Q of its answer and of the memory -/
def AW (μ : MD) (d mc ms N pc : Nat) (L : List (Nat × Value)) (S : List Value) (M : Mem) (Q : Option Value → Nat → Mem → Prop) : Prop :=
  ∀ (g : World) (p : Program) (l : Launch) (e : Env) (R : Room) (s : State) (m : MethodId) (args : Array Value) (below : List Frame) (meth : Method) (c : Code) (H : Heap) (locs : List Loc) (cells slots : Nat) (ls : Array Slot),
    Cx μ d g p R s m args meth c → va_S (wA g) s.heap H locs → Rep g N M H → cells + mc ≤ R.cells → slots + ms ≤ R.slots → lv_has ls μ.2.2.1 (L.map (tvL (wad g))) →
    W p l e R s m args below meth c H locs cells slots (MQ below (AQ g Q) args s R.cells R.slots (wA g)) (F0 m pc ls (S.map (tv (wad g))))
/-! the locals -/
def lk (k : Nat) : List (Nat × Value) → Option Value
  | [] => none
  | (j, v) :: l => if j = k then some v else lk k l
def st1 (i : Nat) (v : Value) (L : List (Nat × Value)) : List (Nat × Value) := (i, v) :: L.filter (fun q => !(q.1 == i) && !(q.1 + 1 == i && q.2.category == 2))
def st2 (i : Nat) (v : Value) (L : List (Nat × Value)) : List (Nat × Value) := (i, v) :: L.filter (fun q => !(q.1 == i) && (!(q.1 == i + 1) && !(q.1 + 1 == i && q.2.category == 2)))
theorem lk_mem {k : Nat} {v : Value} : ∀ {L : List (Nat × Value)}, lk k L = some v → (k, v) ∈ L
  | [], h => by cases h
  | (j, w) :: l, h => by
    unfold lk at h
    split at h
    · rename_i e
      cases h
      subst e
      exact List.mem_cons_self
    · exact List.mem_cons_of_mem _ (lk_mem h)
theorem lk_at {a : Nat → Nat} {ls : Array Slot} {n k : Nat} {v : Value} {L : List (Nat × Value)} (hl : lv_has ls n (L.map (tvL a))) (h : lk k L = some v) : ls[k]? = some (.val (tv a v)) :=
  hl.2.2 (k, tv a v) (List.mem_map.mpr ⟨(k, v), lk_mem h, rfl⟩)
theorem st1_map {a : Nat → Nat} {i : Nat} {v : Value} {L : List (Nat × Value)} : (i, tv a v) :: (L.map (tvL a)).filter (fun q => !(q.1 == i) && !(q.1 + 1 == i && q.2.category == 2)) = (st1 i v L).map (tvL a) := by
  unfold st1
  rw [List.map_cons, List.filter_map]
  congr 2
  congr 1
  funext q
  simp [Function.comp, tvL, tv_cat]
theorem st2_map {a : Nat → Nat} {i : Nat} {v : Value} {L : List (Nat × Value)} : (i, tv a v) :: (L.map (tvL a)).filter (fun q => !(q.1 == i) && (!(q.1 == i + 1) && !(q.1 + 1 == i && q.2.category == 2))) = (st2 i v L).map (tvL a) := by
  unfold st2
  rw [List.map_cons, List.filter_map]
  congr 2
  congr 1
  funext q
  simp [Function.comp, tvL, tv_cat]
theorem args_map {a : Nat → Nat} : ∀ {i : Nat} {vs : List Value}, lv_args i (vs.map (tv a)) = (lv_args i vs).map (tvL a)
  | _, [] => rfl
  | i, v :: vs => by
    rw [List.map_cons, lv_args, lv_args, List.map_cons, tv_cat, args_map]
/-- fewer locals, in another order -/
theorem AW.sub {μ : MD} {d mc ms N pc : Nat} {L L' : List (Nat × Value)} {S : List Value} {M : Mem} {Q : Option Value → Nat → Mem → Prop} (h : L'.map (fun q => lk q.1 L) = L'.map (fun q => some q.2)) (k : AW μ d mc ms N pc L' S M Q) : AW μ d mc ms N pc L S M Q := by
  intro g p l e R s m args below meth c H locs cells slots ls C hS hR hc hs hl
  refine k g p l e R s m args below meth c H locs cells slots ls C hS hR hc hs ⟨hl.1, hl.2.1, fun q hq => ?_⟩
  obtain ⟨x, hx, rfl⟩ := List.mem_map.mp hq
  have h1 : lk x.1 L = some x.2 := (List.map_inj_left.mp h) x hx
  exact lk_at hl h1
theorem AW.mono {μ : MD} {d mc ms N pc : Nat} {L : List (Nat × Value)} {S : List Value} {M : Mem} {Q Q' : Option Value → Nat → Mem → Prop} (h : ∀ r N' M', Q' r N' M' → Q r N' M') (k : AW μ d mc ms N pc L S M Q') : AW μ d mc ms N pc L S M Q := by
  intro g p l e R s m args below meth c H locs cells slots ls C hS hR hc hs hl T hT X
  obtain ⟨t, a1, o, b1, b2, ⟨⟨r, N', M', c1, c2, c3⟩, c4⟩, b4⟩ := k g p l e R s m args below meth c H locs cells slots ls C hS hR hc hs hl T hT X
  exact ⟨t, a1, o, b1, b2, ⟨⟨r, N', M', c1, h r N' M' c2, c3⟩, c4⟩, b4⟩
theorem AW.rm {μ : MD} {d mc ms mc' ms' N pc : Nat} {L : List (Nat × Value)} {S : List Value} {M : Mem} {Q : Option Value → Nat → Mem → Prop} (h1 : mc' ≤ mc) (h2 : ms' ≤ ms) (k : AW μ d mc' ms' N pc L S M Q) : AW μ d mc ms N pc L S M Q := by
  intro g p l e R s m args below meth c H locs cells slots ls C hS hR hc hs hl
  exact k g p l e R s m args below meth c H locs cells slots ls C hS hR (by omega) (by omega) hl
theorem AW.dp {μ : MD} {d d' mc ms N pc : Nat} {L : List (Nat × Value)} {S : List Value} {M : Mem} {Q : Option Value → Nat → Mem → Prop} (h1 : d' ≤ d) (k : AW μ d' mc ms N pc L S M Q) : AW μ d mc ms N pc L S M Q := by
  intro g p l e R s m args below meth c H locs cells slots ls C hS hR hc hs hl
  obtain ⟨a1, a2, a3, a4, a5, a6, a7, a8, a9, a10, a11, a12, a13⟩ := C
  exact k g p l e R s m args below meth c H locs cells slots ls ⟨a1, a2, a3, a4, a5, a6, a7, a8, a9, a10, a11, by omega, by unfold kyl at *; omega⟩ hS hR hc hs hl
end
section
section ROWS
variable {μ : MD} {d mc ms N pc : Nat} {L : List (Nat × Value)} {S : List Value} {M : Mem} {Q : Option Value → Nat → Mem → Prop}
theorem a_iconst {n : Int} {v : Int32} (hdg : decode μ.2.1 pc = .ok (.iconst n, 1)) (hv : Int32.ofInt n = v) (kk : AW μ d mc ms N (pc + 1) L (.int v :: S) M Q) : AW μ d mc ms N pc L S M Q := by
  intro g p l e R s m args below meth c H locs cells slots ls C hS hR hc hs hl
  exact lv_iconst C.1 C.2.1 hdg hv (kk g p l e R s m args below meth c H locs cells slots ls C hS hR hc hs hl)
theorem a_bipush {n : Int} {v : Int32} (hdg : decode μ.2.1 pc = .ok (.bipush n, 2)) (hv : (Int8.ofInt n).toInt32 = v) (kk : AW μ d mc ms N (pc + 2) L (.int v :: S) M Q) : AW μ d mc ms N pc L S M Q := by
  intro g p l e R s m args below meth c H locs cells slots ls C hS hR hc hs hl
  exact lv_bipush C.1 C.2.1 hdg hv (kk g p l e R s m args below meth c H locs cells slots ls C hS hR hc hs hl)
theorem a_sipush {n : Int} {v : Int32} (hdg : decode μ.2.1 pc = .ok (.sipush n, 3)) (hv : (Int16.ofInt n).toInt32 = v) (kk : AW μ d mc ms N (pc + 3) L (.int v :: S) M Q) : AW μ d mc ms N pc L S M Q := by
  intro g p l e R s m args below meth c H locs cells slots ls C hS hR hc hs hl
  exact lv_sipush C.1 C.2.1 hdg hv (kk g p l e R s m args below meth c H locs cells slots ls C hS hR hc hs hl)
theorem a_lconst {n : Fin 2} {v : Int64} (hdg : decode μ.2.1 pc = .ok (.lconst n, 1)) (hv : Int64.ofNat (n : Nat) = v) (kk : AW μ d mc ms N (pc + 1) L (.long v :: S) M Q) : AW μ d mc ms N pc L S M Q := by
  intro g p l e R s m args below meth c H locs cells slots ls C hS hR hc hs hl
  exact lv_lconst C.1 C.2.1 hdg hv (kk g p l e R s m args below meth c H locs cells slots ls C hS hR hc hs hl)
theorem a_null (hdg : decode μ.2.1 pc = .ok (.aconst_null, 1)) (kk : AW μ d mc ms N (pc + 1) L (.null :: S) M Q) : AW μ d mc ms N pc L S M Q := by
  intro g p l e R s m args below meth c H locs cells slots ls C hS hR hc hs hl
  exact lv_null C.1 C.2.1 hdg (kk g p l e R s m args below meth c H locs cells slots ls C hS hR hc hs hl)
theorem a_iload_n {k : Fin 4} {x : Int32} (hdg : decode μ.2.1 pc = .ok (.iload_n k, 1)) (h : lk k L = some (.int x)) (kk : AW μ d mc ms N (pc + 1) L (.int x :: S) M Q) : AW μ d mc ms N pc L S M Q := by
  intro g p l e R s m args below meth c H locs cells slots ls C hS hR hc hs hl
  exact lv_iload_n C.1 C.2.1 hdg rfl (lk_at hl h) (kk g p l e R s m args below meth c H locs cells slots ls C hS hR hc hs hl)
theorem a_iload {i : Nat} {x : Int32} (hdg : decode μ.2.1 pc = .ok (.iload i, 2)) (h : lk i L = some (.int x)) (kk : AW μ d mc ms N (pc + 2) L (.int x :: S) M Q) : AW μ d mc ms N pc L S M Q := by
  intro g p l e R s m args below meth c H locs cells slots ls C hS hR hc hs hl
  exact lv_iload C.1 C.2.1 hdg (lk_at hl h) (kk g p l e R s m args below meth c H locs cells slots ls C hS hR hc hs hl)
theorem a_lload_n {k : Fin 4} {x : Int64} (hdg : decode μ.2.1 pc = .ok (.lload_n k, 1)) (h : lk k L = some (.long x)) (kk : AW μ d mc ms N (pc + 1) L (.long x :: S) M Q) : AW μ d mc ms N pc L S M Q := by
  intro g p l e R s m args below meth c H locs cells slots ls C hS hR hc hs hl
  exact lv_lload_n C.1 C.2.1 hdg rfl (lk_at hl h) (kk g p l e R s m args below meth c H locs cells slots ls C hS hR hc hs hl)
theorem a_lload {i : Nat} {x : Int64} (hdg : decode μ.2.1 pc = .ok (.lload i, 2)) (h : lk i L = some (.long x)) (kk : AW μ d mc ms N (pc + 2) L (.long x :: S) M Q) : AW μ d mc ms N pc L S M Q := by
  intro g p l e R s m args below meth c H locs cells slots ls C hS hR hc hs hl
  exact lv_lload C.1 C.2.1 hdg (lk_at hl h) (kk g p l e R s m args below meth c H locs cells slots ls C hS hR hc hs hl)
theorem a_aload_n {k : Fin 4} {x : Nat} (hdg : decode μ.2.1 pc = .ok (.aload_n k, 1)) (h : lk k L = some (.ref x)) (kk : AW μ d mc ms N (pc + 1) L (.ref x :: S) M Q) : AW μ d mc ms N pc L S M Q := by
  intro g p l e R s m args below meth c H locs cells slots ls C hS hR hc hs hl
  exact lv_aload_n C.1 C.2.1 hdg rfl (lk_at hl h) (kk g p l e R s m args below meth c H locs cells slots ls C hS hR hc hs hl)
theorem a_aload {i : Nat} {x : Nat} (hdg : decode μ.2.1 pc = .ok (.aload i, 2)) (h : lk i L = some (.ref x)) (kk : AW μ d mc ms N (pc + 2) L (.ref x :: S) M Q) : AW μ d mc ms N pc L S M Q := by
  intro g p l e R s m args below meth c H locs cells slots ls C hS hR hc hs hl
  exact lv_aload C.1 C.2.1 hdg (lk_at hl h) (kk g p l e R s m args below meth c H locs cells slots ls C hS hR hc hs hl)
theorem a_aload_nN {k : Fin 4} (hdg : decode μ.2.1 pc = .ok (.aload_n k, 1)) (h : lk k L = some .null) (kk : AW μ d mc ms N (pc + 1) L (.null :: S) M Q) : AW μ d mc ms N pc L S M Q := by
  intro g p l e R s m args below meth c H locs cells slots ls C hS hR hc hs hl
  exact lv_aload_nN C.1 C.2.1 hdg rfl (lk_at hl h) (kk g p l e R s m args below meth c H locs cells slots ls C hS hR hc hs hl)
theorem a_aloadN {i : Nat} (hdg : decode μ.2.1 pc = .ok (.aload i, 2)) (h : lk i L = some .null) (kk : AW μ d mc ms N (pc + 2) L (.null :: S) M Q) : AW μ d mc ms N pc L S M Q := by
  intro g p l e R s m args below meth c H locs cells slots ls C hS hR hc hs hl
  exact lv_aloadN C.1 C.2.1 hdg (lk_at hl h) (kk g p l e R s m args below meth c H locs cells slots ls C hS hR hc hs hl)
theorem a_istore_n {k : Fin 4} {x : Int32} (hdg : decode μ.2.1 pc = .ok (.istore_n k, 1)) (hn : (k : Nat) < μ.2.2.1) (kk : AW μ d mc ms N (pc + 1) (st1 (k : Nat) (.int x) L) S M Q) : AW μ d mc ms N pc L (.int x :: S) M Q := by
  intro g p l e R s m args below meth c H locs cells slots ls C hS hR hc hs hl
  exact lv_istore_n C.1 C.2.1 hdg rfl hl hn (st1_map (a := wad g) (i := (k : Nat)) (v := .int x) (L := L)) (fun ls hl => kk g p l e R s m args below meth c H locs cells slots ls C hS hR hc hs hl)
theorem a_istore {i : Nat} {x : Int32} (hdg : decode μ.2.1 pc = .ok (.istore i, 2)) (hn : i < μ.2.2.1) (kk : AW μ d mc ms N (pc + 2) (st1 i (.int x) L) S M Q) : AW μ d mc ms N pc L (.int x :: S) M Q := by
  intro g p l e R s m args below meth c H locs cells slots ls C hS hR hc hs hl
  exact lv_istore C.1 C.2.1 hdg hl hn (st1_map (a := wad g) (i := i) (v := .int x) (L := L)) (fun ls hl => kk g p l e R s m args below meth c H locs cells slots ls C hS hR hc hs hl)
theorem a_lstore_n {k : Fin 4} {x : Int64} (hdg : decode μ.2.1 pc = .ok (.lstore_n k, 1)) (hn : (k : Nat) + 1 < μ.2.2.1) (kk : AW μ d mc ms N (pc + 1) (st2 (k : Nat) (.long x) L) S M Q) : AW μ d mc ms N pc L (.long x :: S) M Q := by
  intro g p l e R s m args below meth c H locs cells slots ls C hS hR hc hs hl
  exact lv_lstore_n C.1 C.2.1 hdg rfl hl hn (st2_map (a := wad g) (i := (k : Nat)) (v := .long x) (L := L)) (fun ls hl => kk g p l e R s m args below meth c H locs cells slots ls C hS hR hc hs hl)
theorem a_lstore {i : Nat} {x : Int64} (hdg : decode μ.2.1 pc = .ok (.lstore i, 2)) (hn : i + 1 < μ.2.2.1) (kk : AW μ d mc ms N (pc + 2) (st2 i (.long x) L) S M Q) : AW μ d mc ms N pc L (.long x :: S) M Q := by
  intro g p l e R s m args below meth c H locs cells slots ls C hS hR hc hs hl
  exact lv_lstore C.1 C.2.1 hdg hl hn (st2_map (a := wad g) (i := i) (v := .long x) (L := L)) (fun ls hl => kk g p l e R s m args below meth c H locs cells slots ls C hS hR hc hs hl)
theorem a_astore_n {k : Fin 4} {x : Nat} (hdg : decode μ.2.1 pc = .ok (.astore_n k, 1)) (hn : (k : Nat) < μ.2.2.1) (kk : AW μ d mc ms N (pc + 1) (st1 (k : Nat) (.ref x) L) S M Q) : AW μ d mc ms N pc L (.ref x :: S) M Q := by
  intro g p l e R s m args below meth c H locs cells slots ls C hS hR hc hs hl
  exact lv_astore_n C.1 C.2.1 hdg rfl hl hn (st1_map (a := wad g) (i := (k : Nat)) (v := .ref x) (L := L)) (fun ls hl => kk g p l e R s m args below meth c H locs cells slots ls C hS hR hc hs hl)
theorem a_astore {i : Nat} {x : Nat} (hdg : decode μ.2.1 pc = .ok (.astore i, 2)) (hn : i < μ.2.2.1) (kk : AW μ d mc ms N (pc + 2) (st1 i (.ref x) L) S M Q) : AW μ d mc ms N pc L (.ref x :: S) M Q := by
  intro g p l e R s m args below meth c H locs cells slots ls C hS hR hc hs hl
  exact lv_astore C.1 C.2.1 hdg hl hn (st1_map (a := wad g) (i := i) (v := .ref x) (L := L)) (fun ls hl => kk g p l e R s m args below meth c H locs cells slots ls C hS hR hc hs hl)
theorem a_astore_nN {k : Fin 4} (hdg : decode μ.2.1 pc = .ok (.astore_n k, 1)) (hn : (k : Nat) < μ.2.2.1) (kk : AW μ d mc ms N (pc + 1) (st1 (k : Nat) (.null) L) S M Q) : AW μ d mc ms N pc L (.null :: S) M Q := by
  intro g p l e R s m args below meth c H locs cells slots ls C hS hR hc hs hl
  exact lv_astore_nN C.1 C.2.1 hdg rfl hl hn (st1_map (a := wad g) (i := (k : Nat)) (v := .null) (L := L)) (fun ls hl => kk g p l e R s m args below meth c H locs cells slots ls C hS hR hc hs hl)
theorem a_astoreN {i : Nat} (hdg : decode μ.2.1 pc = .ok (.astore i, 2)) (hn : i < μ.2.2.1) (kk : AW μ d mc ms N (pc + 2) (st1 i (.null) L) S M Q) : AW μ d mc ms N pc L (.null :: S) M Q := by
  intro g p l e R s m args below meth c H locs cells slots ls C hS hR hc hs hl
  exact lv_astoreN C.1 C.2.1 hdg hl hn (st1_map (a := wad g) (i := i) (v := .null) (L := L)) (fun ls hl => kk g p l e R s m args below meth c H locs cells slots ls C hS hR hc hs hl)
theorem a_iinc {i : Nat} {n : Int} {x v : Int32} (hdg : decode μ.2.1 pc = .ok (.iinc i n, 3)) (h : lk i L = some (.int x)) (hv : x + Int32.ofInt n = v) (hn : i < μ.2.2.1) (kk : AW μ d mc ms N (pc + 3) (st1 i (.int v) L) S M Q) : AW μ d mc ms N pc L S M Q := by
  intro g p l e R s m args below meth c H locs cells slots ls C hS hR hc hs hl
  obtain ⟨j, hj⟩ := List.getElem?_of_mem (List.mem_map.mpr ⟨(i, Value.int x), lk_mem h, rfl⟩ : (i, Value.int x) ∈ L.map (tvL (wad g)))
  exact lv_iinc C.1 C.2.1 hdg hl hj hv hn (st1_map (a := wad g) (i := i) (v := .int v) (L := L)) (fun ls hl => kk g p l e R s m args below meth c H locs cells slots ls C hS hR hc hs hl)
theorem a_iadd {x y : Int32} (hdg : decode μ.2.1 pc = .ok (.iadd, 1)) (kk : AW μ d mc ms N (pc + 1) L (.int (x + y) :: S) M Q) : AW μ d mc ms N pc L (.int y :: .int x :: S) M Q := by
  intro g p l e R s m args below meth c H locs cells slots ls C hS hR hc hs hl
  exact lv_iadd C.1 C.2.1 hdg (kk g p l e R s m args below meth c H locs cells slots ls C hS hR hc hs hl)
theorem a_isub {x y : Int32} (hdg : decode μ.2.1 pc = .ok (.isub, 1)) (kk : AW μ d mc ms N (pc + 1) L (.int (x - y) :: S) M Q) : AW μ d mc ms N pc L (.int y :: .int x :: S) M Q := by
  intro g p l e R s m args below meth c H locs cells slots ls C hS hR hc hs hl
  exact lv_isub C.1 C.2.1 hdg (kk g p l e R s m args below meth c H locs cells slots ls C hS hR hc hs hl)
theorem a_imul {x y : Int32} (hdg : decode μ.2.1 pc = .ok (.imul, 1)) (kk : AW μ d mc ms N (pc + 1) L (.int (x * y) :: S) M Q) : AW μ d mc ms N pc L (.int y :: .int x :: S) M Q := by
  intro g p l e R s m args below meth c H locs cells slots ls C hS hR hc hs hl
  exact lv_imul C.1 C.2.1 hdg (kk g p l e R s m args below meth c H locs cells slots ls C hS hR hc hs hl)
theorem a_iand {x y : Int32} (hdg : decode μ.2.1 pc = .ok (.iand, 1)) (kk : AW μ d mc ms N (pc + 1) L (.int (x &&& y) :: S) M Q) : AW μ d mc ms N pc L (.int y :: .int x :: S) M Q := by
  intro g p l e R s m args below meth c H locs cells slots ls C hS hR hc hs hl
  exact lv_iand C.1 C.2.1 hdg (kk g p l e R s m args below meth c H locs cells slots ls C hS hR hc hs hl)
theorem a_ior {x y : Int32} (hdg : decode μ.2.1 pc = .ok (.ior, 1)) (kk : AW μ d mc ms N (pc + 1) L (.int (x ||| y) :: S) M Q) : AW μ d mc ms N pc L (.int y :: .int x :: S) M Q := by
  intro g p l e R s m args below meth c H locs cells slots ls C hS hR hc hs hl
  exact lv_ior C.1 C.2.1 hdg (kk g p l e R s m args below meth c H locs cells slots ls C hS hR hc hs hl)
theorem a_ixor {x y : Int32} (hdg : decode μ.2.1 pc = .ok (.ixor, 1)) (kk : AW μ d mc ms N (pc + 1) L (.int (x ^^^ y) :: S) M Q) : AW μ d mc ms N pc L (.int y :: .int x :: S) M Q := by
  intro g p l e R s m args below meth c H locs cells slots ls C hS hR hc hs hl
  exact lv_ixor C.1 C.2.1 hdg (kk g p l e R s m args below meth c H locs cells slots ls C hS hR hc hs hl)
theorem a_ladd {x y : Int64} (hdg : decode μ.2.1 pc = .ok (.ladd, 1)) (kk : AW μ d mc ms N (pc + 1) L (.long (x + y) :: S) M Q) : AW μ d mc ms N pc L (.long y :: .long x :: S) M Q := by
  intro g p l e R s m args below meth c H locs cells slots ls C hS hR hc hs hl
  exact lv_ladd C.1 C.2.1 hdg (kk g p l e R s m args below meth c H locs cells slots ls C hS hR hc hs hl)
theorem a_lsub {x y : Int64} (hdg : decode μ.2.1 pc = .ok (.lsub, 1)) (kk : AW μ d mc ms N (pc + 1) L (.long (x - y) :: S) M Q) : AW μ d mc ms N pc L (.long y :: .long x :: S) M Q := by
  intro g p l e R s m args below meth c H locs cells slots ls C hS hR hc hs hl
  exact lv_lsub C.1 C.2.1 hdg (kk g p l e R s m args below meth c H locs cells slots ls C hS hR hc hs hl)
theorem a_lmul {x y : Int64} (hdg : decode μ.2.1 pc = .ok (.lmul, 1)) (kk : AW μ d mc ms N (pc + 1) L (.long (x * y) :: S) M Q) : AW μ d mc ms N pc L (.long y :: .long x :: S) M Q := by
  intro g p l e R s m args below meth c H locs cells slots ls C hS hR hc hs hl
  exact lv_lmul C.1 C.2.1 hdg (kk g p l e R s m args below meth c H locs cells slots ls C hS hR hc hs hl)
theorem a_land {x y : Int64} (hdg : decode μ.2.1 pc = .ok (.land, 1)) (kk : AW μ d mc ms N (pc + 1) L (.long (x &&& y) :: S) M Q) : AW μ d mc ms N pc L (.long y :: .long x :: S) M Q := by
  intro g p l e R s m args below meth c H locs cells slots ls C hS hR hc hs hl
  exact lv_land C.1 C.2.1 hdg (kk g p l e R s m args below meth c H locs cells slots ls C hS hR hc hs hl)
theorem a_lor {x y : Int64} (hdg : decode μ.2.1 pc = .ok (.lor, 1)) (kk : AW μ d mc ms N (pc + 1) L (.long (x ||| y) :: S) M Q) : AW μ d mc ms N pc L (.long y :: .long x :: S) M Q := by
  intro g p l e R s m args below meth c H locs cells slots ls C hS hR hc hs hl
  exact lv_lor C.1 C.2.1 hdg (kk g p l e R s m args below meth c H locs cells slots ls C hS hR hc hs hl)
theorem a_lxor {x y : Int64} (hdg : decode μ.2.1 pc = .ok (.lxor, 1)) (kk : AW μ d mc ms N (pc + 1) L (.long (x ^^^ y) :: S) M Q) : AW μ d mc ms N pc L (.long y :: .long x :: S) M Q := by
  intro g p l e R s m args below meth c H locs cells slots ls C hS hR hc hs hl
  exact lv_lxor C.1 C.2.1 hdg (kk g p l e R s m args below meth c H locs cells slots ls C hS hR hc hs hl)
theorem a_idiv {x y : Int32} (hdg : decode μ.2.1 pc = .ok (.idiv, 1)) (hne : ¬ y = 0) (kk : AW μ d mc ms N (pc + 1) L (.int (x / y) :: S) M Q) : AW μ d mc ms N pc L (.int y :: .int x :: S) M Q := by
  intro g p l e R s m args below meth c H locs cells slots ls C hS hR hc hs hl
  exact lv_idiv C.1 C.2.1 hdg hne (kk g p l e R s m args below meth c H locs cells slots ls C hS hR hc hs hl)
theorem a_irem {x y : Int32} (hdg : decode μ.2.1 pc = .ok (.irem, 1)) (hne : ¬ y = 0) (kk : AW μ d mc ms N (pc + 1) L (.int (x - x / y * y) :: S) M Q) : AW μ d mc ms N pc L (.int y :: .int x :: S) M Q := by
  intro g p l e R s m args below meth c H locs cells slots ls C hS hR hc hs hl
  exact lv_irem C.1 C.2.1 hdg hne (kk g p l e R s m args below meth c H locs cells slots ls C hS hR hc hs hl)
theorem a_ldiv {x y : Int64} (hdg : decode μ.2.1 pc = .ok (.ldiv, 1)) (hne : ¬ y = 0) (kk : AW μ d mc ms N (pc + 1) L (.long (x / y) :: S) M Q) : AW μ d mc ms N pc L (.long y :: .long x :: S) M Q := by
  intro g p l e R s m args below meth c H locs cells slots ls C hS hR hc hs hl
  exact lv_ldiv C.1 C.2.1 hdg hne (kk g p l e R s m args below meth c H locs cells slots ls C hS hR hc hs hl)
theorem a_lrem {x y : Int64} (hdg : decode μ.2.1 pc = .ok (.lrem, 1)) (hne : ¬ y = 0) (kk : AW μ d mc ms N (pc + 1) L (.long (x - x / y * y) :: S) M Q) : AW μ d mc ms N pc L (.long y :: .long x :: S) M Q := by
  intro g p l e R s m args below meth c H locs cells slots ls C hS hR hc hs hl
  exact lv_lrem C.1 C.2.1 hdg hne (kk g p l e R s m args below meth c H locs cells slots ls C hS hR hc hs hl)
theorem a_lneg {x : Int64} (hdg : decode μ.2.1 pc = .ok (.lneg, 1)) (kk : AW μ d mc ms N (pc + 1) L (.long (-x) :: S) M Q) : AW μ d mc ms N pc L (.long x :: S) M Q := by
  intro g p l e R s m args below meth c H locs cells slots ls C hS hR hc hs hl
  exact lv_lneg C.1 C.2.1 hdg (kk g p l e R s m args below meth c H locs cells slots ls C hS hR hc hs hl)
theorem a_ishl {x y : Int32} (hdg : decode μ.2.1 pc = .ok (.ishl, 1)) (kk : AW μ d mc ms N (pc + 1) L (.int (x <<< (y &&& 31)) :: S) M Q) : AW μ d mc ms N pc L (.int y :: .int x :: S) M Q := by
  intro g p l e R s m args below meth c H locs cells slots ls C hS hR hc hs hl
  exact lv_ishl C.1 C.2.1 hdg (kk g p l e R s m args below meth c H locs cells slots ls C hS hR hc hs hl)
theorem a_ishr {x y : Int32} (hdg : decode μ.2.1 pc = .ok (.ishr, 1)) (kk : AW μ d mc ms N (pc + 1) L (.int (x >>> (y &&& 31)) :: S) M Q) : AW μ d mc ms N pc L (.int y :: .int x :: S) M Q := by
  intro g p l e R s m args below meth c H locs cells slots ls C hS hR hc hs hl
  exact lv_ishr C.1 C.2.1 hdg (kk g p l e R s m args below meth c H locs cells slots ls C hS hR hc hs hl)
theorem a_iushr {x y v : Int32} (hdg : decode μ.2.1 pc = .ok (.iushr, 1)) (hv : (x.toUInt32 >>> (y.toUInt32 &&& Int32.toUInt32 31)).toInt32 = v) (kk : AW μ d mc ms N (pc + 1) L (.int v :: S) M Q) : AW μ d mc ms N pc L (.int y :: .int x :: S) M Q := by
  intro g p l e R s m args below meth c H locs cells slots ls C hS hR hc hs hl
  exact lv_iushr C.1 C.2.1 hdg hv (kk g p l e R s m args below meth c H locs cells slots ls C hS hR hc hs hl)
theorem a_lushr {x v : Int64} {y : Int32} (hdg : decode μ.2.1 pc = .ok (.lushr, 1)) (hv : (x.toUInt64 >>> (y.toInt64.toUInt64 &&& Int64.toUInt64 63)).toInt64 = v) (kk : AW μ d mc ms N (pc + 1) L (.long v :: S) M Q) : AW μ d mc ms N pc L (.int y :: .long x :: S) M Q := by
  intro g p l e R s m args below meth c H locs cells slots ls C hS hR hc hs hl
  exact lv_lushr C.1 C.2.1 hdg hv (kk g p l e R s m args below meth c H locs cells slots ls C hS hR hc hs hl)
theorem a_lshl {x v : Int64} {y : Int32} (hdg : decode μ.2.1 pc = .ok (.lshl, 1)) (hv : x <<< (y.toInt64 &&& 63) = v) (kk : AW μ d mc ms N (pc + 1) L (.long v :: S) M Q) : AW μ d mc ms N pc L (.int y :: .long x :: S) M Q := by
  intro g p l e R s m args below meth c H locs cells slots ls C hS hR hc hs hl
  exact lv_lshl C.1 C.2.1 hdg hv (kk g p l e R s m args below meth c H locs cells slots ls C hS hR hc hs hl)
theorem a_lshr {x v : Int64} {y : Int32} (hdg : decode μ.2.1 pc = .ok (.lshr, 1)) (hv : x >>> (y.toInt64 &&& 63) = v) (kk : AW μ d mc ms N (pc + 1) L (.long v :: S) M Q) : AW μ d mc ms N pc L (.int y :: .long x :: S) M Q := by
  intro g p l e R s m args below meth c H locs cells slots ls C hS hR hc hs hl
  exact lv_lshr C.1 C.2.1 hdg hv (kk g p l e R s m args below meth c H locs cells slots ls C hS hR hc hs hl)
theorem a_i2l {x : Int32} {v : Int64} (hdg : decode μ.2.1 pc = .ok (.i2l, 1)) (hv : x.toInt64 = v) (kk : AW μ d mc ms N (pc + 1) L (.long v :: S) M Q) : AW μ d mc ms N pc L (.int x :: S) M Q := by
  intro g p l e R s m args below meth c H locs cells slots ls C hS hR hc hs hl
  exact lv_i2l C.1 C.2.1 hdg hv (kk g p l e R s m args below meth c H locs cells slots ls C hS hR hc hs hl)
theorem a_l2i {x : Int64} {v : Int32} (hdg : decode μ.2.1 pc = .ok (.l2i, 1)) (hv : x.toInt32 = v) (kk : AW μ d mc ms N (pc + 1) L (.int v :: S) M Q) : AW μ d mc ms N pc L (.long x :: S) M Q := by
  intro g p l e R s m args below meth c H locs cells slots ls C hS hR hc hs hl
  exact lv_l2i C.1 C.2.1 hdg hv (kk g p l e R s m args below meth c H locs cells slots ls C hS hR hc hs hl)
theorem a_i2b {x v : Int32} (hdg : decode μ.2.1 pc = .ok (.i2b, 1)) (hv : x.toInt8.toInt32 = v) (kk : AW μ d mc ms N (pc + 1) L (.int v :: S) M Q) : AW μ d mc ms N pc L (.int x :: S) M Q := by
  intro g p l e R s m args below meth c H locs cells slots ls C hS hR hc hs hl
  exact lv_i2b C.1 C.2.1 hdg hv (kk g p l e R s m args below meth c H locs cells slots ls C hS hR hc hs hl)
theorem a_lcmp {x y : Int64} (hdg : decode μ.2.1 pc = .ok (.lcmp, 1)) (kk : AW μ d mc ms N (pc + 1) L (.int (lg_cmp x y) :: S) M Q) : AW μ d mc ms N pc L (.long y :: .long x :: S) M Q := by
  intro g p l e R s m args below meth c H locs cells slots ls C hS hR hc hs hl
  exact W.lcmp C.1 C.2.1 hdg (kk g p l e R s m args below meth c H locs cells slots ls C hS hR hc hs hl)
theorem a_dup {v : Value} (hdg : decode μ.2.1 pc = .ok (.dup, 1)) (hv : v.category = 1) (kk : AW μ d mc ms N (pc + 1) L (v :: v :: S) M Q) : AW μ d mc ms N pc L (v :: S) M Q := by
  intro g p l e R s m args below meth c H locs cells slots ls C hS hR hc hs hl
  exact lv_dup C.1 C.2.1 hdg ((tv_cat _ v).trans hv) (kk g p l e R s m args below meth c H locs cells slots ls C hS hR hc hs hl)
theorem a_pop {v : Value} (hdg : decode μ.2.1 pc = .ok (.pop, 1)) (hv : v.category = 1) (kk : AW μ d mc ms N (pc + 1) L S M Q) : AW μ d mc ms N pc L (v :: S) M Q := by
  intro g p l e R s m args below meth c H locs cells slots ls C hS hR hc hs hl
  exact lv_pop C.1 C.2.1 hdg ((tv_cat _ v).trans hv) (kk g p l e R s m args below meth c H locs cells slots ls C hS hR hc hs hl)
theorem a_if_eq {x : Int32} {off : Int} {tgt : Nat} (hdg : decode μ.2.1 pc = .ok (.ifCond .eq off, 3)) (ht : (pc : Int) + off = (tgt : Int)) (kt : x = 0 → AW μ d mc ms N tgt L S M Q) (kf : ¬ (x = 0) → AW μ d mc ms N (pc + 3) L S M Q) : AW μ d mc ms N pc L (.int x :: S) M Q := by
  intro g p l e R s m args below meth c H locs cells slots ls C hS hR hc hs hl
  exact lv_if_eq C.1 C.2.1 hdg ht (fun h => kt (by exact h) g p l e R s m args below meth c H locs cells slots ls C hS hR hc hs hl) (fun h => kf (by exact h) g p l e R s m args below meth c H locs cells slots ls C hS hR hc hs hl)
theorem a_icmp_eq {x y : Int32} {off : Int} {tgt : Nat} (hdg : decode μ.2.1 pc = .ok (.if_icmp .eq off, 3)) (ht : (pc : Int) + off = (tgt : Int)) (kt : x = y → AW μ d mc ms N tgt L S M Q) (kf : ¬ (x = y) → AW μ d mc ms N (pc + 3) L S M Q) : AW μ d mc ms N pc L (.int y :: .int x :: S) M Q := by
  intro g p l e R s m args below meth c H locs cells slots ls C hS hR hc hs hl
  exact lv_icmp_eq C.1 C.2.1 hdg ht (fun h => kt (by exact h) g p l e R s m args below meth c H locs cells slots ls C hS hR hc hs hl) (fun h => kf (by exact h) g p l e R s m args below meth c H locs cells slots ls C hS hR hc hs hl)
theorem a_if_ne {x : Int32} {off : Int} {tgt : Nat} (hdg : decode μ.2.1 pc = .ok (.ifCond .ne off, 3)) (ht : (pc : Int) + off = (tgt : Int)) (kt : ¬ x = 0 → AW μ d mc ms N tgt L S M Q) (kf : x = 0 → AW μ d mc ms N (pc + 3) L S M Q) : AW μ d mc ms N pc L (.int x :: S) M Q := by
  intro g p l e R s m args below meth c H locs cells slots ls C hS hR hc hs hl
  exact lv_if_ne C.1 C.2.1 hdg ht (fun h => kt (by exact h) g p l e R s m args below meth c H locs cells slots ls C hS hR hc hs hl) (fun h => kf (by exact h) g p l e R s m args below meth c H locs cells slots ls C hS hR hc hs hl)
theorem a_icmp_ne {x y : Int32} {off : Int} {tgt : Nat} (hdg : decode μ.2.1 pc = .ok (.if_icmp .ne off, 3)) (ht : (pc : Int) + off = (tgt : Int)) (kt : ¬ x = y → AW μ d mc ms N tgt L S M Q) (kf : x = y → AW μ d mc ms N (pc + 3) L S M Q) : AW μ d mc ms N pc L (.int y :: .int x :: S) M Q := by
  intro g p l e R s m args below meth c H locs cells slots ls C hS hR hc hs hl
  exact lv_icmp_ne C.1 C.2.1 hdg ht (fun h => kt (by exact h) g p l e R s m args below meth c H locs cells slots ls C hS hR hc hs hl) (fun h => kf (by exact h) g p l e R s m args below meth c H locs cells slots ls C hS hR hc hs hl)
theorem a_if_lt {x : Int32} {off : Int} {tgt : Nat} (hdg : decode μ.2.1 pc = .ok (.ifCond .lt off, 3)) (ht : (pc : Int) + off = (tgt : Int)) (kt : x < 0 → AW μ d mc ms N tgt L S M Q) (kf : ¬ (x < 0) → AW μ d mc ms N (pc + 3) L S M Q) : AW μ d mc ms N pc L (.int x :: S) M Q := by
  intro g p l e R s m args below meth c H locs cells slots ls C hS hR hc hs hl
  exact lv_if_lt C.1 C.2.1 hdg ht (fun h => kt (by exact h) g p l e R s m args below meth c H locs cells slots ls C hS hR hc hs hl) (fun h => kf (by exact h) g p l e R s m args below meth c H locs cells slots ls C hS hR hc hs hl)
theorem a_icmp_lt {x y : Int32} {off : Int} {tgt : Nat} (hdg : decode μ.2.1 pc = .ok (.if_icmp .lt off, 3)) (ht : (pc : Int) + off = (tgt : Int)) (kt : x < y → AW μ d mc ms N tgt L S M Q) (kf : ¬ (x < y) → AW μ d mc ms N (pc + 3) L S M Q) : AW μ d mc ms N pc L (.int y :: .int x :: S) M Q := by
  intro g p l e R s m args below meth c H locs cells slots ls C hS hR hc hs hl
  exact lv_icmp_lt C.1 C.2.1 hdg ht (fun h => kt (by exact h) g p l e R s m args below meth c H locs cells slots ls C hS hR hc hs hl) (fun h => kf (by exact h) g p l e R s m args below meth c H locs cells slots ls C hS hR hc hs hl)
theorem a_if_ge {x : Int32} {off : Int} {tgt : Nat} (hdg : decode μ.2.1 pc = .ok (.ifCond .ge off, 3)) (ht : (pc : Int) + off = (tgt : Int)) (kt : 0 ≤ x → AW μ d mc ms N tgt L S M Q) (kf : ¬ (0 ≤ x) → AW μ d mc ms N (pc + 3) L S M Q) : AW μ d mc ms N pc L (.int x :: S) M Q := by
  intro g p l e R s m args below meth c H locs cells slots ls C hS hR hc hs hl
  exact lv_if_ge C.1 C.2.1 hdg ht (fun h => kt (by exact h) g p l e R s m args below meth c H locs cells slots ls C hS hR hc hs hl) (fun h => kf (by exact h) g p l e R s m args below meth c H locs cells slots ls C hS hR hc hs hl)
theorem a_icmp_ge {x y : Int32} {off : Int} {tgt : Nat} (hdg : decode μ.2.1 pc = .ok (.if_icmp .ge off, 3)) (ht : (pc : Int) + off = (tgt : Int)) (kt : y ≤ x → AW μ d mc ms N tgt L S M Q) (kf : ¬ (y ≤ x) → AW μ d mc ms N (pc + 3) L S M Q) : AW μ d mc ms N pc L (.int y :: .int x :: S) M Q := by
  intro g p l e R s m args below meth c H locs cells slots ls C hS hR hc hs hl
  exact lv_icmp_ge C.1 C.2.1 hdg ht (fun h => kt (by exact h) g p l e R s m args below meth c H locs cells slots ls C hS hR hc hs hl) (fun h => kf (by exact h) g p l e R s m args below meth c H locs cells slots ls C hS hR hc hs hl)
theorem a_if_gt {x : Int32} {off : Int} {tgt : Nat} (hdg : decode μ.2.1 pc = .ok (.ifCond .gt off, 3)) (ht : (pc : Int) + off = (tgt : Int)) (kt : 0 < x → AW μ d mc ms N tgt L S M Q) (kf : ¬ (0 < x) → AW μ d mc ms N (pc + 3) L S M Q) : AW μ d mc ms N pc L (.int x :: S) M Q := by
  intro g p l e R s m args below meth c H locs cells slots ls C hS hR hc hs hl
  exact lv_if_gt C.1 C.2.1 hdg ht (fun h => kt (by exact h) g p l e R s m args below meth c H locs cells slots ls C hS hR hc hs hl) (fun h => kf (by exact h) g p l e R s m args below meth c H locs cells slots ls C hS hR hc hs hl)
theorem a_icmp_gt {x y : Int32} {off : Int} {tgt : Nat} (hdg : decode μ.2.1 pc = .ok (.if_icmp .gt off, 3)) (ht : (pc : Int) + off = (tgt : Int)) (kt : y < x → AW μ d mc ms N tgt L S M Q) (kf : ¬ (y < x) → AW μ d mc ms N (pc + 3) L S M Q) : AW μ d mc ms N pc L (.int y :: .int x :: S) M Q := by
  intro g p l e R s m args below meth c H locs cells slots ls C hS hR hc hs hl
  exact lv_icmp_gt C.1 C.2.1 hdg ht (fun h => kt (by exact h) g p l e R s m args below meth c H locs cells slots ls C hS hR hc hs hl) (fun h => kf (by exact h) g p l e R s m args below meth c H locs cells slots ls C hS hR hc hs hl)
theorem a_if_le {x : Int32} {off : Int} {tgt : Nat} (hdg : decode μ.2.1 pc = .ok (.ifCond .le off, 3)) (ht : (pc : Int) + off = (tgt : Int)) (kt : x ≤ 0 → AW μ d mc ms N tgt L S M Q) (kf : ¬ (x ≤ 0) → AW μ d mc ms N (pc + 3) L S M Q) : AW μ d mc ms N pc L (.int x :: S) M Q := by
  intro g p l e R s m args below meth c H locs cells slots ls C hS hR hc hs hl
  exact lv_if_le C.1 C.2.1 hdg ht (fun h => kt (by exact h) g p l e R s m args below meth c H locs cells slots ls C hS hR hc hs hl) (fun h => kf (by exact h) g p l e R s m args below meth c H locs cells slots ls C hS hR hc hs hl)
theorem a_icmp_le {x y : Int32} {off : Int} {tgt : Nat} (hdg : decode μ.2.1 pc = .ok (.if_icmp .le off, 3)) (ht : (pc : Int) + off = (tgt : Int)) (kt : x ≤ y → AW μ d mc ms N tgt L S M Q) (kf : ¬ (x ≤ y) → AW μ d mc ms N (pc + 3) L S M Q) : AW μ d mc ms N pc L (.int y :: .int x :: S) M Q := by
  intro g p l e R s m args below meth c H locs cells slots ls C hS hR hc hs hl
  exact lv_icmp_le C.1 C.2.1 hdg ht (fun h => kt (by exact h) g p l e R s m args below meth c H locs cells slots ls C hS hR hc hs hl) (fun h => kf (by exact h) g p l e R s m args below meth c H locs cells slots ls C hS hR hc hs hl)
theorem a_goto {off : Int} {tgt : Nat} (hdg : decode μ.2.1 pc = .ok (.goto off, 3)) (ht : (pc : Int) + off = (tgt : Int)) (kk : AW μ d mc ms N tgt L S M Q) : AW μ d mc ms N pc L S M Q := by
  intro g p l e R s m args below meth c H locs cells slots ls C hS hR hc hs hl
  exact lv_goto C.1 C.2.1 hdg ht (kk g p l e R s m args below meth c H locs cells slots ls C hS hR hc hs hl)
theorem a_ifnull {x : Nat} {off : Int} (hdg : decode μ.2.1 pc = .ok (.ifnull off, 3)) (kk : AW μ d mc ms N (pc + 3) L S M Q) : AW μ d mc ms N pc L (.ref x :: S) M Q := by
  intro g p l e R s m args below meth c H locs cells slots ls C hS hR hc hs hl
  exact lv_ifnull C.1 C.2.1 hdg (kk g p l e R s m args below meth c H locs cells slots ls C hS hR hc hs hl)
theorem a_ifnullN {off : Int} {tgt : Nat} (hdg : decode μ.2.1 pc = .ok (.ifnull off, 3)) (ht : (pc : Int) + off = (tgt : Int)) (kk : AW μ d mc ms N tgt L S M Q) : AW μ d mc ms N pc L (.null :: S) M Q := by
  intro g p l e R s m args below meth c H locs cells slots ls C hS hR hc hs hl
  exact lv_ifnullN C.1 C.2.1 hdg ht (kk g p l e R s m args below meth c H locs cells slots ls C hS hR hc hs hl)
theorem a_ifnonnull {x : Nat} {off : Int} {tgt : Nat} (hdg : decode μ.2.1 pc = .ok (.ifnonnull off, 3)) (ht : (pc : Int) + off = (tgt : Int)) (kk : AW μ d mc ms N tgt L S M Q) : AW μ d mc ms N pc L (.ref x :: S) M Q := by
  intro g p l e R s m args below meth c H locs cells slots ls C hS hR hc hs hl
  exact lv_ifnonnull C.1 C.2.1 hdg ht (kk g p l e R s m args below meth c H locs cells slots ls C hS hR hc hs hl)
theorem a_ifnonnullN {off : Int} (hdg : decode μ.2.1 pc = .ok (.ifnonnull off, 3)) (kk : AW μ d mc ms N (pc + 3) L S M Q) : AW μ d mc ms N pc L (.null :: S) M Q := by
  intro g p l e R s m args below meth c H locs cells slots ls C hS hR hc hs hl
  exact lv_ifnonnullN C.1 C.2.1 hdg (kk g p l e R s m args below meth c H locs cells slots ls C hS hR hc hs hl)
theorem a_tableOut {dflt lo hi : Int} {offs : Array Int} {len : Nat} {x : Int32} {tgt : Nat} (hdg : decode μ.2.1 pc = .ok (.tableswitch dflt lo hi offs, len)) (h : x.toInt < lo ∨ hi < x.toInt) (ht : (pc : Int) + dflt = (tgt : Int)) (kk : AW μ d mc ms N tgt L S M Q) : AW μ d mc ms N pc L (.int x :: S) M Q := by
  intro g p l e R s m args below meth c H locs cells slots ls C hS hR hc hs hl
  exact lv_tableOut C.1 C.2.1 hdg h ht (kk g p l e R s m args below meth c H locs cells slots ls C hS hR hc hs hl)
theorem a_tableIn {dflt lo hi : Int} {offs : Array Int} {len : Nat} {x : Int32} {off : Int} {tgt : Nat} (hdg : decode μ.2.1 pc = .ok (.tableswitch dflt lo hi offs, len)) (h1 : ¬ x.toInt < lo) (h2 : ¬ hi < x.toInt) (ho : offs[(x.toInt - lo).toNat]? = some off) (ht : (pc : Int) + off = (tgt : Int)) (kk : AW μ d mc ms N tgt L S M Q) : AW μ d mc ms N pc L (.int x :: S) M Q := by
  intro g p l e R s m args below meth c H locs cells slots ls C hS hR hc hs hl
  exact lv_tableIn C.1 C.2.1 hdg h1 h2 ho ht (kk g p l e R s m args below meth c H locs cells slots ls C hS hR hc hs hl)
theorem a_iret {v : Int32} (hdg : decode μ.2.1 pc = .ok (.ireturn, 1)) (hr : μ.2.2.2 = some .int) (h : Q (some (.int v)) N M) : AW μ d mc ms N pc L ([.int v]) M Q := by
  intro g p l e R s m args below meth c H locs cells slots ls C hS hR hc hs hl
  obtain ⟨c1, c2, c3, c4, c5, c6, c7, c8, -⟩ := id C
  refine W.widen (k := R.cells) (n := R.slots) (by omega) (by omega) ?_
  exact W.iret (v := v) c1 c2 (c4.trans hr) (fun t ht hW => ⟨⟨some (.int v), N, M, rfl, h, by rw [ht]; exact hR⟩, hS.F ht⟩) hS.2.2 hdg c7
theorem a_zret {v : Int32} (hdg : decode μ.2.1 pc = .ok (.ireturn, 1)) (hr : μ.2.2.2 = some .boolean) (hn : v = 0 ∨ v = 1) (h : Q (some (.int v)) N M) : AW μ d mc ms N pc L ([.int v]) M Q := by
  intro g p l e R s m args below meth c H locs cells slots ls C hS hR hc hs hl
  obtain ⟨c1, c2, c3, c4, c5, c6, c7, c8, -⟩ := id C
  refine W.widen (k := R.cells) (n := R.slots) (by omega) (by omega) ?_
  exact W.zret (v := v) (ty := .boolean) c1 c2 (c4.trans hr) (by rcases hn with rfl | rfl <;> rfl) (fun t ht hW => ⟨⟨some (.int v), N, M, rfl, h, by rw [ht]; exact hR⟩, hS.F ht⟩) hS.2.2 hdg c7
theorem a_lret {v : Int64} (hdg : decode μ.2.1 pc = .ok (.lreturn, 1)) (hr : μ.2.2.2 = some .long) (h : Q (some (.long v)) N M) : AW μ d mc ms N pc L ([.long v]) M Q := by
  intro g p l e R s m args below meth c H locs cells slots ls C hS hR hc hs hl
  obtain ⟨c1, c2, c3, c4, c5, c6, c7, c8, -⟩ := id C
  refine W.widen (k := R.cells) (n := R.slots) (by omega) (by omega) ?_
  exact W.lret (v := v) c1 c2 (c4.trans hr) (fun t ht hW => ⟨⟨some (.long v), N, M, rfl, h, by rw [ht]; exact hR⟩, hS.F ht⟩) hS.2.2 hdg c7
theorem a_vret (hdg : decode μ.2.1 pc = .ok (.return_, 1)) (hr : μ.2.2.2 = none) (h : Q none N M) : AW μ d mc ms N pc L [] M Q := by
  intro g p l e R s m args below meth c H locs cells slots ls C hS hR hc hs hl
  obtain ⟨c1, c2, c3, c4, c5, c6, c7, c8, -⟩ := id C
  refine W.widen (k := R.cells) (n := R.slots) (by omega) (by omega) ?_
  exact W.vret c1 c2 (c4.trans hr) (fun t ht hW => ⟨⟨none, N, M, rfl, h, by rw [ht]; exact hR⟩, hS.F ht⟩) hS.2.2 hdg c7
theorem a_aret {v : Value} {nm : String} (hdg : decode μ.2.1 pc = .ok (.areturn, 1)) (hr : μ.2.2.2 = some (.object nm)) (hv : v = .null ∨ ∃ a, v = .ref a) (h : Q (some v) N M) : AW μ d mc ms N pc L [v] M Q := by
  intro g p l e R s m args below meth c H locs cells slots ls C hS hR hc hs hl
  obtain ⟨c1, c2, c3, c4, c5, c6, c7, c8, -⟩ := id C
  refine W.widen (k := R.cells) (n := R.slots) (by omega) (by omega) ?_
  exact W.aret (v := tv (wad g) v) c1 c2 (c4.trans hr) (Or.inl ⟨nm, rfl⟩) (by rcases hv with rfl | ⟨a, rfl⟩; exact Or.inl rfl; exact Or.inr ⟨_, rfl⟩) (fun t ht hW => ⟨⟨some v, N, M, rfl, h, by rw [ht]; exact hR⟩, hS.F ht⟩) hS.2.2 hdg c7
theorem a_ldc2 {ix : Nat} {v : Int64} (hk : Cond.constantLong μ.1.cls ix v ∈ wsG) (hdg : decode μ.2.1 pc = .ok (.ldc2_w ix, 3)) (kk : AW μ d mc ms N (pc + 3) L (.long v :: S) M Q) : AW μ d mc ms N pc L S M Q := by
  intro g p l e R s m args below meth c H locs cells slots ls C hS hR hc hs hl
  obtain ⟨c1, c2, c3, c4, c5, c6, -⟩ := id C
  exact lv_ldc2 c1 c2 c5 (c6 _ hk) hdg (kk g p l e R s m args below meth c H locs cells slots ls C hS hR hc hs hl)
end ROWS
end
section
/-! the heap's rows -/
theorem up2_ne {α : Type} {f : Nat → Nat → α} {q k a : Nat} {v : α} (h : a ≠ q) : up2 f q k v a = f a := by
  funext j
  unfold up2
  rw [if_neg (fun z => h z.1)]
theorem up2_at {α : Type} {f : Nat → Nat → α} {q k : Nat} {v : α} : up2 f q k v q = fun j => if j = k then v else f q j := by
  funext j
  unfold up2
  by_cases h : j = k <;> simp [h]
theorem wad_eq {g : World} {q : Nat} (h : 2 ≤ q) : wad g q = wz g + (q - 2) := by
  unfold wad adr
  rw [if_neg (by omega), if_neg (by omega)]
theorem wad_ge {g : World} {q : Nat} (h : 2 ≤ q) : wz g ≤ wad g q := by rw [wad_eq h]; omega
theorem wad_ne {g : World} {q q' : Nat} (h : 2 ≤ q) (h' : 2 ≤ q') (hn : q' ≠ q) : wad g q' ≠ wad g q := by rw [wad_eq h, wad_eq h']; omega
theorem ent_0 {g : World} {M M' : Mem} (h : ent g M' 0 = ent g M 0) : ln M' 0 = ln M 0 ∧ M'.1 0 = M.1 0 := by
  have e : ∀ X : Mem, ent g X 0 = .inl (wc g 88, ln X 0, .inl (X.1 0)) := fun X => rfl
  rw [e, e] at h
  have h1 := Sum.inl.inj h
  have h2 := (Prod.mk.inj h1).2
  exact ⟨(Prod.mk.inj h2).1, Sum.inl.inj (Prod.mk.inj h2).2⟩
theorem Rep.put {g : World} {N q : Nat} {M M' : Mem} {H H1 : Heap} (hR : Rep g N M H) (hq : 2 ≤ q) (hz : H1.size = H.size) (ho : ∀ a, a ≠ wad g q → H1[a]? = H[a]?) (he : ∀ q', q' ≠ q → ent g M' q' = ent g M q') (hat : va_at (wD g) vwCl (wad g q, ent g M' q) H1) : Rep g N M' H1 := by
  obtain ⟨e1, e2⟩ := ent_0 (he 0 (by omega))
  refine ⟨⟨hR.1.1, hR.1.2.1.trans e1.symm, fun j hj => by rw [e2]; exact hR.1.2.2 j hj⟩, hz.trans hR.2.1, fun q' h1 h2 => ?_⟩
  by_cases h : q' = q
  · subst h; exact hat
  · rw [he q' h]
    exact (hR.2.2 q' h1 h2).kept (ho _ (wad_ne hq h1 h))
theorem ent_obj {g : World} {M : Mem} {q ci : Nat} (h : KD q = ci) (hc : ci < 11) : ent g M q = .inr (ci, fl (wad g) M q (tyz ci) 0) := by
  unfold ent
  rw [h, if_pos hc]
theorem ent_I {g : World} {M : Mem} {q kd : Nat} (h : KD q = kd) (hc : kd = 11 ∨ kd = 13 ∨ kd = 14) : ent g M q = .inl (wc g (kd - 11), ln M q, .inl (M.1 q)) := by
  unfold ent
  rw [h, if_neg (by omega), if_neg (by omega), if_neg (by omega)]
theorem ent_J {g : World} {M : Mem} {q : Nat} (h : KD q = 12) : ent g M q = .inl (wc g 1, ln M q, .inr (.inl (M.2.1 q))) := by
  unfold ent
  rw [h, if_neg (by omega), if_pos rfl]
theorem ent_A {g : World} {M : Mem} {q kd : Nat} (h : KD q = kd) (hc : kd = 15 ∨ kd = 16) : ent g M q = .inl (wc g (kd - 11), ln M q, .inr (.inr (.inr (.inr (fun j => (rA M q j).map (wad g)))))) := by
  unfold ent
  rw [h, if_neg (by omega), if_neg (by omega), if_pos hc]
theorem fl_get {a : Nat → Nat} {M : Mem} {q : Nat} : ∀ {ts : List Nat} {k j : Nat}, (fl a M q ts k)[j]? = (ts[j]?).map (fun t => fv a M q (k + j) t)
  | [], k, j => by simp [fl]
  | t :: ts, k, 0 => by simp [fl]
  | t :: ts, k, j + 1 => by
    rw [fl, List.getElem?_cons_succ, List.getElem?_cons_succ, fl_get]
    congr 2
    funext t
    rw [show k + 1 + j = k + (j + 1) by omega]
theorem fl_len {a : Nat → Nat} {M : Mem} {q : Nat} : ∀ {ts : List Nat} {k : Nat}, (fl a M q ts k).length = ts.length
  | [], _ => rfl
  | t :: ts, k => by rw [fl, List.length_cons, List.length_cons, fl_len]
theorem fl_cong {a : Nat → Nat} {M M' : Mem} {q : Nat} {ts : List Nat} (hI : M'.1 q = M.1 q) (hJ : M'.2.1 q = M.2.1 q) (hA : M'.2.2.1 q = M.2.2.1 q) {k : Nat} : fl a M' q ts k = fl a M q ts k := by
  apply List.ext_getElem?
  intro j
  rw [fl_get, fl_get]
  congr 1
  funext t
  unfold fv rI rJ rA
  rw [hI, hJ, hA]
theorem ent_cong {g : World} {M M' : Mem} {q : Nat} (hI : M'.1 q = M.1 q) (hJ : M'.2.1 q = M.2.1 q) (hA : M'.2.2.1 q = M.2.2.1 q) (hL : M'.2.2.2 q = M.2.2.2 q) : ent g M' q = ent g M q := by
  unfold ent ln rL rA
  rw [fl_cong hI hJ hA, hI, hJ, hA, hL]
theorem ent_sI {g : World} {M : Mem} {q q' k : Nat} {v : Int32} (h : q' ≠ q) : ent g (sI M q k v) q' = ent g M q' := ent_cong (up2_ne h) rfl rfl rfl
theorem ent_sJ {g : World} {M : Mem} {q q' k : Nat} {v : Int64} (h : q' ≠ q) : ent g (sJ M q k v) q' = ent g M q' := ent_cong rfl (up2_ne h) rfl rfl
theorem ent_sA {g : World} {M : Mem} {q q' k : Nat} {v : Option Nat} (h : q' ≠ q) : ent g (sA M q k v) q' = ent g M q' := ent_cong rfl rfl (up2_ne h) rfl
theorem fl_setG {a : Nat → Nat} {M M' : Mem} {q k t : Nat} {v : Value} {ts : List Nat} (ht : ts[k]? = some t) (hv : fv a M' q k t = v) (ho : ∀ j u, j ≠ k → fv a M' q j u = fv a M q j u) : fl a M' q ts 0 = (fl a M q ts 0).set k v := by
  have hk : k < ts.length := (List.getElem?_eq_some_iff.mp ht).1
  apply List.ext_getElem?
  intro j
  rw [List.getElem?_set, fl_get, fl_get, fl_len, Nat.zero_add]
  by_cases h : k = j
  · subst h
    rw [if_pos rfl, if_pos hk, ht, Option.map_some, hv]
  · rw [if_neg h]
    congr 1
    funext u
    exact ho j u (fun z => h z.symm)
def rv (o : Option Nat) : Value := match o with
  | none => .null
  | some q => .ref q
theorem tv_rv (a : Nat → Nat) (o : Option Nat) : tv a (rv o) = va_rf (o.map a) := by cases o <;> rfl
def gv (M : Mem) (q k t : Nat) : Value := if t = 1 then .long (rJ M q k) else if t = 2 then rv (rA M q k) else .int (rI M q k)
theorem tv_gv (a : Nat → Nat) (M : Mem) (q k t : Nat) : tv a (gv M q k t) = fv a M q k t := by
  unfold gv fv
  split
  · rfl
  · split
    · exact tv_rv _ _
    · rfl
theorem cN_at : ∀ ci, ci < 11 → vwCl[ci]? = some (cN ci) := by
  intro ci h
  match ci, h with
  | 0, _ => rfl
  | 1, _ => rfl
  | 2, _ => rfl
  | 3, _ => rfl
  | 4, _ => rfl
  | 5, _ => rfl
  | 6, _ => rfl
  | 7, _ => rfl
  | 8, _ => rfl
  | 9, _ => rfl
  | 10, _ => rfl
theorem inG : ∀ ci, ci < 11 → ∀ w ∈ u_ws (cN ci).1 (cN ci).2.1 (cN ci).2.2, w ∈ wsG := by
  intro ci h
  match ci, h with
  | 0, _ => exact inG0
  | 1, _ => exact inG1
  | 2, _ => exact inG2
  | 3, _ => exact inG3
  | 4, _ => exact inG4
  | 5, _ => exact inG5
  | 6, _ => exact inG6
  | 7, _ => exact inG7
  | 8, _ => exact inG8
  | 9, _ => exact inG9
  | 10, _ => exact inG10
def tyN (ci : Nat) : Nat → FieldType := if ci = 0 then tyX0 else if ci = 1 then tyX1 else if ci = 2 then tyX2 else if ci = 3 then tyX3 else if ci = 4 then tyX4 else if ci = 5 then tyX5 else if ci = 6 then tyX6 else if ci = 7 then tyX7 else if ci = 8 then tyX8 else if ci = 9 then tyX9 else tyX10
theorem tyN_ok : ∀ ci, ci < 11 → ∀ k, k < (cN ci).2.2 → parseFieldDescriptor ((cN ci).2.1 k).2.2.1 = some (tyN ci k) := by
  intro ci h
  match ci, h with
  | 0, _ => exact tyX0_ok
  | 1, _ => exact tyX1_ok
  | 2, _ => exact tyX2_ok
  | 3, _ => exact tyX3_ok
  | 4, _ => exact tyX4_ok
  | 5, _ => exact tyX5_ok
  | 6, _ => exact tyX6_ok
  | 7, _ => exact tyX7_ok
  | 8, _ => exact tyX8_ok
  | 9, _ => exact tyX9_ok
  | 10, _ => exact tyX10_ok
theorem nmN : ∀ ci, ci < 11 → ∀ a, a < (cN ci).2.2 → ∀ b, b < (cN ci).2.2 → a ≠ b → ((cN ci).2.1 a).2.1 ≠ ((cN ci).2.1 b).2.1 := by
  intro ci h
  match ci, h with
  | 0, _ => exact nmX0
  | 1, _ => exact nmX1
  | 2, _ => exact nmX2
  | 3, _ => exact nmX3
  | 4, _ => exact nmX4
  | 5, _ => exact nmX5
  | 6, _ => exact nmX6
  | 7, _ => exact nmX7
  | 8, _ => exact nmX8
  | 9, _ => exact nmX9
  | 10, _ => exact nmX10
def tco : FieldType → Nat
  | .int => 0
  | .long => 1
  | .boolean => 3
  | .object _ => 2
  | .array _ => 2
  | _ => 9
theorem tcN : ∀ ci, ci < 11 → ∀ k, k < (cN ci).2.2 → (tyz ci)[k]? = some (tco (tyN ci k)) := by
  intro ci h
  match ci, h with
  | 0, _ => decide +kernel
  | 1, _ => decide +kernel
  | 2, _ => decide +kernel
  | 3, _ => decide +kernel
  | 4, _ => decide +kernel
  | 5, _ => decide +kernel
  | 6, _ => decide +kernel
  | 7, _ => decide +kernel
  | 8, _ => decide +kernel
  | 9, _ => decide +kernel
  | 10, _ => decide +kernel
section HEAP
variable {μ : MD} {d mc ms N pc : Nat} {L : List (Nat × Value)} {S : List Value} {M : Mem} {Q : Option Value → Nat → Mem → Prop}
theorem a_get {ix ci k q t : Nat} (hf : FLK μ.1.cls ix ci k) (hk : KD q = ci) (ht : (tyz ci)[k]? = some t) (hq : 2 ≤ q) (hn : q < N) (hdg : decode μ.2.1 pc = .ok (.getfield ix, 3)) (kk : AW μ d mc ms N (pc + 3) L (gv M q k t :: S) M Q) : AW μ d mc ms N pc L (.ref q :: S) M Q := by
  intro g p l e R s m args below meth c H locs cells slots ls C hS hR hc hs hl
  obtain ⟨c1, c2, c3, c4, c5, c6, c7, c8, c9, -⟩ := id C
  obtain ⟨⟨h1, h2⟩, h3⟩ := hf
  have hat := hR.2.2 q hq hn
  rw [ent_obj hk h1] at hat
  have hP : va_P (wD g) vwCl [(wad g q, .inr (ci, fl (wad g) M q (tyz ci) 0))] H := fun j x hx => by
    have hj : j < 1 := (List.getElem?_eq_some_iff.mp hx).1
    obtain rfl : j = 0 := by omega
    cases hx
    exact hat
  refine va_get (D := wD g) (v := tv (wad g) (gv M q k t)) c1 c2 c6 (inG ci h1) c5 c9 hP 0 rfl (cN_at ci h1) k h2 (c6 _ h3) (fun _ h => h) ?_ hdg (kk g p l e R s m args below meth c H locs cells slots ls C hS hR hc hs hl)
  rw [fl_get, ht, tv_gv, Option.map_some, Nat.zero_add]
theorem a_getI {ix ci k q : Nat} (hf : FLK μ.1.cls ix ci k) (hk : KD q = ci) (ht : (tyz ci)[k]? = some 0) (hq : 2 ≤ q) (hn : q < N) (hdg : decode μ.2.1 pc = .ok (.getfield ix, 3)) (kk : AW μ d mc ms N (pc + 3) L (.int (rI M q k) :: S) M Q) : AW μ d mc ms N pc L (.ref q :: S) M Q := a_get hf hk ht hq hn hdg kk
theorem a_getZ {ix ci k q : Nat} (hf : FLK μ.1.cls ix ci k) (hk : KD q = ci) (ht : (tyz ci)[k]? = some 3) (hq : 2 ≤ q) (hn : q < N) (hdg : decode μ.2.1 pc = .ok (.getfield ix, 3)) (kk : AW μ d mc ms N (pc + 3) L (.int (rI M q k) :: S) M Q) : AW μ d mc ms N pc L (.ref q :: S) M Q := a_get hf hk ht hq hn hdg kk
theorem a_getJ {ix ci k q : Nat} (hf : FLK μ.1.cls ix ci k) (hk : KD q = ci) (ht : (tyz ci)[k]? = some 1) (hq : 2 ≤ q) (hn : q < N) (hdg : decode μ.2.1 pc = .ok (.getfield ix, 3)) (kk : AW μ d mc ms N (pc + 3) L (.long (rJ M q k) :: S) M Q) : AW μ d mc ms N pc L (.ref q :: S) M Q := a_get hf hk ht hq hn hdg kk
theorem a_getA {ix ci k q z : Nat} (hf : FLK μ.1.cls ix ci k) (hk : KD q = ci) (ht : (tyz ci)[k]? = some 2) (hz : rA M q k = some z) (hq : 2 ≤ q) (hn : q < N) (hdg : decode μ.2.1 pc = .ok (.getfield ix, 3)) (kk : AW μ d mc ms N (pc + 3) L (.ref z :: S) M Q) : AW μ d mc ms N pc L (.ref q :: S) M Q := a_get hf hk ht hq hn hdg (by
  show AW μ d mc ms N (pc + 3) L (rv (rA M q k) :: S) M Q
  rw [hz]
  exact kk)
/-- a store into a field -/
theorem a_put {ix ci k q t : Nat} {v : Value} {M' : Mem} (hf : FLK μ.1.cls ix ci k) (hk : KD q = ci) (ht : (tyz ci)[k]? = some t) (hq : 2 ≤ q) (hn : q < N) (hfin : ((cN ci).2.1 k).2.2.2 = false ∨ (((cN ci).2.1 k).2.2.2 = true ∧ μ.1.name = "<init>" ∧ ((cN ci).2.1 k).1 = μ.1.cls)) (hv : ∀ a ty, tco ty = t → narrow ty (tv a v) = tv a v ∧ fits ty (tv a v) = true)
    (hset : ∀ a, fl a M' q (tyz ci) 0 = (fl a M q (tyz ci) 0).set k (tv a v)) (ho : ∀ g q', q' ≠ q → ent g M' q' = ent g M q') (hdg : decode μ.2.1 pc = .ok (.putfield ix, 3)) (kk : AW μ d mc ms N (pc + 3) L S M' Q) : AW μ d mc ms N pc L (v :: .ref q :: S) M Q := by
  intro g p l e R s m args below meth c H locs cells slots ls C hS hR hc hs hl
  obtain ⟨c1, c2, c3, c4, c5, c6, c7, c8, c9, -⟩ := id C
  obtain ⟨⟨h1, h2⟩, h3⟩ := hf
  have hat := hR.2.2 q hq hn
  rw [ent_obj hk h1] at hat
  obtain ⟨r, g1, cell, q1, q2, q3, q4⟩ := hat
  have hcl := cN_at ci h1
  have hr : r = cN ci := Option.some.inj (g1.symm.trans hcl)
  subst hr
  have hap := va_apart (own := μ.1.cls) c6 (inG ci h1) (tyN ci) (tyN_ok ci h1) (nmN ci h1) c9 hcl
  obtain ⟨hSl, hfc, kC, hkC, hkind⟩ := c9.1 ci _ hcl
  obtain ⟨cf, kf, fi, f, hi, hsl⟩ := hSl k h2
  have hst := (u_facts hfc hkC (u_lays c6 (inG ci h1) h2) hi).1
  have hty : tco (tyN ci k) = t := by
    have := tcN ci h1 k h2
    rw [ht] at this
    exact (Option.some.inj this).symm
  obtain ⟨hn1, hn2⟩ := hv (wad g) (tyN ci k) hty
  have hln : k < (fl (wad g) M q (tyz ci) 0).length := by rw [fl_len]; exact (List.getElem?_eq_some_iff.mp ht).1
  have fin : ∀ (H' : Heap), H'[wad g q]? = some (cell.setSlot ((wD g).2 ci k) (tv (wad g) v)) → H'.size = H.size → (∀ a, a ≠ wad g q → H'[a]? = H[a]?) → W p l e R s m args below meth c H' (locs ++ [⟨wad g q, (wD g).2 ci k⟩]) cells slots (MQ below (AQ g Q) args s R.cells R.slots (wA g)) (F0 m (pc + 3) ls (S.map (tv (wad g)))) := fun H' e1 e2 e3 => by
    refine kk g p l e R s m args below meth c H' _ cells slots ls C (hS.put e2 e3 (wad_ge hq)) (hR.put hq e2 e3 (ho g) ?_) hc hs hl
    rw [ent_obj hk h1, hset]
    exact ⟨_, hcl, t_OB.to (V := updV (vp_V (fl (wad g) M q (tyz ci) 0)) k (tv (wad g) v)) ⟨_, e1, q2, q3, t_set q4 hap h2 _⟩ (fun j _ => vp_updV_set hln _ j)⟩
  rcases hfin with hfin | ⟨hfin, hin2, hdecl⟩
  · have hlay := c6 _ (inG ci h1 _ (u_in_lay h2))
    unfold u_lay at hlay
    rw [if_neg (by rw [hfin]; decide)] at hlay
    have h6 := u_store hfc hkC hkind hlay hi (tyN_ok ci h1 k h2) hn1 hn2
    refine W.putK c1 c2 (f := f) ⟨c5, c6 _ h3, ⟨_, _, _, hi⟩, hst⟩ (by rw [q2]; exact h6) q1 q3 (by rw [hsl]; exact k2_hasslot (q4 k h2)) rfl rfl hdg fun H' e1 e2 e3 => ?_
    rw [hsl] at e1 ⊢
    exact fin H' e1 e2 e3
  · have hlay := c6 _ (inG ci h1 _ (u_in_lay h2))
    unfold u_lay at hlay
    rw [if_pos hfin] at hlay
    have hcf : m.cls = cf := by
      obtain ⟨_, _, c', _, _, _, -, -, hf', -, -, -, hown2, -⟩ := Cond.laysFinal_spec hlay
      have e1 : c' = cf := by have := hi.symm.trans hf'; simp at this; exact this.1.symm
      rw [hdecl] at hown2
      rw [← e1]; exact Option.some.inj (c5.symm.trans hown2)
    have h6 := u_fits hfc hkC hkind (Or.inr hlay) hi (tyN_ok ci h1 k h2) hn1 hn2
    refine W.putFinK c1 c2 c5 (c6 _ h3) hi hst hcf (c8.trans hin2) (by rw [q2]; exact h6) q1 q3 (by rw [hsl]; exact k2_hasslot (q4 k h2)) rfl rfl hdg fun H' e1 e2 e3 => ?_
    rw [hsl] at e1 ⊢
    exact fin H' e1 e2 e3
theorem a_putI {ix ci k q : Nat} {v : Int32} (hf : FLK μ.1.cls ix ci k) (hk : KD q = ci) (ht : (tyz ci)[k]? = some 0) (hfin : ((cN ci).2.1 k).2.2.2 = false) (hq : 2 ≤ q) (hn : q < N) (hdg : decode μ.2.1 pc = .ok (.putfield ix, 3)) (kk : AW μ d mc ms N (pc + 3) L S (sI M q k v) Q) : AW μ d mc ms N pc L (.int v :: .ref q :: S) M Q := by
  refine a_put hf hk ht hq hn (Or.inl hfin) (fun a ty h => ?_) (fun a => ?_) (fun g q' h => ent_sI h) hdg kk
  · cases ty <;> first | exact ⟨rfl, rfl⟩ | cases h
  · refine fl_setG ht ?_ (fun j u hj => ?_)
    · simp [fv, rI, sI, up2, tv]
    · simp [fv, rI, rJ, rA, sI, up2, hj]
theorem a_putZ {ix ci k q : Nat} {v : Int32} (hf : FLK μ.1.cls ix ci k) (hk : KD q = ci) (ht : (tyz ci)[k]? = some 3) (hfin : ((cN ci).2.1 k).2.2.2 = false) (hv : v = 0 ∨ v = 1) (hq : 2 ≤ q) (hn : q < N) (hdg : decode μ.2.1 pc = .ok (.putfield ix, 3)) (kk : AW μ d mc ms N (pc + 3) L S (sI M q k v) Q) : AW μ d mc ms N pc L (.int v :: .ref q :: S) M Q := by
  refine a_put hf hk ht hq hn (Or.inl hfin) (fun a ty h => ?_) (fun a => ?_) (fun g q' h => ent_sI h) hdg kk
  · cases ty <;> first | (rcases hv with rfl | rfl <;> exact ⟨rfl, rfl⟩) | cases h
  · refine fl_setG ht ?_ (fun j u hj => ?_)
    · simp [fv, rI, sI, up2, tv]
    · simp [fv, rI, rJ, rA, sI, up2, hj]
theorem a_putJ {ix ci k q : Nat} {v : Int64} (hf : FLK μ.1.cls ix ci k) (hk : KD q = ci) (ht : (tyz ci)[k]? = some 1) (hfin : ((cN ci).2.1 k).2.2.2 = false) (hq : 2 ≤ q) (hn : q < N) (hdg : decode μ.2.1 pc = .ok (.putfield ix, 3)) (kk : AW μ d mc ms N (pc + 3) L S (sJ M q k v) Q) : AW μ d mc ms N pc L (.long v :: .ref q :: S) M Q := by
  refine a_put hf hk ht hq hn (Or.inl hfin) (fun a ty h => ?_) (fun a => ?_) (fun g q' h => ent_sJ h) hdg kk
  · cases ty <;> first | exact ⟨rfl, rfl⟩ | cases h
  · refine fl_setG ht ?_ (fun j u hj => ?_)
    · simp [fv, rJ, sJ, up2, tv]
    · simp [fv, rI, rJ, rA, sJ, up2, hj]
theorem a_putA {ix ci k q z : Nat} (hf : FLK μ.1.cls ix ci k) (hk : KD q = ci) (ht : (tyz ci)[k]? = some 2) (hfin : ((cN ci).2.1 k).2.2.2 = true) (hi : μ.1.name = "<init>") (hd : ((cN ci).2.1 k).1 = μ.1.cls) (hq : 2 ≤ q) (hn : q < N) (hdg : decode μ.2.1 pc = .ok (.putfield ix, 3)) (kk : AW μ d mc ms N (pc + 3) L S (sA M q k (some z)) Q) : AW μ d mc ms N pc L (.ref z :: .ref q :: S) M Q := by
  refine a_put hf hk ht hq hn (Or.inr ⟨hfin, hi, hd⟩) (fun a ty h => ?_) (fun a => ?_) (fun g q' h => ent_sA h) hdg kk
  · cases ty <;> first | exact ⟨rfl, rfl⟩ | cases h
  · refine fl_setG ht ?_ (fun j u hj => ?_)
    · simp [fv, rA, sA, up2, tv, va_rf]
    · simp [fv, rI, rJ, rA, sA, up2, hj]

theorem a_iald {q : Nat} {i : Int32} (hk : KD q = 11) (hq : 2 ≤ q) (hn : q < N) (hin : vp_in i (ln M q)) (hdg : decode μ.2.1 pc = .ok (.iaload, 1)) (kk : AW μ d mc ms N (pc + 1) L (.int (rI M q i.toNatClampNeg) :: S) M Q) : AW μ d mc ms N pc L (.int i :: .ref q :: S) M Q := by
  intro g p l e R s m args below meth c H locs cells slots ls C hS hR hc hs hl
  obtain ⟨c1, c2, c3, c4, c5, c6, c7, c8, c9, -⟩ := id C
  have hat := hR.2.2 q hq hn
  rw [ent_I hk (Or.inl rfl)] at hat
  have hP : va_P (wD g) vwCl [(wad g q, _)] H := fun j x hx => by
    have hj : j < 1 := (List.getElem?_eq_some_iff.mp hx).1
    obtain rfl : j = 0 := by omega
    cases hx
    exact hat
  exact va_iald c1 c2 c9 hP 0 0 rfl rfl hin hdg (kk g p l e R s m args below meth c H locs cells slots ls C hS hR hc hs hl)
theorem a_bald {q : Nat} {i : Int32} (hk : KD q = 13) (hq : 2 ≤ q) (hn : q < N) (hin : vp_in i (ln M q)) (hdg : decode μ.2.1 pc = .ok (.baload, 1)) (kk : AW μ d mc ms N (pc + 1) L (.int (rI M q i.toNatClampNeg) :: S) M Q) : AW μ d mc ms N pc L (.int i :: .ref q :: S) M Q := by
  intro g p l e R s m args below meth c H locs cells slots ls C hS hR hc hs hl
  obtain ⟨c1, c2, c3, c4, c5, c6, c7, c8, c9, -⟩ := id C
  have hat := hR.2.2 q hq hn
  rw [ent_I hk (Or.inr (Or.inl rfl))] at hat
  have hP : va_P (wD g) vwCl [(wad g q, _)] H := fun j x hx => by
    have hj : j < 1 := (List.getElem?_eq_some_iff.mp hx).1
    obtain rfl : j = 0 := by omega
    cases hx
    exact hat
  exact va_bald c1 c2 c9 hP 0 2 rfl rfl hin hdg (kk g p l e R s m args below meth c H locs cells slots ls C hS hR hc hs hl)
theorem a_zald {q : Nat} {i : Int32} (hk : KD q = 14) (hq : 2 ≤ q) (hn : q < N) (hin : vp_in i (ln M q)) (hdg : decode μ.2.1 pc = .ok (.baload, 1)) (kk : AW μ d mc ms N (pc + 1) L (.int (rI M q i.toNatClampNeg) :: S) M Q) : AW μ d mc ms N pc L (.int i :: .ref q :: S) M Q := by
  intro g p l e R s m args below meth c H locs cells slots ls C hS hR hc hs hl
  obtain ⟨c1, c2, c3, c4, c5, c6, c7, c8, c9, -⟩ := id C
  have hat := hR.2.2 q hq hn
  rw [ent_I hk (Or.inr (Or.inr rfl))] at hat
  have hP : va_P (wD g) vwCl [(wad g q, _)] H := fun j x hx => by
    have hj : j < 1 := (List.getElem?_eq_some_iff.mp hx).1
    obtain rfl : j = 0 := by omega
    cases hx
    exact hat
  exact va_zald c1 c2 c9 hP 0 3 rfl rfl hin hdg (kk g p l e R s m args below meth c H locs cells slots ls C hS hR hc hs hl)
theorem a_lald {q : Nat} {i : Int32} (hk : KD q = 12) (hq : 2 ≤ q) (hn : q < N) (hin : vp_in i (ln M q)) (hdg : decode μ.2.1 pc = .ok (.laload, 1)) (kk : AW μ d mc ms N (pc + 1) L (.long (rJ M q i.toNatClampNeg) :: S) M Q) : AW μ d mc ms N pc L (.int i :: .ref q :: S) M Q := by
  intro g p l e R s m args below meth c H locs cells slots ls C hS hR hc hs hl
  obtain ⟨c1, c2, c3, c4, c5, c6, c7, c8, c9, -⟩ := id C
  have hat := hR.2.2 q hq hn
  rw [ent_J hk] at hat
  have hP : va_P (wD g) vwCl [(wad g q, _)] H := fun j x hx => by
    have hj : j < 1 := (List.getElem?_eq_some_iff.mp hx).1
    obtain rfl : j = 0 := by omega
    cases hx
    exact hat
  exact va_lald c1 c2 c9 hP 0 1 rfl rfl hin hdg (kk g p l e R s m args below meth c H locs cells slots ls C hS hR hc hs hl)
theorem a_aaldF {q : Nat} {i : Int32} (hk : KD q = 15) (hq : 2 ≤ q) (hn : q < N) (hin : vp_in i (ln M q)) (hdg : decode μ.2.1 pc = .ok (.aaload, 1)) (kk : AW μ d mc ms N (pc + 1) L (rv (rA M q i.toNatClampNeg) :: S) M Q) : AW μ d mc ms N pc L (.int i :: .ref q :: S) M Q := by
  intro g p l e R s m args below meth c H locs cells slots ls C hS hR hc hs hl
  obtain ⟨c1, c2, c3, c4, c5, c6, c7, c8, c9, -⟩ := id C
  have hat := hR.2.2 q hq hn
  rw [ent_A hk (Or.inl rfl)] at hat
  have hP : va_P (wD g) vwCl [(wad g q, _)] H := fun j x hx => by
    have hj : j < 1 := (List.getElem?_eq_some_iff.mp hx).1
    obtain rfl : j = 0 := by omega
    cases hx
    exact hat
  refine va_aldq c1 c2 c9 hP 0 4 rfl rfl hin hdg ?_
  rw [← tv_rv]
  exact kk g p l e R s m args below meth c H locs cells slots ls C hS hR hc hs hl
theorem a_aaldS {q : Nat} {i : Int32} (hk : KD q = 16) (hq : 2 ≤ q) (hn : q < N) (hin : vp_in i (ln M q)) (hdg : decode μ.2.1 pc = .ok (.aaload, 1)) (kk : AW μ d mc ms N (pc + 1) L (rv (rA M q i.toNatClampNeg) :: S) M Q) : AW μ d mc ms N pc L (.int i :: .ref q :: S) M Q := by
  intro g p l e R s m args below meth c H locs cells slots ls C hS hR hc hs hl
  obtain ⟨c1, c2, c3, c4, c5, c6, c7, c8, c9, -⟩ := id C
  have hat := hR.2.2 q hq hn
  rw [ent_A hk (Or.inr rfl)] at hat
  have hP : va_P (wD g) vwCl [(wad g q, _)] H := fun j x hx => by
    have hj : j < 1 := (List.getElem?_eq_some_iff.mp hx).1
    obtain rfl : j = 0 := by omega
    cases hx
    exact hat
  refine va_aldq c1 c2 c9 hP 0 5 rfl rfl hin hdg ?_
  rw [← tv_rv]
  exact kk g p l e R s m args below meth c H locs cells slots ls C hS hR hc hs hl
theorem a_iast {q : Nat} {i : Int32} {x : Int32} (hk : KD q = 11) (hq : 2 ≤ q) (hn : q < N) (hin : vp_in i (ln M q)) (hdg : decode μ.2.1 pc = .ok (.iastore, 1)) (kk : AW μ d mc ms N (pc + 1) L S (sI M q i.toNatClampNeg x) Q) : AW μ d mc ms N pc L (.int x :: .int i :: .ref q :: S) M Q := by
  intro g p l e R s m args below meth c H locs cells slots ls C hS hR hc hs hl
  obtain ⟨c1, c2, c3, c4, c5, c6, c7, c8, c9, -⟩ := id C
  have hat := hR.2.2 q hq hn
  rw [ent_I hk (Or.inl rfl)] at hat
  refine W.iast c1 c2 hat ((c9.2 0 _ rfl).1 (ln M q) (fun j => .int (M.1 q j))) (fun q => by cases q) (by show ¬ (i < 0 ∨ (arrV _ _ _).slots.size ≤ _); rw [arrV_size]; exact hin) rfl rfl hdg fun H1 e1 z oq => ?_
  refine kk g p l e R s m args below meth c H1 _ cells slots ls C (hS.put z oq (wad_ge hq)) (hR.put hq z oq (fun q' h => ent_sI h) ?_) hc hs hl
  rw [ent_I hk (Or.inl rfl)]
  show H1[wad g q]? = some (vp_cell _ _)
  rw [e1]
  rw [vp_cell_i, vp_cell_i, arrV_store]
  congr 2
  funext j
  by_cases hj : j = i.toNatClampNeg
  · subst hj
    simp [updV, sI, up2]
  · simp [updV, sI, up2, hj]
theorem a_bast {q : Nat} {i : Int32} {x : Int32} (hk : KD q = 13) (hq : 2 ≤ q) (hn : q < N) (hin : vp_in i (ln M q)) (hdg : decode μ.2.1 pc = .ok (.bastore, 1)) (kk : AW μ d mc ms N (pc + 1) L S (sI M q i.toNatClampNeg x.toInt8.toInt32) Q) : AW μ d mc ms N pc L (.int x :: .int i :: .ref q :: S) M Q := by
  intro g p l e R s m args below meth c H locs cells slots ls C hS hR hc hs hl
  obtain ⟨c1, c2, c3, c4, c5, c6, c7, c8, c9, -⟩ := id C
  have hat := hR.2.2 q hq hn
  rw [ent_I hk (Or.inr (Or.inl rfl))] at hat
  refine W.bast c1 c2 hat ((c9.2 2 _ rfl).1 (ln M q) (fun j => .int (M.1 q j))) (fun q => by cases q) (by show ¬ (i < 0 ∨ (arrV _ _ _).slots.size ≤ _); rw [arrV_size]; exact hin) rfl rfl hdg fun H1 e1 z oq => ?_
  refine kk g p l e R s m args below meth c H1 _ cells slots ls C (hS.put z oq (wad_ge hq)) (hR.put hq z oq (fun q' h => ent_sI h) ?_) hc hs hl
  rw [ent_I hk (Or.inr (Or.inl rfl))]
  show H1[wad g q]? = some (vp_cell _ _)
  rw [e1]
  rw [vp_cell_i, vp_cell_i, arrV_store]
  congr 2
  funext j
  by_cases hj : j = i.toNatClampNeg
  · subst hj
    simp [updV, sI, up2, narrow]
  · simp [updV, sI, up2, hj]
theorem a_zast {q : Nat} {i : Int32} {x : Int32} (hk : KD q = 14) (hq : 2 ≤ q) (hn : q < N) (hin : vp_in i (ln M q)) (hx : narrow .boolean (.int x) = .int x) (hdg : decode μ.2.1 pc = .ok (.bastore, 1)) (kk : AW μ d mc ms N (pc + 1) L S (sI M q i.toNatClampNeg x) Q) : AW μ d mc ms N pc L (.int x :: .int i :: .ref q :: S) M Q := by
  intro g p l e R s m args below meth c H locs cells slots ls C hS hR hc hs hl
  obtain ⟨c1, c2, c3, c4, c5, c6, c7, c8, c9, -⟩ := id C
  have hat := hR.2.2 q hq hn
  rw [ent_I hk (Or.inr (Or.inr rfl))] at hat
  refine W.zast c1 c2 hat ((c9.2 3 _ rfl).1 (ln M q) (fun j => .int (M.1 q j))) (fun q => by cases q) (by show ¬ (i < 0 ∨ (arrV _ _ _).slots.size ≤ _); rw [arrV_size]; exact hin) rfl rfl hdg fun H1 e1 z oq => ?_
  refine kk g p l e R s m args below meth c H1 _ cells slots ls C (hS.put z oq (wad_ge hq)) (hR.put hq z oq (fun q' h => ent_sI h) ?_) hc hs hl
  rw [ent_I hk (Or.inr (Or.inr rfl))]
  show H1[wad g q]? = some (vp_cell _ _)
  rw [e1]
  rw [vp_cell_i, vp_cell_i, arrV_store]
  congr 2
  funext j
  by_cases hj : j = i.toNatClampNeg
  · subst hj
    simp [updV, sI, up2, hx]
  · simp [updV, sI, up2, hj]
theorem a_last {q : Nat} {i : Int32} {x : Int64} (hk : KD q = 12) (hq : 2 ≤ q) (hn : q < N) (hin : vp_in i (ln M q)) (hdg : decode μ.2.1 pc = .ok (.lastore, 1)) (kk : AW μ d mc ms N (pc + 1) L S (sJ M q i.toNatClampNeg x) Q) : AW μ d mc ms N pc L (.long x :: .int i :: .ref q :: S) M Q := by
  intro g p l e R s m args below meth c H locs cells slots ls C hS hR hc hs hl
  obtain ⟨c1, c2, c3, c4, c5, c6, c7, c8, c9, -⟩ := id C
  have hat := hR.2.2 q hq hn
  rw [ent_J hk] at hat
  refine W.last c1 c2 hat ((c9.2 1 _ rfl).1 (ln M q) (fun j => .long (M.2.1 q j))) (fun q => by cases q) (by show ¬ (i < 0 ∨ (arrV _ _ _).slots.size ≤ _); rw [arrV_size]; exact hin) rfl rfl hdg fun H1 e1 z oq => ?_
  refine kk g p l e R s m args below meth c H1 _ cells slots ls C (hS.put z oq (wad_ge hq)) (hR.put hq z oq (fun q' h => ent_sJ h) ?_) hc hs hl
  rw [ent_J hk]
  show H1[wad g q]? = some (vp_cell _ _)
  rw [e1]
  rw [vp_cell_l, vp_cell_l, arrV_store]
  congr 2
  funext j
  by_cases hj : j = i.toNatClampNeg
  · subst hj
    simp [updV, sJ, up2]
  · simp [updV, sJ, up2, hj]
theorem a_alen {q kd : Nat} {v : Int32} (hk : KD q = kd) (hkd : 11 ≤ kd ∧ kd ≤ 16) (hq : 2 ≤ q) (hn : q < N) (hv : Int32.ofNat (ln M q) = v) (hdg : decode μ.2.1 pc = .ok (.arraylength, 1)) (kk : AW μ d mc ms N (pc + 1) L (.int v :: S) M Q) : AW μ d mc ms N pc L (.ref q :: S) M Q := by
  intro g p l e R s m args below meth c H locs cells slots ls C hS hR hc hs hl
  obtain ⟨c1, c2, c3, c4, c5, c6, c7, c8, c9, -⟩ := id C
  have hat := hR.2.2 q hq hn
  have key : ∃ (x : vp_A) (ty : FieldType) (t0 : Nat), x.1 = ln M q ∧ ent g M q = .inl (wc g t0, x) ∧ (wtys g)[t0]? = some (wc g t0, ty) := by
    rcases (show kd = 11 ∨ kd = 12 ∨ kd = 13 ∨ kd = 14 ∨ kd = 15 ∨ kd = 16 by omega) with rfl | rfl | rfl | rfl | rfl | rfl
    · exact ⟨_, _, 0, rfl, ent_I hk (Or.inl rfl), rfl⟩
    · exact ⟨_, _, 1, rfl, ent_J hk, rfl⟩
    · exact ⟨_, _, 2, rfl, ent_I hk (Or.inr (Or.inl rfl)), rfl⟩
    · exact ⟨_, _, 3, rfl, ent_I hk (Or.inr (Or.inr rfl)), rfl⟩
    · exact ⟨_, _, 4, rfl, ent_A hk (Or.inl rfl), rfl⟩
    · exact ⟨_, _, 5, rfl, ent_A hk (Or.inr rfl), rfl⟩
  obtain ⟨x, ty, t0, hx, he, htt⟩ := key
  rw [he] at hat
  have hP : va_P (wD g) vwCl [(wad g q, _)] H := fun j x hx => by
    have hj : j < 1 := (List.getElem?_eq_some_iff.mp hx).1
    obtain rfl : j = 0 := by omega
    cases hx
    exact hat
  exact va_alen c1 c2 c9 hP 0 t0 rfl htt (by rw [hx]; exact hv) hdg (kk g p l e R s m args below meth c H locs cells slots ls C hS hR hc hs hl)
end HEAP
end
section
/-! calls: a method from its entry is a contract for every caller -/
def ro (r : Option Value) (S : List Value) : List Value := match r with
  | none => S
  | some v => v :: S
theorem ro_map (a : Nat → Nat) (r : Option Value) (S : List Value) : (ro r S).map (tv a) = (r.map (tv a)).toList ++ S.map (tv a) := by cases r <;> rfl
def Pic (g : World) (N : Nat) (M : Mem) (U : State) : Prop := Rep g N M U.heap ∧ va_K (wD g) vwCl (wtys g) U ∧ Stat g U U.heap ∧ wz g ≤ U.heap.size
theorem Stat.calling {g : World} {U : State} {f : JFrame} {mk : MethodId} {a : Array Value} (h : Stat g U U.heap) : Stat g (U.calling f mk a) (U.calling f mk a).heap := by
  obtain ⟨h1, h2, h3, h4, h5, h6, h7, h8, h9⟩ := h
  have hr := Vm.Alike.refl U.vm
  exact ⟨va_X.moved (u := U) (U := U.calling f mk a) hr h1, va_Z.moved (u := U) (U := U.calling f mk a) hr h2, va_T.moved (u := U) (U := U.calling f mk a) hr h3, h4, h5, fun q hq => va_Nw.same rfl (u := U) (U := U.calling f mk a) rfl (h6 q hq), va_Nw.same rfl (u := U) (U := U.calling f mk a) rfl h7, va_AO.moved (u := U) (U := U.calling f mk a) hr h8, va_AO.moved (u := U) (U := U.calling f mk a) hr h9⟩
theorem Pic.calling {g : World} {N : Nat} {M : Mem} {U : State} {f : JFrame} {mk : MethodId} {a : Array Value} (h : Pic g N M U) : Pic g N M (U.calling f mk a) :=
  ⟨h.1, va_K.moved (u := U) (U := U.calling f mk a) (Vm.Alike.refl U.vm) h.2.1, h.2.2.1.calling, h.2.2.2⟩
theorem Stat.at {g : World} {s U : State} {H : Heap} {locs : List Loc} (h : Stat g s s.heap) (hS : va_S (wA g) s.heap H locs) (hU : U.heap = H) (hW : s.WarmedH U.vm) : Stat g U U.heap := by
  obtain ⟨h1, h2, h3, h4, h5, h6, h7, h8, h9⟩ := h
  have hr := hW.alike
  subst hU
  have hb : U.heap[wb g]? = s.heap[wb g]? := by
    obtain ⟨scr, e1, -⟩ := h1
    exact hS.2.1 _ (Array.getElem?_eq_some_iff.mp e1).1 (Nat.not_le.mpr h4)
  exact ⟨(h1.moved hr).kept hb, (h2.moved hr).kept hS.2.1, (h3.moved hr).kept hS.2.1, h4, h5, fun q hq => va_Nw.warmM hW (h6 q hq), va_Nw.warmF hW h7, h8.moved hr, h9.moved hr⟩
theorem Pic.at {g : World} {N : Nat} {M : Mem} {s U : State} {H : Heap} {locs : List Loc} (hR : Rep g N M H) (hK : va_K (wD g) vwCl (wtys g) s) (h : Stat g s s.heap) (hz : wz g ≤ s.heap.size) (hS : va_S (wA g) s.heap H locs) (hU : U.heap = H) (hW : s.WarmedH U.vm) : Pic g N M U :=
  ⟨by rw [hU]; exact hR, va_K.moved hW.alike hK, h.at hS hU hW, by rw [hU]; exact Nat.le_trans hz hS.1⟩
theorem sl_len (a : Nat → Nat) : ∀ vs : List Value, (lg_sl (vs.map (tv a))).length = (vs.map fun v => v.category).sum
  | [] => rfl
  | v :: vs => by
    have ih := sl_len a vs
    simp only [lg_sl, List.map_cons, List.flatMap_cons, List.length_append, List.sum_cons] at ih ⊢
    rw [ih, tv_cat]
    rcases lv_cat v with h | h <;> simp [h]
abbrev wsM (μ : MD) : List Cond := Cond.code μ.1 μ.2.1 μ.2.2.1 μ.2.2.2 :: wsG
abbrev rmM (d mc ms : Nat) : Room := { frames := d + 1, cells := mc, slots := ms, locals := kyl (d + 1) }
theorem Met.ofWF {l : Launch} {y : MethodName} {ws ws' : List Cond} {rm : Room} {Pc : Array Value → State → Prop} {Qc : Array Value → State → Outcome → State → Prop} {mc ms : Nat} {free : Addr → Prop} {cc : ByteArray} {maxL : Nat} {ret : Option FieldType}
    (hy : plainFor y = true) (hw : ws = Cond.code y cc maxL ret :: ws')
    (body : ∀ p e s m args below meth c s₁, BodyLoose p l y (headSpec ws rm) cc maxL ret e s m args below meth c s₁ → c.maxLocals = maxL → Pc args s →
      W p l e (headSpec ws rm).room s m args below meth c s.heap [] 0 0 (MQ below Qc args s mc ms free) (entryFrame m args maxL)) : Met l y ws rm Pc Qc mc ms free := by
  refine MetFree.of_bodySF (code := cc) (maxLocals := maxL) (ret := ret) hy ?_ ?_
  · intro args s m h hn
    obtain ⟨meth, c, h1, h2, h3, h4, h5, h6, -, -⟩ := Cond.code_spec hn (atoms_spec (ws := ws) h _ (by rw [hw]; exact List.mem_cons_self))
    exact ⟨meth, c, h1, h2, h3, h4, h5, h6⟩
  · intro p e s m args below meth c s₁ B hml hP _
    have hh0 : s₁.heap = s.heap := by rw [B.state]; rfl
    obtain ⟨t, a1, o, b1, b2, b3⟩ := body p e s m args below meth c s₁ B hml hP s₁ hh0 (Stand.of_body B)
    exact ⟨t, o, a1, b1, b2, ⟨b3.1, b3.2⟩⟩
theorem AW.met {μ : MD} {d mc ms N : Nat} {As : List Value} {M : Mem} {Q : Option Value → Nat → Mem → Prop} (hpl : plainFor μ.1 = true) (hlen : (As.map fun v => v.category).sum ≤ μ.2.2.1) (k : AW μ d mc ms N 0 (lv_args 0 As) [] M Q) (g : World) (l : Launch) :
    Met l μ.1 (wsM μ) (rmM d mc ms) (fun a U => a = (As.map (tv (wad g))).toArray ∧ Pic g N M U) (AQ g Q) mc ms (wA g) := by
  refine Met.ofWF (cc := μ.2.1) (maxL := μ.2.2.1) (ret := μ.2.2.2) hpl rfl ?_
  intro p e s m args below meth c s₁ B hml hv
  obtain ⟨rfl, hR, hK, hSt, hz⟩ := hv
  have hts := atoms_spec (ws := wsM μ) B.pre
  rw [lg_entry_eq]
  have hl := lv_entry (As.map (tv (wad g))) (n := μ.2.2.1) (by rw [sl_len]; exact hlen)
  rw [args_map] at hl
  exact k g p l e (rmM d mc ms) s m _ below meth c s.heap [] 0 0 _ ⟨B.exec, B.bytes, hml, B.returns, findClass_of_methodNamed B.named, fun w h => hts w (List.mem_cons_of_mem _ h), B.notSynchronized, (name_of_methodNamed B.named B.method).1, hK, hSt, hz, Nat.le_refl _, Nat.le_refl _⟩ va_S.rf hR (by show 0 + mc ≤ mc; omega) (by show 0 + ms ≤ ms; omega) hl
section CALLS
theorem run_fin {p : Program} {l : Launch} {e : Env} {R : Room} {s : State} {m : MethodId} {args a : Array Value} {below : List Frame} {meth : Method} {c : Code} {H : Heap} {locs : List Loc} {cells slots mc' ms' pc : Nat} {ls : Array Slot} {st0 rest : List Value} {g : World} {Q' : Option Value → Nat → Mem → Prop} {QQ : State → Prop}
    (hr : va_Run p l e R s m args below meth c H locs cells slots mc' ms' (F0 m pc ls st0) rest (AQ g Q' a) (wA g)) (hS : va_S (wA g) s.heap H locs)
    (kk : ∀ (r : Option Value) (N' : Nat) (M' : Mem) (H1 : Heap) (locs1 : List Loc), Q' r N' M' → Rep g N' M' H1 → va_S (wA g) s.heap H1 locs1 → W p l e R s m args below meth c H1 locs1 (cells + mc') (slots + ms') QQ (F0 m (pc + 3) ls ((r.map (tv (wad g))).toList ++ rest))) : W p l e R s m args below meth c H locs cells slots QQ (F0 m pc ls st0) := by
  intro T hT X
  obtain ⟨v, st₀, t, T', Lc, h0, X', hL, e1, e2, ⟨⟨r, N', M', hv, hq, hrep⟩, hz, hk⟩, st⟩ := hr T hT X
  cases hv
  rw [h0] at hz hk
  obtain ⟨t2, a1, b1⟩ := kk r N' M' T'.heap (locs ++ Lc) hq (by rw [e1]; exact hrep) ⟨Nat.le_trans hS.1 (by rw [e1]; exact hz), fun q h1 h2 => by rw [e1, hk q (Nat.lt_of_lt_of_le h1 hS.1) h2]; exact hS.2.1 q h1 h2, fun q hq => by
      rcases List.mem_append.mp hq with h | h
      · exact hS.2.2 q h
      · exact hL q h⟩ T' rfl X'
  exact ⟨t2, st t2 a1, b1⟩
variable {μ μ' : MD} {d mc ms N pc : Nat} {L : List (Nat × Value)} {S : List Value} {M : Mem} {Q : Option Value → Nat → Mem → Prop}
theorem mf_gi {n : Nat} (h : MFc μ' n) : GoodIn wsG (wsM μ') := fun w hw => by
  rcases List.mem_cons.mp hw with rfl | hw
  · exact wsG_gg _ h.1
  · exact wsG_gg _ hw
theorem mf_par {n : Nat} (h : MFc μ' n) : ∀ sig, parseMethodDescriptor μ'.1.desc = some sig → n = sig.parameters.length := fun sig hs => by
  have h2 := h.2.2.2.1
  rw [hs] at h2
  exact (Option.some.inj h2).symm
theorem a_callV {n ix d' mc' ms' mc1 ms1 b ci : Nat} {As : List Value} (hp : MFv μ' n) (hlk : MLK μ.1.cls ix μ') (hd : d' < d) (hn : As.length = n) (hAs : ((.ref b :: As : List Value).map fun v => v.category).sum ≤ μ'.2.2.1) (hkb : KD b = ci) (hci : ci < 11) (hcn : (cN ci).1 = μ'.1.cls) (hb : 2 ≤ b) (hbN : b < N) (hS8 : (S.map fun v => v.category).sum ≤ 8)
    (hmc : mc' + mc1 ≤ mc) (hms : ms' + ms1 ≤ ms) (hdg : decode μ.2.1 pc = .ok (.invokevirtual ix, 3)) (k : AW μ' d' mc' ms' N 0 (lv_args 0 (.ref b :: As)) [] M (fun r N' M' => AW μ d mc1 ms1 N' (pc + 3) L (ro r S) M' Q)) : AW μ d mc ms N pc L (As.reverse ++ .ref b :: S) M Q := by
  intro g p l e R s m args below meth c H locs cells slots ls C hS hR hc hs hl
  obtain ⟨c1, c2, c3, c4, c5, c6, c7, c8, c9, c10, c11, c12, c13⟩ := id C
  obtain ⟨f1, f2, f3⟩ := hp
  have hM := k.met f3.2.2.2.2.2 hAs g l
  have hat := hR.2.2 b hb hbN
  rw [ent_obj hkb hci] at hat
  have hP : va_P (wD g) vwCl [(wad g b, .inr (ci, fl (wad g) M b (tyz ci) 0))] H := fun j x hx => by
    have hj : j < 1 := (List.getElem?_eq_some_iff.mp hx).1
    obtain rfl : j = 0 := by omega
    cases hx
    exact hat
  have hrun := va_runV (p := p) (l := l) (e := e) (R := R) (s := s) (m := m) (args := args) (below := below) (meth := meth) (c := c) (n := n) (index := ix) (C := μ'.1.cls) (b := wad g b) (As := As.map (tv (wad g))) (rest := S.map (tv (wad g))) (g := F0 m pc ls ((As.reverse ++ .ref b :: S).map (tv (wad g)))) (H := H) (locs := locs) (cells := cells) (slots := slots) ⟨c1, c2, c3, c5, c6⟩ hM
    ⟨⟨rfl, rfl, by show d' + 1 + 1 ≤ _; omega, by have := f3.2.2.2.2.1; show 8 + (μ'.2.2.1 + 11) + 40 * (d' + 1) ≤ _; unfold kyl at c13; omega, pay_in c6 (mf_gi f3), List.mem_cons_self, c6 _ f3.1, c6 _ f3.2.1, f3.2.2.1, mf_par f3, c6 _ hlk⟩, c6 _ f1, c6 _ f2⟩
    ⟨fun a U gg mkk q => ⟨q.1, q.2.calling⟩, by rw [← hcn]; exact va_recv c9 hP (ci := ci) (q0 := 0) (cN_at ci hci) rfl, fun U hU hW => ⟨by simp [tv], Pic.at hR c9 c10 c11 hS hU hW⟩⟩ rfl (by simpa using hn) (hl.1.trans rfl) (by simp [tv]) (by
      show 2 * 0 + ((S.map (tv (wad g))).map fun v => v.category).sum ≤ 8
      rw [List.map_map]
      simp only [Function.comp_def, tv_cat]
      omega) hdg ⟨by omega, by omega⟩
  refine run_fin hrun hS (fun r N' M' H1 locs1 hq hR1 hS1 => ?_)
  rw [← ro_map]
  exact hq g p l e R s m args below meth c H1 locs1 _ _ ls C hS1 hR1 (by omega) (by omega) hl
theorem a_callS {n ix d' mc' ms' mc1 ms1 : Nat} {As : List Value} (hp : MFs μ' n) (hlk : MLK μ.1.cls ix μ') (hd : d' < d) (hn : As.length = n) (hAs : (As.map fun v => v.category).sum ≤ μ'.2.2.1) (hS8 : (S.map fun v => v.category).sum ≤ 8)
    (hmc : mc' + mc1 ≤ mc) (hms : ms' + ms1 ≤ ms) (hdg : decode μ.2.1 pc = .ok (.invokestatic ix, 3)) (k : AW μ' d' mc' ms' N 0 (lv_args 0 As) [] M (fun r N' M' => AW μ d mc1 ms1 N' (pc + 3) L (ro r S) M' Q)) : AW μ d mc ms N pc L (As.reverse ++ S) M Q := by
  intro g p l e R s m args below meth c H locs cells slots ls C hS hR hc hs hl
  obtain ⟨c1, c2, c3, c4, c5, c6, c7, c8, c9, c10, c11, c12, c13⟩ := id C
  obtain ⟨f1, f3⟩ := hp
  have hM := k.met f3.2.2.2.2.2 hAs g l
  have hrun := va_runS (p := p) (l := l) (e := e) (R := R) (s := s) (m := m) (args := args) (below := below) (meth := meth) (c := c) (n := n) (index := ix) (As := As.map (tv (wad g))) (rest := S.map (tv (wad g))) (g := F0 m pc ls ((As.reverse ++ S).map (tv (wad g)))) (H := H) (locs := locs) (cells := cells) (slots := slots) ⟨c1, c2, c3, c5, c6⟩ hM
    ⟨⟨rfl, rfl, by show d' + 1 + 1 ≤ _; omega, by have := f3.2.2.2.2.1; show 8 + (μ'.2.2.1 + 11) + 40 * (d' + 1) ≤ _; unfold kyl at c13; omega, pay_in c6 (mf_gi f3), List.mem_cons_self, c6 _ f3.1, c6 _ f3.2.1, f3.2.2.1, mf_par f3, c6 _ hlk⟩, c6 _ f1⟩
    ⟨fun a U gg mkk q => ⟨q.1, q.2.calling⟩, fun U hU hW => ⟨by simp, Pic.at hR c9 c10 c11 hS hU hW⟩⟩ rfl (by simpa using hn) (hl.1.trans rfl) (by simp) (by
      show 2 * 0 + ((S.map (tv (wad g))).map fun v => v.category).sum ≤ 8
      rw [List.map_map]
      simp only [Function.comp_def, tv_cat]
      omega) hdg ⟨by omega, by omega⟩
  refine run_fin hrun hS (fun r N' M' H1 locs1 hq hR1 hS1 => ?_)
  rw [← ro_map]
  exact hq g p l e R s m args below meth c H1 locs1 _ _ ls C hS1 hR1 (by omega) (by omega) hl
theorem a_callSN {n ix d' mc' ms' mc1 ms1 : Nat} {As : List Value} {host : String} (hp : MFs μ' n) (hlk : (μ.1.cls, ix, μ'.1, host) ∈ nestM) (hd : d' < d) (hn : As.length = n) (hAs : (As.map fun v => v.category).sum ≤ μ'.2.2.1) (hS8 : (S.map fun v => v.category).sum ≤ 8)
    (hmc : mc' + mc1 ≤ mc) (hms : ms' + ms1 ≤ ms) (hdg : decode μ.2.1 pc = .ok (.invokestatic ix, 3)) (k : AW μ' d' mc' ms' N 0 (lv_args 0 As) [] M (fun r N' M' => AW μ d mc1 ms1 N' (pc + 3) L (ro r S) M' Q)) : AW μ d mc ms N pc L (As.reverse ++ S) M Q := by
  intro g p l e R s m args below meth c H locs cells slots ls C hS hR hc hs hl
  obtain ⟨c1, c2, c3, c4, c5, c6, c7, c8, c9, c10, c11, c12, c13⟩ := id C
  obtain ⟨f1, f3⟩ := hp
  have hM := k.met f3.2.2.2.2.2 hAs g l
  have hnest := c10.2.2.2.2.2.1 _ hlk
  have hrun := va_runSN (p := p) (l := l) (e := e) (R := R) (s := s) (m := m) (args := args) (below := below) (meth := meth) (c := c) (n := n) (index := ix) (host := host) (As := As.map (tv (wad g))) (rest := S.map (tv (wad g))) (g := F0 m pc ls ((As.reverse ++ S).map (tv (wad g)))) (H := H) (locs := locs) (cells := cells) (slots := slots) ⟨c1, c2, c3, c5, c6⟩ hM
    ⟨⟨⟨rfl, rfl, by show d' + 1 + 1 ≤ _; omega, by have := f3.2.2.2.2.1; show 8 + (μ'.2.2.1 + 11) + 40 * (d' + 1) ≤ _; unfold kyl at c13; omega, pay_in c6 (mf_gi f3), List.mem_cons_self⟩, c6 _ f3.1, c6 _ f3.2.1, f3.2.2.1, mf_par f3, va_Nw.use rfl hnest⟩, c6 _ f1, trivial⟩
    ⟨fun a U gg mkk q => ⟨q.1, q.2.calling⟩, fun U hU hW => ⟨by simp, Pic.at hR c9 c10 c11 hS hU hW⟩⟩ rfl (by simpa using hn) (hl.1.trans rfl) (by simp) (by
      show 2 * 0 + ((S.map (tv (wad g))).map fun v => v.category).sum ≤ 8
      rw [List.map_map]
      simp only [Function.comp_def, tv_cat]
      omega) hdg ⟨by omega, by omega⟩
  refine run_fin hrun hS (fun r N' M' H1 locs1 hq hR1 hS1 => ?_)
  rw [← ro_map]
  exact hq g p l e R s m args below meth c H1 locs1 _ _ ls C hS1 hR1 (by omega) (by omega) hl
theorem a_callI {n ix d' mc' ms' mc1 ms1 b : Nat} {As : List Value} (hp : MFi μ' n) (hlk : MLK μ.1.cls ix μ') (hd : d' < d) (hn : As.length = n) (hAs : ((.ref b :: As : List Value).map fun v => v.category).sum ≤ μ'.2.2.1) (hS8 : (S.map fun v => v.category).sum ≤ 8)
    (hmc : mc' + mc1 ≤ mc) (hms : ms' + ms1 ≤ ms) (hdg : decode μ.2.1 pc = .ok (.invokespecial ix, 3)) (k : AW μ' d' mc' ms' N 0 (lv_args 0 (.ref b :: As)) [] M (fun r N' M' => AW μ d mc1 ms1 N' (pc + 3) L (ro r S) M' Q)) : AW μ d mc ms N pc L (As.reverse ++ .ref b :: S) M Q := by
  intro g p l e R s m args below meth c H locs cells slots ls C hS hR hc hs hl
  obtain ⟨c1, c2, c3, c4, c5, c6, c7, c8, c9, c10, c11, c12, c13⟩ := id C
  obtain ⟨f1, f2, f4, f3⟩ := hp
  have hM := k.met f3.2.2.2.2.2 hAs g l
  have hcode := f3.1
  have hgi := mf_gi f3
  rw [f4] at hcode
  have hrun := va_runI (p := p) (l := l) (e := e) (R := R) (s := s) (m := m) (args := args) (below := below) (meth := meth) (c := c) (n := n) (index := ix) (b := wad g b) (bytes := μ'.2.1) (maxL := μ'.2.2.1) (As := As.map (tv (wad g))) (rest := S.map (tv (wad g))) (g := F0 m pc ls ((As.reverse ++ .ref b :: S).map (tv (wad g)))) (H := H) (locs := locs) (cells := cells) (slots := slots) ⟨c1, c2, c3, c5, c6⟩ hM
    ⟨⟨rfl, rfl, by show d' + 1 + 1 ≤ _; omega, by have := f3.2.2.2.2.1; show 8 + (μ'.2.2.1 + 11) + 40 * (d' + 1) ≤ _; unfold kyl at c13; omega, pay_in c6 hgi, by rw [← f4]; exact List.mem_cons_self, c6 _ hcode, c6 _ f3.2.1, f3.2.2.1, mf_par f3, c6 _ hlk⟩, f2, c6 _ f1⟩
    ⟨fun a U gg mkk q => ⟨q.1, q.2.calling⟩, fun U hU hW => ⟨by simp [tv], Pic.at hR c9 c10 c11 hS hU hW⟩⟩ rfl (by simpa using hn) (hl.1.trans rfl) (by simp [tv]) (by
      show 2 * 0 + ((S.map (tv (wad g))).map fun v => v.category).sum ≤ 8
      rw [List.map_map]
      simp only [Function.comp_def, tv_cat]
      omega) hdg ⟨by omega, by omega⟩
  refine run_fin hrun hS (fun r N' M' H1 locs1 hq hR1 hS1 => ?_)
  rw [← ro_map]
  exact hq g p l e R s m args below meth c H1 locs1 _ _ ls C hS1 hR1 (by omega) (by omega) hl
theorem a_objInit {ix b : Nat} (hlk : Cond.methodLink μ.1.cls ix objectInit ∈ wsG) (hS8 : (S.map fun v => v.category).sum ≤ 8) (hdg : decode μ.2.1 pc = .ok (.invokespecial ix, 3)) (kk : AW μ d mc ms N (pc + 3) L S M Q) : AW μ d mc ms N pc L (.ref b :: S) M Q := by
  intro g p l e R s m args below meth c H locs cells slots ls C hS hR hc hs hl
  obtain ⟨c1, c2, c3, c4, c5, c6, c7, c8, c9, c10, c11, c12, c13⟩ := id C
  refine W.objInit c1 c2 c5 (c6 _ hlk) (c6 _ kobj_i) (c6 _ kobj_c) rfl (by rw [c3]; exact hl.1) rfl hdg (by omega) (by
      show 2 * 0 + ((S.map (tv (wad g))).map fun v => v.category).sum + 12 ≤ _
      rw [List.map_map]
      simp only [Function.comp_def, tv_cat]
      unfold kyl at c13
      omega) ?_
  exact kk g p l e R s m args below meth c H locs cells slots ls C hS hR hc hs hl
end CALLS
end
section
/-! making cells; SIGNS; the script -/
theorem tc9 : ∀ ci, ci < 11 → ∀ k, k < (cN ci).2.2 → tco (tyN ci k) ≠ 9 := by
  intro ci h
  match ci, h with
  | 0, _ => decide +kernel
  | 1, _ => decide +kernel
  | 2, _ => decide +kernel
  | 3, _ => decide +kernel
  | 4, _ => decide +kernel
  | 5, _ => decide +kernel
  | 6, _ => decide +kernel
  | 7, _ => decide +kernel
  | 8, _ => decide +kernel
  | 9, _ => decide +kernel
  | 10, _ => decide +kernel
theorem ent_mk {g : World} {M : Mem} {N n q : Nat} (h : q ≠ N) : ent g (mk M N n) q = ent g M q :=
  ent_cong (by funext j; exact if_neg h) (by funext j; exact if_neg h) (by funext j; exact if_neg h) (if_neg h)
theorem Rep.new {g : World} {N n : Nat} {M : Mem} {H H1 : Heap} (hR : Rep g N M H) (hz : H1.size = H.size + 1) (ho : ∀ a, a < H.size → H1[a]? = H[a]?) (hat : va_at (wD g) vwCl (wad g N, ent g (mk M N n) N) H1) : Rep g (N + 1) (mk M N n) H1 := by
  have h2N := hR.1.1
  obtain ⟨e1, e2⟩ := ent_0 (ent_mk (g := g) (M := M) (N := N) (n := n) (q := 0) (by omega))
  refine ⟨⟨by omega, hR.1.2.1.trans e1.symm, fun j hj => by rw [e2]; exact hR.1.2.2 j hj⟩, by rw [hz, hR.2.1]; omega, fun q h1 h2 => ?_⟩
  by_cases h : q = N
  · subst h; exact hat
  · rw [ent_mk h]
    have hq := hR.2.2 q h1 (by omega)
    exact hq.kept (ho _ hq.lt)
theorem va_S.grow {A : Nat → Prop} {H0 H H1 : Heap} {locs : List Loc} (h : va_S A H0 H locs) (hz : H1.size = H.size + 1) (ho : ∀ a, a < H.size → H1[a]? = H[a]?) : va_S A H0 H1 locs :=
  ⟨Nat.le_trans h.1 (by omega), fun x h1 h2 => (ho x (Nat.lt_of_lt_of_le h1 h.1)).trans (h.2.1 x h1 h2), h.2.2⟩
theorem Rep.top {g : World} {N : Nat} {M : Mem} {H : Heap} (hR : Rep g N M H) : H.size = wad g N := by rw [hR.2.1, wad_eq hR.1.1]
section NEWS
variable {μ : MD} {d mc ms mc1 ms1 N pc : Nat} {L : List (Nat × Value)} {S : List Value} {M : Mem} {Q : Option Value → Nat → Mem → Prop}
theorem a_new {ix ci : Nat} (hnw : NEW μ.1.cls ix ci) (hk : KD N = ci) (hmc : mc1 + 1 ≤ mc) (hms : ms1 + (cN ci).2.2 ≤ ms) (hdg : decode μ.2.1 pc = .ok (.new ix, 3)) (kk : AW μ d mc1 ms1 (N + 1) (pc + 3) L (.ref N :: S) (mk M N 0) Q) : AW μ d mc ms N pc L S M Q := by
  intro g p l e R s m args below meth c H locs cells slots ls C hS hR hc hs hl
  obtain ⟨c1, c2, c3, c4, c5, c6, c7, c8, c9, -⟩ := id C
  obtain ⟨h1, h2, h3, h4⟩ := hnw
  have hcl := cN_at ci h1
  have hKn := c9.1 ci _ hcl
  refine W.newcK c1 c2 c5 (c6 _ h2) (c6 _ h3) (c6 _ h4) rfl hdg (by omega) (by omega) hKn.2.1 hR.top fun H1 kC hkC e1 z1 o1 => ?_
  rw [← hR.top] at z1 o1
  refine kk g p l e R s m args below meth c H1 locs _ _ ls C (hS.grow z1 o1) (hR.new z1 o1 ?_) (by omega) (by omega) hl
  rw [ent_obj hk h1]
  refine ⟨_, hcl, (u_born (tyN ci) c6 (inG ci h1) hKn hkC e1 (tyN_ok ci h1)).to (fun j hj => ?_)⟩
  have ht := tcN ci h1 j hj
  have h9 := tc9 ci h1 j hj
  have hf : (fl (wad g) (mk M N 0) N (tyz ci) 0)[j]? = some (fv (wad g) (mk M N 0) N j (tco (tyN ci j))) := by rw [fl_get, ht, Option.map_some, Nat.zero_add]
  unfold vp_V
  rw [List.getD_eq_getElem?_getD, hf, Option.getD_some]
  generalize tyN ci j = ty at h9 ⊢
  cases ty <;> first | (exact absurd rfl h9) | (simp [tco, fv, rI, rJ, rA, mk, va_rf, defaultValue])
theorem a_newa {n kd : Nat} {v : Int32} {atype : ArrayType} (harr : Cond.arrayClass (newarray.typeOf atype) ∈ wsG) (hk : KD N = kd) (hkd : (newarray.typeOf atype = .int ∧ kd = 11) ∨ (newarray.typeOf atype = .long ∧ kd = 12) ∨ (newarray.typeOf atype = .byte ∧ kd = 13) ∨ (newarray.typeOf atype = .boolean ∧ kd = 14)) (h0 : ¬ v < 0) (hv : v.toNatClampNeg = n) (hn : n ≤ 60000) (hln : ln (mk M N n) N = n) (hmc : mc1 + 1 ≤ mc) (hms : ms1 + n ≤ ms) (hdg : decode μ.2.1 pc = .ok (.newarray atype, 2)) (kk : AW μ d mc1 ms1 (N + 1) (pc + 2) L (.ref N :: S) (mk M N n) Q) : AW μ d mc ms N pc L (.int v :: S) M Q := by
  intro g p l e R s m args below meth c H locs cells slots ls C hS hR hc hs hl
  obtain ⟨c1, c2, c3, c4, c5, c6, c7, c8, c9, -⟩ := id C
  refine va_newaK c1 c2 (c6 _ harr) rfl hdg rfl h0 hv (by
    rcases hkd with ⟨h, -⟩ | ⟨h, -⟩ | ⟨h, -⟩ | ⟨h, -⟩ <;> rw [h] <;> simp only [componentBytes] <;> omega) (by omega) (by omega) hR.top fun H1 cA e1 z1 o1 hAr hNm => ?_
  rw [← hR.top] at z1 o1
  refine kk g p l e R s m args below meth c H1 locs _ _ ls C (hS.grow z1 o1) (hR.new z1 o1 ?_) (by omega) (by omega) hl
  have eI : (mk M N n).1 N = fun _ => 0 := by funext j; exact if_pos rfl
  have eJ : (mk M N n).2.1 N = fun _ => 0 := by funext j; exact if_pos rfl
  rcases hkd with ⟨h, rfl⟩ | ⟨h, rfl⟩ | ⟨h, rfl⟩ | ⟨h, rfl⟩ <;> rw [h] at e1 hNm
  · rw [ent_I hk (Or.inl rfl), hln, eI]
    have : wc g 0 = cA := Option.some.inj (((c9.2 0 _ rfl).2 : s.vm.findClass _ = some (wc g 0)).symm.trans hNm)
    show H1[wad g N]? = some (vp_cell (wc g 0) _)
    rw [this, vp_cell_i]
    exact e1
  · rw [ent_J hk, hln, eJ]
    have : wc g 1 = cA := Option.some.inj (((c9.2 1 _ rfl).2 : s.vm.findClass _ = some (wc g 1)).symm.trans hNm)
    show H1[wad g N]? = some (vp_cell (wc g 1) _)
    rw [this, vp_cell_l]
    exact e1
  · rw [ent_I hk (Or.inr (Or.inl rfl)), hln, eI]
    have : wc g 2 = cA := Option.some.inj (((c9.2 2 _ rfl).2 : s.vm.findClass _ = some (wc g 2)).symm.trans hNm)
    show H1[wad g N]? = some (vp_cell (wc g 2) _)
    rw [this, vp_cell_i]
    exact e1
  · rw [ent_I hk (Or.inr (Or.inr rfl)), hln, eI]
    have : wc g 3 = cA := Option.some.inj (((c9.2 3 _ rfl).2 : s.vm.findClass _ = some (wc g 3)).symm.trans hNm)
    show H1[wad g N]? = some (vp_cell (wc g 3) _)
    rw [this, vp_cell_i]
    exact e1
theorem a_anew {n kd ix : Nat} {v : Int32} {Cn : String} (hcl : Cond.classLink μ.1.cls ix Cn ∈ wsG) (hk : KD N = kd) (hkd : (Cn = "SheetMarker$Formula" ∧ kd = 15) ∨ (Cn = "SheetMarker$Sheet" ∧ kd = 16)) (h0 : ¬ v < 0) (hv : v.toNatClampNeg = n) (hn : n ≤ 60000) (hln : ln (mk M N n) N = n) (hmc : mc1 + 1 ≤ mc) (hms : ms1 + n ≤ ms) (hdg : decode μ.2.1 pc = .ok (.anewarray ix, 3)) (kk : AW μ d mc1 ms1 (N + 1) (pc + 3) L (.ref N :: S) (mk M N n) Q) : AW μ d mc ms N pc L (.int v :: S) M Q := by
  intro g p l e R s m args below meth c H locs cells slots ls C hS hR hc hs hl
  obtain ⟨c1, c2, c3, c4, c5, c6, c7, c8, c9, c10, -⟩ := id C
  subst hv
  have hao : va_AO Cn s := by
    rcases hkd with ⟨rfl, -⟩ | ⟨rfl, -⟩
    · exact c10.2.2.2.2.2.2.2.1
    · exact c10.2.2.2.2.2.2.2.2
  refine W.anew c1 c2 c5 (c6 _ hcl) (va_AO.use hao) rfl hdg rfl h0 (by omega) (by omega) (by omega) fun cA kA comp f1 f2 f3 f4 => ?_
  generalize hH1 : H.push ({ cls := cA, slots := Array.replicate v.toNatClampNeg .null, vm := .none } : Cell) = H1
  have z1 : H1.size = H.size + 1 := by rw [← hH1, Array.size_push]
  have e1 : H1[H.size]? = some (arrV cA v.toNatClampNeg (fun _ => .null)) := by rw [← hH1, Array.getElem?_push_size, ← arrV_new]
  have o1 : ∀ q : Nat, q < H.size → H1[q]? = H[q]? := fun q hq => by rw [← hH1, Array.getElem?_push, if_neg (Nat.ne_of_lt hq)]
  have hst : (F0 m (pc + 3) ls (.ref H.size :: S.map (tv (wad g)))) = F0 m (pc + 3) ls ((.ref N :: S : List Value).map (tv (wad g))) := by rw [hR.top]; rfl
  refine W.eq hst ?_
  refine kk g p l e R s m args below meth c H1 locs _ _ ls C (hS.grow z1 o1) (hR.new z1 o1 ?_) (by omega) (by omega) hl
  have eA : (fun j => (rA (mk M N v.toNatClampNeg) N j).map (wad g)) = fun _ => none := by funext j; simp [rA, mk]
  rw [hR.top] at e1
  rcases hkd with ⟨rfl, rfl⟩ | ⟨rfl, rfl⟩
  · rw [ent_A hk (Or.inl rfl), hln, eA]
    obtain ⟨kA', comp', k1, k2, k3, k4⟩ := (c9.2 4 _ rfl).2
    have : wc g 4 = cA := Option.some.inj (k4.symm.trans f1)
    show H1[wad g N]? = some (vp_cell (wc g 4) _)
    rw [this, vp_cell_q]
    exact e1
  · rw [ent_A hk (Or.inr rfl), hln, eA]
    obtain ⟨kA', comp', k1, k2, k3, k4⟩ := (c9.2 5 _ rfl).2
    have : wc g 5 = cA := Option.some.inj (k4.symm.trans f1)
    show H1[wad g N]? = some (vp_cell (wc g 5) _)
    rw [this, vp_cell_q]
    exact e1
/-- a cell into an array of references -/
theorem a_aast {q v kd ci : Nat} {i : Int32} (hk : KD q = kd) (hkd : (kd = 15 ∧ ci = 2) ∨ (kd = 16 ∧ ci = 7)) (hv : KD v = ci) (hq : 2 ≤ q) (hn : q < N) (hv2 : 2 ≤ v) (hvN : v < N) (hin : vp_in i (ln M q)) (hdg : decode μ.2.1 pc = .ok (.aastore, 1)) (kk : AW μ d mc ms N (pc + 1) L S (sA M q i.toNatClampNeg (some v)) Q) : AW μ d mc ms N pc L (.ref v :: .int i :: .ref q :: S) M Q := by
  intro g p l e R s m args below meth c H locs cells slots ls C hS hR hc hs hl
  obtain ⟨c1, c2, c3, c4, c5, c6, c7, c8, c9, -⟩ := id C
  have hat := hR.2.2 q hq hn
  have hkq : kd = 15 ∨ kd = 16 := by omega
  rw [ent_A hk hkq] at hat
  have hci : ci < 11 := by omega
  have hav := hR.2.2 v hv2 hvN
  rw [ent_obj hv hci] at hav
  obtain ⟨r', hr', cellV, g1, g2, g3, -⟩ := hav
  have hcls := (c9.1 ci _ (cN_at ci hci)).2
  have hlt : i.toNatClampNeg < ln M q := Nat.not_le.mp fun q => hin (Or.inr q)
  have h0 : ¬ i < 0 := fun q => hin (Or.inl q)
  have hra : va_RA s (wc g (kd - 11)) (.object (cN ci).1) := by
    rcases hkd with ⟨rfl, rfl⟩ | ⟨rfl, rfl⟩
    · exact (c9.2 4 _ rfl).2
    · exact (c9.2 5 _ rfl).2
  obtain ⟨kA, comp, k1, k2, k3, -⟩ := hra
  have hcomp : comp = (wD g).1 ci := Option.some.inj (k3.symm.trans hcls.1)
  subst hcomp
  obtain ⟨kC, hkC, -⟩ := hcls.2
  refine W.aast c1 c2 hat (fun q h => by cases h) (fun h => by cases h) k1 k2 rfl hkC ⟨h0, by show _ < (arrV _ _ _).slots.size; rw [arrV_size]; exact hlt⟩ g1 (fun q h => by rw [g3] at h; cases h) (by rw [g2]; exact hkC) (by rw [g2]; exact va_assign hcls) rfl rfl hdg fun H1 e1 z oq => ?_
  refine kk g p l e R s m args below meth c H1 _ cells slots ls C (hS.put z oq (wad_ge hq)) (hR.put hq z oq (fun q' h => ent_sA h) ?_) hc hs hl
  rw [ent_A hk hkq]
  show H1[wad g q]? = some (vp_cell _ _)
  rw [e1]
  rw [vp_cell_q, vp_cell_q, arrV_store]
  congr 2
  funext j
  by_cases hj : j = i.toNatClampNeg
  · subst hj
    simp [updV, rA, sA, up2, va_rf]
  · simp [updV, rA, sA, up2, hj]
theorem a_aastN {q : Nat} {i : Int32} (hk : KD q = 15) (hq : 2 ≤ q) (hn : q < N) (hin : vp_in i (ln M q)) (hdg : decode μ.2.1 pc = .ok (.aastore, 1)) (kk : AW μ d mc ms N (pc + 1) L S (sA M q i.toNatClampNeg none) Q) : AW μ d mc ms N pc L (.null :: .int i :: .ref q :: S) M Q := by
  intro g p l e R s m args below meth c H locs cells slots ls C hS hR hc hs hl
  obtain ⟨c1, c2, c3, c4, c5, c6, c7, c8, c9, -⟩ := id C
  have hat := hR.2.2 q hq hn
  rw [ent_A hk (Or.inl rfl)] at hat
  refine va_WaastN (C := "SheetMarker$Formula") c1 c2 hat ((c9.2 4 _ rfl).1 (ln M q) (fun j => va_rf ((rA M q j).map (wad g)))) (fun h => by cases h) (by show ¬ (i < 0 ∨ (arrV _ _ _).slots.size ≤ _); rw [arrV_size]; exact hin) rfl rfl hdg fun H1 e1 z oq => ?_
  refine kk g p l e R s m args below meth c H1 _ cells slots ls C (hS.put z oq (wad_ge hq)) (hR.put hq z oq (fun q' h => ent_sA h) ?_) hc hs hl
  rw [ent_A hk (Or.inl rfl)]
  show H1[wad g q]? = some (vp_cell _ _)
  rw [e1]
  rw [vp_cell_q, vp_cell_q, arrV_store]
  congr 2
  funext j
  by_cases hj : j = i.toNatClampNeg
  · subst hj
    simp [updV, rA, sA, up2, va_rf]
  · simp [updV, rA, sA, up2, hj]
theorem a_aastQ {q : Nat} {o : Option Nat} {i : Int32} (hk : KD q = 15) (hv : ∀ v, o = some v → KD v = 2 ∧ 2 ≤ v ∧ v < N) (hq : 2 ≤ q) (hn : q < N) (hin : vp_in i (ln M q)) (hdg : decode μ.2.1 pc = .ok (.aastore, 1)) (kk : AW μ d mc ms N (pc + 1) L S (sA M q i.toNatClampNeg o) Q) : AW μ d mc ms N pc L (rv o :: .int i :: .ref q :: S) M Q := by
  cases o with
  | none => exact a_aastN hk hq hn hin hdg kk
  | some v => exact a_aast hk (Or.inl ⟨rfl, rfl⟩) (hv v rfl).1 hq hn (hv v rfl).2.1 (hv v rfl).2.2 hin hdg kk
/-- SIGNS: its cell has the number 1 -/
theorem a_gets {ix : Nat} (hown : μ.1.cls = "SheetMarker$Judge") (hix : ix = 140) (hdg : decode μ.2.1 pc = .ok (.getstatic ix, 3)) (kk : AW μ d mc ms N (pc + 3) L (.ref 1 :: S) M Q) : AW μ d mc ms N pc L S M Q := by
  intro g p l e R s m args below meth c H locs cells slots ls C hS hR hc hs hl
  obtain ⟨c1, c2, c3, c4, c5, c6, c7, c8, c9, c10, -⟩ := id C
  subst hix
  rw [hown] at c5
  exact va_getsN (C := "SheetMarker") (n := "SIGNS") (d := "[C") (host := "SheetMarker") c1 c2 c10.2.1 hS c5 (va_Nw.use rfl c10.2.2.2.2.2.2.1) (fun _ h => h) hdg (kk g p l e R s m args below meth c H locs cells slots ls C hS hR hc hs hl)
theorem a_sgld {i v : Int32} (hin : vp_in i 4) (hv : (if i.toNatClampNeg = 0 then (43 : Int32) else if i.toNatClampNeg = 1 then 45 else if i.toNatClampNeg = 2 then 42 else 47) = v) (hdg : decode μ.2.1 pc = .ok (.caload, 1)) (kk : AW μ d mc ms N (pc + 1) L (.int v :: S) M Q) : AW μ d mc ms N pc L (.int i :: .ref 1 :: S) M Q := by
  intro g p l e R s m args below meth c H locs cells slots ls C hS hR hc hs hl
  obtain ⟨c1, c2, c3, c4, c5, c6, c7, c8, c9, c10, -⟩ := id C
  subst hv
  exact va_tc (t := wsg g) c1 c2 c10.2.2.1 hS hin rfl hdg (kk g p l e R s m args below meth c H locs cells slots ls C hS hR hc hs hl)
theorem a_sglen (hdg : decode μ.2.1 pc = .ok (.arraylength, 1)) (kk : AW μ d mc ms N (pc + 1) L (.int 4 :: S) M Q) : AW μ d mc ms N pc L (.ref 1 :: S) M Q := by
  intro g p l e R s m args below meth c H locs cells slots ls C hS hR hc hs hl
  obtain ⟨c1, c2, c3, c4, c5, c6, c7, c8, c9, c10, -⟩ := id C
  exact va_tlen (t := wsg g) c1 c2 c10.2.2.1 hS rfl hdg (kk g p l e R s m args below meth c H locs cells slots ls C hS hR hc hs hl)
/-- the script: its cell has the number 0 -/
theorem a_sld {i : Int32} (hin : vp_in i (ln M 0)) (hdg : decode μ.2.1 pc = .ok (.iaload, 1)) (kk : AW μ d mc ms N (pc + 1) L (.int (rI M 0 i.toNatClampNeg) :: S) M Q) : AW μ d mc ms N pc L (.int i :: .ref 0 :: S) M Q := by
  intro g p l e R s m args below meth c H locs cells slots ls C hS hR hc hs hl
  obtain ⟨c1, c2, c3, c4, c5, c6, c7, c8, c9, c10, c11, -⟩ := id C
  obtain ⟨-, e1, e2⟩ := hR.1
  have hin2 : vp_in i (wL g) := by rw [e1]; exact hin
  have hv := e2 i.toNatClampNeg (Nat.not_le.mp fun q => hin2 (Or.inr q))
  have k := kk g p l e R s m args below meth c H locs cells slots ls C hS hR hc hs hl
  have hb := c10.2.2.2.1
  refine va_sld (b := wb g) c1 c2 c10.1 (Nat.lt_of_lt_of_le hb c11) (Nat.not_le.mpr hb) hS hin2 hdg ?_
  rw [hv]
  exact k
theorem a_slen {v : Int32} (hv : Int32.ofNat (ln M 0) = v) (hdg : decode μ.2.1 pc = .ok (.arraylength, 1)) (kk : AW μ d mc ms N (pc + 1) L (.int v :: S) M Q) : AW μ d mc ms N pc L (.ref 0 :: S) M Q := by
  intro g p l e R s m args below meth c H locs cells slots ls C hS hR hc hs hl
  obtain ⟨c1, c2, c3, c4, c5, c6, c7, c8, c9, c10, c11, -⟩ := id C
  have e1 := hR.1.2.1
  have k := kk g p l e R s m args below meth c H locs cells slots ls C hS hR hc hs hl
  have hb := c10.2.2.2.1
  refine va_slen (b := wb g) c1 c2 c10.1 (Nat.lt_of_lt_of_le hb c11) (Nat.not_le.mpr hb) hS hdg ?_
  rw [e1, hv]
  exact k
end NEWS
end
section
/-! THE CLAIM OUT OF ONE WALK OF THE LAW'S BODY. Your part is whole_start (and what it stands on); all else here is the same for every law, but numbers. -/
def R_law : String := "SheetMarkerLaw"
def lw_P (b : Addr) (xs : List Int32) (args : Array Value) (s : State) : Prop := args = #[.ref b] ∧ s.IntsAt b xs ∧ xs.length ≤ 3072 ∧ (Jvm.Cond.and given_1 narrow_1).before args s = true
def lw_Q (_ : Array Value) (s : State) (o : Outcome) (t : State) : Prop := o = .returned (some (.int 1)) ∧ Framed s o t [] 600000 7302250
def lw_Z (below : List Frame) (a : Array Value) (s : State) : State → Prop := fun t => ∃ o, t.status = .running ∧ Ended t below o ∧ lw_Q a s o t
/-- the law's own end, with 1 on the stack, nothing written that was there before, its room as the claim has it -/
theorem lw_ret {p : Program} {l : Launch} {e : Env} {s : State} {m : MethodId} {below : List Frame} {meth : Method} {c : Code} {b : Nat} (hx : p.tables.exec = Jvm.exec) (hb : c.code = code) (hr : meth.sig.returnType = ret) (hlocks : meth.locks = false) {pc : Nat} {H : Heap} {ls : Array Slot} (hdg : decode code pc = .ok (.ireturn, 1)) : W p l e room_1 s m #[Value.ref b] below meth c H [] 600000 7302250 (lw_Z below #[Value.ref b] s) (F0 m pc ls [.int 1]) := by
  intro T hT X
  obtain ⟨fs, hret, hrun, hended, hW, hframe⟩ := X.leave (v := some (.int 1)) (hlocks := hlocks) (fun h => by rw [hr] at h; cases h)
  have hmeth' : T.vm.method? m = some meth := X.method'
  refine ⟨T.setFrames fs, ?_, .returned (some (.int 1)), hrun, hended, rfl, ⟨_, rfl⟩, hW, hframe⟩
  jvm_step X.here [X.here.top, hx, hb, hdg, hmeth', hr, ret, narrow_b1]
  (try refine ⟨rfl, ?_⟩); (try refine ⟨rfl, ?_⟩)
  first | (intro acts; rw [hret _ acts rfl rfl rfl]) | rw [hret _ _ rfl rfl rfl]
  exact Steps.refl _
/-- what holds at the law's entry: the machine, the code, the tables' words (any of lw_tbl by 'hts w (by decide +kernel)'), the script of L ints xs at the cell b, what the Statement gives of the start (any of its parts by flat_of_before) -/
def lw_At (p : Program) (s : State) (m : MethodId) (meth : Method) (c : Code) (b L : Nat) (xs : Nat → Int32) : Prop :=
  p.tables.exec = Jvm.exec ∧ c.code = code ∧ meth.sig.returnType = ret ∧ c.maxLocals = 4 ∧ s.vm.findClass R_law = some m.cls ∧ (∀ w ∈ lw_tbl, w.before #[Value.ref b] s = true) ∧ va_X b L xs s s.heap ∧ b < s.heap.size ∧ meth.locks = false ∧ (Jvm.Cond.and given_1 narrow_1).before #[Value.ref b] s = true
abbrev mL_law : MD := (yL_law, code, 4, some .boolean)
/-- the memory at the law's entry: the script of L ints -/
def M0 (L : Nat) (xs : Nat → Int32) : Mem := (fun a j => if a = 0 then xs j else 0, fun _ _ => 0, fun _ _ => none, fun a => if a = 0 then L else 0)
def law_ok : Prop := ∀ (L : Nat) (xs : Nat → Int32), L ≤ 3072 → AW mL_law 100 600000 7302250 2 0 [(0, .ref 0)] [] (M0 L xs) (fun r _ _ => r = some (.int 1))
theorem sg_nest {args : Array Value} {s : State} (hts : ∀ w ∈ lw_tbl, w.before args s = true) : ∀ q ∈ nestM, va_Nw (.methodLinkNest q.1 q.2.1 q.2.2.1 q.2.2.2) s := by
  have h : ∀ q ∈ nestM, Cond.methodLinkNest q.1 q.2.1 q.2.2.1 q.2.2.2 ∈ lw_tbl := by
    exact List.forall_mem_cons.mpr ⟨tT3 (List.mem_of_getElem? (i := 79) (by decide +kernel)), List.forall_mem_cons.mpr ⟨tT3 (List.mem_of_getElem? (i := 24) (by decide +kernel)), List.forall_mem_cons.mpr ⟨tT2 (List.mem_of_getElem? (i := 154) (by decide +kernel)), List.forall_mem_cons.mpr ⟨tT2 (List.mem_of_getElem? (i := 155) (by decide +kernel)), List.forall_mem_cons.mpr ⟨tT3 (List.mem_of_getElem? (i := 215) (by decide +kernel)), List.forall_mem_cons.mpr ⟨tT2 (List.mem_of_getElem? (i := 182) (by decide +kernel)), List.forall_mem_cons.mpr ⟨tT2 (List.mem_of_getElem? (i := 213) (by decide +kernel)), List.forall_mem_cons.mpr ⟨tT3 (List.mem_of_getElem? (i := 108) (by decide +kernel)), List.forall_mem_cons.mpr ⟨tT3 (List.mem_of_getElem? (i := 109) (by decide +kernel)), List.forall_mem_cons.mpr ⟨tT2 (List.mem_of_getElem? (i := 5) (by decide +kernel)), List.forall_mem_cons.mpr ⟨tT2 (List.mem_of_getElem? (i := 6) (by decide +kernel)), (fun _ h => absurd h List.not_mem_nil)⟩⟩⟩⟩⟩⟩⟩⟩⟩⟩⟩
  exact fun q hq => va_Nw.of rfl (hts _ (h q hq))
set_option maxHeartbeats 4000000 in
set_option maxRecDepth 100000 in
theorem whole_of (W0 : law_ok) {p : Program} {e : Env} {s : State} {m : MethodId} {below : List Frame} {meth : Method} {c : Code} (l : Launch) {b L : Nat} {xs : Nat → Int32} (hL : L ≤ 3072) (C0 : lw_At p s m meth c b L xs) (hname : meth.name = "law") : W p l e room_1 s m #[Value.ref b] below meth c s.heap [] 0 0 (lw_Z below #[Value.ref b] s) (entryFrame m ([Value.ref b] : List Value).toArray 4) := by
  obtain ⟨hx, hb, hr, hml, hown, hts, hX, hbl, hlocks, hgv⟩ := id C0
  have hG : ∀ w ∈ wsG, w.before #[Value.ref b] s = true := fun w h => hts w (wsG_tbl h)
  -- the classes
  have hkn : ∀ ci, ∃ (cC : ClassId) (iS : Nat → Nat), ci < 11 → u_Kn s (cN ci).1 (cN ci).2.1 (cN ci).2.2 cC iS := by
    intro ci
    by_cases h : ci < 11
    · have hi : Cond.instantiable (cN ci).1 (cN ci).2.2 ∈ wsG := by
        match ci, h with
        | 0, _ => exact gT1 (List.mem_of_getElem? (i := 66) (by decide +kernel)) (by decide +kernel)
        | 1, _ => exact gT1 (List.mem_of_getElem? (i := 120) (by decide +kernel)) (by decide +kernel)
        | 2, _ => exact gT2 (List.mem_of_getElem? (i := 15) (by decide +kernel)) (by decide +kernel)
        | 3, _ => exact gT1 (List.mem_of_getElem? (i := 153) (by decide +kernel)) (by decide +kernel)
        | 4, _ => exact gT1 (List.mem_of_getElem? (i := 37) (by decide +kernel)) (by decide +kernel)
        | 5, _ => exact gT1 (List.mem_of_getElem? (i := 101) (by decide +kernel)) (by decide +kernel)
        | 6, _ => exact gT2 (List.mem_of_getElem? (i := 48) (by decide +kernel)) (by decide +kernel)
        | 7, _ => exact gT1 (List.mem_of_getElem? (i := 60) (by decide +kernel)) (by decide +kernel)
        | 8, _ => exact gT1 (List.mem_of_getElem? (i := 23) (by decide +kernel)) (by decide +kernel)
        | 9, _ => exact gT1 (List.mem_of_getElem? (i := 15) (by decide +kernel)) (by decide +kernel)
        | 10, _ => exact gT4 (List.mem_of_getElem? (i := 65) (by decide +kernel)) (by decide +kernel)
      obtain ⟨cC, iS, hk⟩ := u_known (C := (cN ci).1) (T := (cN ci).2.1) (N := (cN ci).2.2) hG (inG ci h) (hG _ hi)
      exact ⟨cC, iS, fun _ => hk⟩
    · exact ⟨0, fun _ => 0, fun z => absurd z h⟩
  obtain ⟨dC, hdC⟩ : ∃ dC : Nat → ClassId, ∀ ci, ∃ iS : Nat → Nat, ci < 11 → u_Kn s (cN ci).1 (cN ci).2.1 (cN ci).2.2 (dC ci) iS := ⟨fun ci => Classical.choose (hkn ci), fun ci => Classical.choose_spec (hkn ci)⟩
  obtain ⟨dI, hdI⟩ : ∃ dI : Nat → Nat → Nat, ∀ ci, ci < 11 → u_Kn s (cN ci).1 (cN ci).2.1 (cN ci).2.2 (dC ci) (dI ci) := ⟨fun ci => Classical.choose (hdC ci), fun ci => Classical.choose_spec (hdC ci)⟩
  have arr : ∀ ty : FieldType, (∀ C, ty ≠ .object C) → Cond.arrayClass ty ∈ wsG → ∃ cA : ClassId, ArrOfT s cA ty ∧ s.vm.findClass ("[" ++ ty.toString) = some cA := by
    intro ty _ hm
    obtain ⟨cA, kA, comp, h1, h2, h3⟩ := Cond.arrayClass_spec (hG _ hm)
    exact ⟨cA, fun n z => ⟨fun k h => (by cases h), kA, h2, comp, h3⟩, h1⟩
  have arrO : ∀ Cn : String, va_AO Cn s → ∃ cA : ClassId, ArrOfT s cA (.object Cn) ∧ va_RA s cA (.object Cn) := by
    intro Cn hm
    obtain ⟨comp, cA, kA, h1, -, h2, h3, h4⟩ := Cond.arrayOver_spec (va_AO.use (A := #[]) hm)
    exact ⟨cA, fun n z => ⟨fun k h => (by cases h), kA, h2, comp, h3⟩, kA, comp, h2, h3, h1, h4⟩
  have hao1 : va_AO "SheetMarker$Formula" s := va_AO.of (hts _ (tT1 (List.mem_of_getElem? (i := 79) (by decide +kernel))))
  have hao2 : va_AO "SheetMarker$Sheet" s := va_AO.of (hts _ (tT1 (List.mem_of_getElem? (i := 59) (by decide +kernel))))
  obtain ⟨c0, a0, n0⟩ := arr .int (fun _ h => by cases h) ka_int
  obtain ⟨c1, a1, n1⟩ := arr .long (fun _ h => by cases h) ka_long
  obtain ⟨c2, a2, n2⟩ := arr .byte (fun _ h => by cases h) ka_byte
  obtain ⟨c3, a3, n3⟩ := arr .boolean (fun _ h => by cases h) ka_boolean
  obtain ⟨c4, a4, n4⟩ := arrO _ hao1
  obtain ⟨c5, a5, n5⟩ := arrO _ hao2
  -- SIGNS
  have hflat := flat_of_before _ hgv
  have hA : ∀ a : Nat, a < s.heap.size → ¬ (fun q : Nat => s.heap.size ≤ q) a := fun a h => Nat.not_le.mpr h
  obtain ⟨sg, hsg, hT⟩ := va_Tof (args := #[Value.ref b]) (s := s) (tm := .static "SheetMarker" "SIGNS" "[C") (ty := .char) (N := 4) (f := sgF) (A := fun q : Nat => s.heap.size ≤ q) (by decide) (hflat _ (by decide +kernel)) (va_eqt (z := 4) (hflat _ (by decide +kernel)))
    (fun j hj => by
      match j, hj with
      | 0, _ => exact va_eqt (z := 43) (hflat (.eq (.elem (.static "SheetMarker" "SIGNS" "[C") (.int 0)) (.int 43)) (by decide +kernel))
      | 1, _ => exact va_eqt (z := 45) (hflat (.eq (.elem (.static "SheetMarker" "SIGNS" "[C") (.int 1)) (.int 45)) (by decide +kernel))
      | 2, _ => exact va_eqt (z := 42) (hflat (.eq (.elem (.static "SheetMarker" "SIGNS" "[C") (.int 2)) (.int 42)) (by decide +kernel))
      | 3, _ => exact va_eqt (z := 47) (hflat (.eq (.elem (.static "SheetMarker" "SIGNS" "[C") (.int 3)) (.int 47)) (by decide +kernel))) hA
  have hZ := va_Zof (args := #[Value.ref b]) (s := s) (C := "SheetMarker") (n := "SIGNS") (d := "[C") (A := fun q : Nat => s.heap.size ≤ q) (hts _ (tT3 (List.mem_of_getElem? (i := 217) (by decide +kernel)))) (hG _ kiRX9) hsg hA
  have hsgl : sg < s.heap.size := by
    obtain ⟨cell, h1, -⟩ := hT
    exact (Array.getElem?_eq_some_iff.mp h1).1
  obtain ⟨g, hg⟩ : ∃ g : World, g = ((dC, dI), (fun k => if k = 0 then c0 else if k = 1 then c1 else if k = 2 then c2 else if k = 3 then c3 else if k = 4 then c4 else c5), b, sg, s.heap.size, L, xs) := ⟨_, rfl⟩
  have hK : va_K (wD g) vwCl (wtys g) s := by
    subst hg
    refine ⟨fun ci q hq => ?_, fun k q hk => ?_⟩
    · have hci : ci < 11 := (List.getElem?_eq_some_iff.mp hq).1
      have := cN_at ci hci
      rw [hq] at this
      cases this
      exact hdI ci hci
    · match k, hk with
      | 0, hk => cases hk; exact ⟨a0, n0⟩
      | 1, hk => cases hk; exact ⟨a1, n1⟩
      | 2, hk => cases hk; exact ⟨a2, n2⟩
      | 3, hk => cases hk; exact ⟨a3, n3⟩
      | 4, hk => cases hk; exact ⟨a4, n4⟩
      | 5, hk => cases hk; exact ⟨a5, n5⟩
      | k + 6, hk => cases hk
  have hSt : Stat g s s.heap := by
    subst hg
    exact ⟨hX, hZ, hT, hbl, hsgl, sg_nest hts, va_Nw.of rfl (hts _ (tT3 (List.mem_of_getElem? (i := 216) (by decide +kernel)))), hao1, hao2⟩
  have hR : Rep g 2 (M0 L xs) s.heap := by
    subst hg
    refine ⟨⟨Nat.le_refl 2, rfl, fun j _ => rfl⟩, rfl, fun q h1 h2 => absurd h2 (by omega)⟩
  rw [lg_entry_eq]
  have hl := lv_entry ([.ref b]) (n := 4) (Nat.le_of_ble_eq_true rfl)
  have hl2 : lv_has ((lg_sl [Value.ref b] ++ List.replicate (4 - (lg_sl [Value.ref b]).length) Slot.unset).toArray) 4 (([(0, .ref 0)] : List (Nat × Value)).map (tvL (wad g))) := by
    subst hg
    exact hl
  have k := W0 L xs hL g p l e room_1 s m #[Value.ref b] below meth c s.heap [] 0 0 _ ⟨hx, hb, hml, hr, hown, hG, hlocks, hname, hK, hSt, by subst hg; exact Nat.le_refl _, by decide, by decide⟩ va_S.rf hR (by decide) (by decide) hl2
  intro T hT X
  obtain ⟨t, b1, o, b2, b3, ⟨⟨r, N', M', d1, rfl, d3⟩, d4⟩, Lc, ⟨f1, f2, f3⟩, f4⟩ := k T hT X
  refine ⟨t, b1, o, b2, b3, d1, f1, f2, ?_⟩
  refine f3.weaken (fun y hy hlt => ?_) (Nat.le_refl _) (Nat.le_refl _)
  have := f4 y hy
  subst hg
  exact absurd hlt (Nat.not_lt.mpr this)
theorem law_holds : law_ok := sorry
theorem whole_start {p : Program} {e : Env} {s : State} {m : MethodId} {below : List Frame} {meth : Method} {c : Code} (l : Launch) {b L : Nat} {xs : Nat → Int32} (hL : L ≤ 3072) (hname : meth.name = x.name) (C0 : lw_At p s m meth c b L xs) : W p l e room_1 s m #[Value.ref b] below meth c s.heap [] 0 0 (lw_Z below #[Value.ref b] s) (entryFrame m ([Value.ref b] : List Value).toArray 4) := whole_of law_holds l hL C0 hname
set_option maxHeartbeats 4000000 in
theorem lw_walk (l : Launch) (b : Addr) (xs : List Int32) : MetFree l x (headSpec (Jvm.Cond.code x code maxLocals ret :: tables_1) room_1) (lw_P b xs) (fun _ _ _ _ _ => True) lw_Q := by
  refine MetFree.of_bodyS (code := code) (maxLocals := maxLocals) (ret := ret) (by decide) ?_ ?_
  · intro args s m h hn
    obtain ⟨meth, c, h1, h2, h3, h4, h5, h6, -, -⟩ := Cond.code_spec hn (atoms_spec (ws := Jvm.Cond.code x code maxLocals ret :: tables_1) h _ List.mem_cons_self)
    exact ⟨meth, c, h1, h2, h3, h4, h5, h6⟩
  · intro p e s m args below meth c s₁ B hml0 hP _
    obtain ⟨rfl, hx, hbd, hgv⟩ := hP
    obtain ⟨scr, harrAt, hlist, hof, hsmall⟩ := hx
    obtain ⟨hcb, hkn, -, -⟩ := State.arrayAt?_spec harrAt
    have hown : s.vm.findClass R_law = some m.cls := findClass_of_methodNamed B.named
    have hts0 : ∀ c ∈ (Jvm.Cond.code x code maxLocals ret :: tables_1), c.before #[Value.ref b] s = true := atoms_spec (ws := Jvm.Cond.code x code maxLocals ret :: tables_1) B.pre
    have hts : ∀ w ∈ lw_tbl, w.before #[Value.ref b] s = true := k2_hts_sels lw_privs (fun w hw => hts0 w (List.mem_cons_of_mem _ hw)) lw_privs_ok
    have hml : c.maxLocals = 4 := B.maxLocals_eq (hts0 _ List.mem_cons_self)
    have X₀ : Stand p l e room_1 s m #[Value.ref b] below meth c s₁ [] 0 0 := Stand.of_body B
    have hh0 : s₁.heap = s.heap := by rw [B.state]; rfl
    have hsz : scr.slots.size = xs.length := by rw [← Array.length_toList, hlist, List.length_map]
    have hval : ∀ j : Nat, j < xs.length → scr.slots[j]? = some (.int (xs.getD j 0)) := fun j hj => by
      rw [← Array.getElem?_toList, hlist]
      simp [hj]
    have hbl : b < s.heap.size := (Array.getElem?_eq_some_iff.mp hcb).1
    have hX : va_X b xs.length (fun j => xs.getD j 0) s s.heap := ⟨scr, hcb, hof, hkn, hsz, hval⟩
    have K : W p l e room_1 s m #[Value.ref b] below meth c s₁.heap [] 0 0 (lw_Z below #[Value.ref b] s) (entryFrame m ([Value.ref b] : List Value).toArray 4) := by
      rw [hh0]
      exact whole_start l hbd (name_of_methodNamed B.named B.method).1 ⟨B.exec, B.bytes, B.returns, hml, hown, hts, hX, hbl, B.notSynchronized, hgv⟩
    obtain ⟨t, a1, o, b1, b2, b3⟩ := K s₁ rfl X₀
    exact ⟨t, o, a1, b1, b2, b3⟩
theorem lw_pre_spec {args : Array Value} {s : State} (h : (Jvm.Cond.and given_1 narrow_1).before args s = true) (hr : rest_1_c.before args s = true) : ∃ (b : Addr) (xs : List Int32), lw_P b xs args s := by
  have hs := flat_of_before _ h
  have hq := flat_of_before _ hr
  have hc : (Cond.count 1).before args s = true := hs _ (by decide +kernel)
  have harr : (Cond.arrayOf (.arg 0) .int).before args s = true := hs _ (by decide +kernel)
  have hle : (Cond.le (.length (.arg 0)) (.int 3072)).before args s = true := hs _ (by decide +kernel)
  have hlen : (Cond.isInt (.length (.arg 0))).before args s = true := hq _ (by decide +kernel)
  have hall : (Cond.all (.arg 0) (.isInt (.elem (.arg 0) (.index 0)))).before args s = true := hq _ (by decide +kernel)
  obtain ⟨b, xs, hb, hx⟩ := State.ints_of_pre rfl harr hlen hall
  have hsm : xs.length < 2 ^ 31 := hx.choose_spec.2.2.2
  have hev : (Term.length (.arg 0)).eval args s none [] s = some (.int xs.length.toInt32) := hx.length_eval hb
  have hv := Cond.le_ints hev (show (Term.int 3072).eval args s none [] s = some (.int 3072) from rfl)
  have hd : xs.length.toInt32 ≤ 3072 := by
    simpa [Cond.before, Cond.holds, hv] using hle
  have hN : xs.length ≤ 3072 := (Int32.ofNat_le_ofNat hsm (by decide)).mp (show Int32.ofNat xs.length ≤ Int32.ofNat 3072 from hd)
  exact ⟨b, xs, Cond.one_arg hc (show args[0]? = some (.ref b) from hb), hx, hN, h⟩
theorem lw_comes (l : Launch) : Comes l x (Jvm.Cond.code x code maxLocals ret :: tables_1) room_1 (fun tb e args s => Calls_1 tb e args s ∧ rest_1 tb e args s ∧ Pre_1 tb e args s)
    (fun _ _ args s o t => lw_Q args s o t) := by
  intro p e ha hc hk s m args below hf hfit hheap happ hpre
  obtain ⟨b, xs, hP⟩ := lw_pre_spec hpre.2.2 hpre.2.1
  obtain ⟨k, o, h1, h2, h3, hQ⟩ := lw_walk l b xs p e ha hc hk s m args below hf ((Spec.applies_iff_loose hf).mp happ).1 hP trivial
  exact ⟨k, o, h1, h2, h3, hQ⟩
theorem lw_frame {s t : State} {o : Outcome} {args : Array Value} (h : Framed s o t [] 600000 7302250) :
    Framed s o t (fieldLocs frame_1_writes args s ++ arrayLocs frame_1_arrays args s ++ staticLocs frame_1_statics s) 600000 7302250 := h
theorem lw_limb (L : Cond) (hL : ∀ (args : Array Value) (s t : State), L.after args s (.returned (some (.int 1))) t = true) :
    ArmFor flags0 classFile x code maxLocals ret World_1 tables_1 room_1 Calls_1 rest_1 Pre_1
      (fun tb e a s o t => postC L tb e a s o t ∧ Framed s o t (fieldLocs frame_1_writes a s ++ arrayLocs frame_1_arrays a s ++ staticLocs frame_1_statics s) 600000 7302250) := by
  intro l _ _ _ p e ha hc hk s m args below hf hfit hheap happ hpre
  obtain ⟨k, o, h1, h2, h3, rfl, hF⟩ := lw_comes l p e ha hc hk s m args below hf hfit hheap happ hpre
  exact ⟨k, _, h1, h2, h3, hL args s _, lw_frame hF⟩
theorem i_vc : Claimed_1_1 ∧ Claimed_1_2 := ⟨lw_limb limb_1_1 (fun args s t => by simp [limb_1_1, Cond.after, Cond.holds, Cond.value]), lw_limb limb_1_2 (fun args s t => Cond.after_iff.mpr (by
  first | (rw [show limb_1_2 = Cond.eq .result (.int 1) from rfl, Cond.eq_ints (x := 1) (y := 1) rfl rfl]; simp; done) | (simp [limb_1_2, Cond.value, Term.eval]; done)))⟩
end
