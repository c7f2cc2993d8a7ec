-- ===== PART A: goes FIRST, ahead of the names: the tables' words, and 'selects' of the private methods out of them =====
/-- a private method of a class that the tables say can be made, by its rows of tables_1 -/
def lw_okq (q : MethodName × Nat) : Prop := (q.1.cls ≠ "java/lang/invoke/MethodHandle" ∧ q.1.cls ≠ "java/lang/invoke/VarHandle") ∧ Cond.instantiable q.1.cls q.2 ∈ tables_1 ∧ Cond.privateMethod q.1 ∈ tables_1 ∧ Cond.instanceMethod q.1 ∈ tables_1
theorem lw_p0 : lw_okq (⟨"GaugeBench$Routine", "mayStandHere", "(I)Z"⟩, 5) := ⟨⟨by decide +kernel, by decide +kernel⟩, List.mem_of_getElem? (i := 28) (by decide +kernel), List.mem_of_getElem? (i := 174) (by decide +kernel), List.mem_of_getElem? (i := 175) (by decide +kernel)⟩
theorem lw_p1 : lw_okq (⟨"GaugeBench$Routine", "mayLeave", "()Z"⟩, 5) := ⟨⟨by decide +kernel, by decide +kernel⟩, List.mem_of_getElem? (i := 28) (by decide +kernel), List.mem_of_getElem? (i := 182) (by decide +kernel), List.mem_of_getElem? (i := 183) (by decide +kernel)⟩
theorem lw_p2 : lw_okq (⟨"GaugeBench$Routine", "isPartOpen", "(I)Z"⟩, 5) := ⟨⟨by decide +kernel, by decide +kernel⟩, List.mem_of_getElem? (i := 28) (by decide +kernel), List.mem_of_getElem? (i := 186) (by decide +kernel), List.mem_of_getElem? (i := 187) (by decide +kernel)⟩
theorem lw_p3 : lw_okq (⟨"GaugeBench$Routine", "tieToBlocks", "(LGaugeBench$Step;)V"⟩, 5) := ⟨⟨by decide +kernel, by decide +kernel⟩, List.mem_of_getElem? (i := 28) (by decide +kernel), List.mem_of_getElem? (i := 232) (by decide +kernel), List.mem_of_getElem? (i := 233) (by decide +kernel)⟩
theorem lw_p4 : lw_okq (⟨"GaugeBench$Routine", "closeInnermost", "(LGaugeBench$Step;)V"⟩, 5) := ⟨⟨by decide +kernel, by decide +kernel⟩, List.mem_of_getElem? (i := 28) (by decide +kernel), List.mem_of_getElem? (i := 262) (by decide +kernel), List.mem_of_getElem? (i := 263) (by decide +kernel)⟩
theorem lw_p5 : lw_okq (⟨"GaugeBench$Bench", "doSteps", "(LGaugeBench$Routine;IILGaugeBench$Fault;I)I"⟩, 9) := ⟨⟨by decide +kernel, by decide +kernel⟩, List.mem_of_getElem? (i := 22) (by decide +kernel), List.mem_of_getElem? (i := 286) (by decide +kernel), List.mem_of_getElem? (i := 287) (by decide +kernel)⟩
theorem lw_p6 : lw_okq (⟨"GaugeBench$Bench", "doStep", "(LGaugeBench$Routine;LGaugeBench$Step;LGaugeBench$Fault;I)I"⟩, 9) := ⟨⟨by decide +kernel, by decide +kernel⟩, List.mem_of_getElem? (i := 22) (by decide +kernel), List.mem_of_getElem? (i := 294) (by decide +kernel), List.mem_of_getElem? (i := 295) (by decide +kernel)⟩
theorem lw_p7 : lw_okq (⟨"GaugeBench$Bench", "isCounted", "()Z"⟩, 9) := ⟨⟨by decide +kernel, by decide +kernel⟩, List.mem_of_getElem? (i := 22) (by decide +kernel), List.mem_of_getElem? (i := 298) (by decide +kernel), List.mem_of_getElem? (i := 299) (by decide +kernel)⟩
theorem lw_p8 : lw_okq (⟨"GaugeBench$Bench", "throwNew", "(ILGaugeBench$Step;)I"⟩, 9) := ⟨⟨by decide +kernel, by decide +kernel⟩, List.mem_of_getElem? (i := 22) (by decide +kernel), List.mem_of_getElem? (i := 302) (by decide +kernel), List.mem_of_getElem? (i := 303) (by decide +kernel)⟩
theorem lw_p9 : lw_okq (⟨"GaugeBench$Bench", "leaveBy", "(LGaugeBench$Fault;)I"⟩, 9) := ⟨⟨by decide +kernel, by decide +kernel⟩, List.mem_of_getElem? (i := 22) (by decide +kernel), List.mem_of_getElem? (i := 344) (by decide +kernel), List.mem_of_getElem? (i := 345) (by decide +kernel)⟩
theorem lw_p10 : lw_okq (⟨"GaugeBench$Bench", "doTry", "(LGaugeBench$Routine;LGaugeBench$Step;LGaugeBench$Fault;I)I"⟩, 9) := ⟨⟨by decide +kernel, by decide +kernel⟩, List.mem_of_getElem? (i := 22) (by decide +kernel), List.mem_of_getElem? (i := 348) (by decide +kernel), List.mem_of_getElem? (i := 349) (by decide +kernel)⟩
theorem lw_p11 : lw_okq (⟨"GaugeBench$Bench", "doPart", "(LGaugeBench$Routine;LGaugeBench$Step;LGaugeBench$Fault;I)I"⟩, 9) := ⟨⟨by decide +kernel, by decide +kernel⟩, List.mem_of_getElem? (i := 22) (by decide +kernel), List.mem_of_getElem? (i := 352) (by decide +kernel), List.mem_of_getElem? (i := 353) (by decide +kernel)⟩
theorem lw_p12 : lw_okq (⟨"GaugeBench$Bench", "doFinally", "(LGaugeBench$Routine;LGaugeBench$Step;ILGaugeBench$Fault;I)I"⟩, 9) := ⟨⟨by decide +kernel, by decide +kernel⟩, List.mem_of_getElem? (i := 22) (by decide +kernel), List.mem_of_getElem? (i := 373) (by decide +kernel), List.mem_of_getElem? (i := 374) (by decide +kernel)⟩
theorem lw_p13 : lw_okq (⟨"GaugeBench$Bench", "doLoop", "(LGaugeBench$Routine;LGaugeBench$Step;LGaugeBench$Fault;I)I"⟩, 9) := ⟨⟨by decide +kernel, by decide +kernel⟩, List.mem_of_getElem? (i := 22) (by decide +kernel), List.mem_of_getElem? (i := 377) (by decide +kernel), List.mem_of_getElem? (i := 378) (by decide +kernel)⟩
theorem lw_p14 : lw_okq (⟨"GaugeBench$Bench", "isSo", "(LGaugeBench$Step;)Z"⟩, 9) := ⟨⟨by decide +kernel, by decide +kernel⟩, List.mem_of_getElem? (i := 22) (by decide +kernel), List.mem_of_getElem? (i := 381) (by decide +kernel), List.mem_of_getElem? (i := 382) (by decide +kernel)⟩
theorem lw_p15 : lw_okq (⟨"GaugeBench$Bench", "doCall", "(LGaugeBench$Step;I)I"⟩, 9) := ⟨⟨by decide +kernel, by decide +kernel⟩, List.mem_of_getElem? (i := 22) (by decide +kernel), List.mem_of_getElem? (i := 389) (by decide +kernel), List.mem_of_getElem? (i := 390) (by decide +kernel)⟩
def lw_privs_1 : List (MethodName × Nat) := [(⟨"GaugeBench$Routine", "mayStandHere", "(I)Z"⟩, 5), (⟨"GaugeBench$Routine", "mayLeave", "()Z"⟩, 5), (⟨"GaugeBench$Routine", "isPartOpen", "(I)Z"⟩, 5), (⟨"GaugeBench$Routine", "tieToBlocks", "(LGaugeBench$Step;)V"⟩, 5), (⟨"GaugeBench$Routine", "closeInnermost", "(LGaugeBench$Step;)V"⟩, 5), (⟨"GaugeBench$Bench", "doSteps", "(LGaugeBench$Routine;IILGaugeBench$Fault;I)I"⟩, 9), (⟨"GaugeBench$Bench", "doStep", "(LGaugeBench$Routine;LGaugeBench$Step;LGaugeBench$Fault;I)I"⟩, 9), (⟨"GaugeBench$Bench", "isCounted", "()Z"⟩, 9), (⟨"GaugeBench$Bench", "throwNew", "(ILGaugeBench$Step;)I"⟩, 9), (⟨"GaugeBench$Bench", "leaveBy", "(LGaugeBench$Fault;)I"⟩, 9), (⟨"GaugeBench$Bench", "doTry", "(LGaugeBench$Routine;LGaugeBench$Step;LGaugeBench$Fault;I)I"⟩, 9), (⟨"GaugeBench$Bench", "doPart", "(LGaugeBench$Routine;LGaugeBench$Step;LGaugeBench$Fault;I)I"⟩, 9), (⟨"GaugeBench$Bench", "doFinally", "(LGaugeBench$Routine;LGaugeBench$Step;ILGaugeBench$Fault;I)I"⟩, 9), (⟨"GaugeBench$Bench", "doLoop", "(LGaugeBench$Routine;LGaugeBench$Step;LGaugeBench$Fault;I)I"⟩, 9), (⟨"GaugeBench$Bench", "isSo", "(LGaugeBench$Step;)Z"⟩, 9), (⟨"GaugeBench$Bench", "doCall", "(LGaugeBench$Step;I)I"⟩, 9)]
theorem lw_r1 : ∀ q ∈ lw_privs_1, lw_okq q := List.forall_mem_cons.mpr ⟨lw_p0, List.forall_mem_cons.mpr ⟨lw_p1, List.forall_mem_cons.mpr ⟨lw_p2, List.forall_mem_cons.mpr ⟨lw_p3, List.forall_mem_cons.mpr ⟨lw_p4, List.forall_mem_cons.mpr ⟨lw_p5, List.forall_mem_cons.mpr ⟨lw_p6, List.forall_mem_cons.mpr ⟨lw_p7, List.forall_mem_cons.mpr ⟨lw_p8, List.forall_mem_cons.mpr ⟨lw_p9, List.forall_mem_cons.mpr ⟨lw_p10, List.forall_mem_cons.mpr ⟨lw_p11, List.forall_mem_cons.mpr ⟨lw_p12, List.forall_mem_cons.mpr ⟨lw_p13, List.forall_mem_cons.mpr ⟨lw_p14, List.forall_mem_cons.mpr ⟨lw_p15, fun _ h => absurd h List.not_mem_nil⟩⟩⟩⟩⟩⟩⟩⟩⟩⟩⟩⟩⟩⟩⟩⟩
theorem lw_p16 : lw_okq (⟨"GaugeBench$Bench", "useCaught", "(LGaugeBench$Step;LGaugeBench$Fault;)I"⟩, 9) := ⟨⟨by decide +kernel, by decide +kernel⟩, List.mem_of_getElem? (i := 22) (by decide +kernel), List.mem_of_getElem? (i := 394) (by decide +kernel), List.mem_of_getElem? (i := 395) (by decide +kernel)⟩
theorem lw_p17 : lw_okq (⟨"GaugeBench$Bench", "workWithRow", "(LGaugeBench$Step;)I"⟩, 9) := ⟨⟨by decide +kernel, by decide +kernel⟩, List.mem_of_getElem? (i := 22) (by decide +kernel), List.mem_of_getElem? (i := 402) (by decide +kernel), List.mem_of_getElem? (i := 403) (by decide +kernel)⟩
theorem lw_p18 : lw_okq (⟨"GaugeBench$Bench", "getInto", "(ILGaugeBench$Row;I)I"⟩, 9) := ⟨⟨by decide +kernel, by decide +kernel⟩, List.mem_of_getElem? (i := 22) (by decide +kernel), List.mem_of_getElem? (i := 429) (by decide +kernel), List.mem_of_getElem? (i := 430) (by decide +kernel)⟩
theorem lw_p19 : lw_okq (⟨"GaugeBench$Row", "asHeld", "(D)D"⟩, 4) := ⟨⟨by decide +kernel, by decide +kernel⟩, List.mem_of_getElem? (i := 58) (by decide +kernel), List.mem_of_getElem? (i := 446) (by decide +kernel), List.mem_of_getElem? (i := 447) (by decide +kernel)⟩
theorem lw_p20 : lw_okq (⟨"GaugeBench$Bench", "workWithDials", "(LGaugeBench$Step;)I"⟩, 9) := ⟨⟨by decide +kernel, by decide +kernel⟩, List.mem_of_getElem? (i := 22) (by decide +kernel), List.mem_of_getElem? (i := 454) (by decide +kernel), List.mem_of_getElem? (i := 455) (by decide +kernel)⟩
theorem lw_p21 : lw_okq (⟨"GaugeBench$Bench", "doFine", "(LGaugeBench$Step;)I"⟩, 9) := ⟨⟨by decide +kernel, by decide +kernel⟩, List.mem_of_getElem? (i := 22) (by decide +kernel), List.mem_of_getElem? (i := 459) (by decide +kernel), List.mem_of_getElem? (i := 460) (by decide +kernel)⟩
theorem lw_p22 : lw_okq (⟨"GaugeBench$Bench", "doRough", "(LGaugeBench$Step;)I"⟩, 9) := ⟨⟨by decide +kernel, by decide +kernel⟩, List.mem_of_getElem? (i := 22) (by decide +kernel), List.mem_of_getElem? (i := 488) (by decide +kernel), List.mem_of_getElem? (i := 489) (by decide +kernel)⟩
theorem lw_p23 : lw_okq (⟨"GaugeBench$Bench", "doWhole", "(LGaugeBench$Step;)I"⟩, 9) := ⟨⟨by decide +kernel, by decide +kernel⟩, List.mem_of_getElem? (i := 22) (by decide +kernel), List.mem_of_getElem? (i := 498) (by decide +kernel), List.mem_of_getElem? (i := 499) (by decide +kernel)⟩
theorem lw_p24 : lw_okq (⟨"GaugeBench$Bench", "doWide", "(LGaugeBench$Step;)I"⟩, 9) := ⟨⟨by decide +kernel, by decide +kernel⟩, List.mem_of_getElem? (i := 22) (by decide +kernel), List.mem_of_getElem? (i := 508) (by decide +kernel), List.mem_of_getElem? (i := 509) (by decide +kernel)⟩
theorem lw_p25 : lw_okq (⟨"GaugeBenchModel", "mayStand", "(I)Z"⟩, 40) := ⟨⟨by decide +kernel, by decide +kernel⟩, List.mem_of_getElem? (i := 560) (by decide +kernel), List.mem_of_getElem? (i := 708) (by decide +kernel), List.mem_of_getElem? (i := 709) (by decide +kernel)⟩
theorem lw_p26 : lw_okq (⟨"GaugeBenchModel", "partAt", "(I)I"⟩, 40) := ⟨⟨by decide +kernel, by decide +kernel⟩, List.mem_of_getElem? (i := 560) (by decide +kernel), List.mem_of_getElem? (i := 715) (by decide +kernel), List.mem_of_getElem? (i := 716) (by decide +kernel)⟩
theorem lw_p27 : lw_okq (⟨"GaugeBenchModel", "isPartOpen", "(II)Z"⟩, 40) := ⟨⟨by decide +kernel, by decide +kernel⟩, List.mem_of_getElem? (i := 560) (by decide +kernel), List.mem_of_getElem? (i := 719) (by decide +kernel), List.mem_of_getElem? (i := 720) (by decide +kernel)⟩
theorem lw_p28 : lw_okq (⟨"GaugeBenchModel", "begin", "(II)V"⟩, 40) := ⟨⟨by decide +kernel, by decide +kernel⟩, List.mem_of_getElem? (i := 560) (by decide +kernel), List.mem_of_getElem? (i := 731) (by decide +kernel), List.mem_of_getElem? (i := 732) (by decide +kernel)⟩
theorem lw_p29 : lw_okq (⟨"GaugeBenchModel", "push", "(III)V"⟩, 40) := ⟨⟨by decide +kernel, by decide +kernel⟩, List.mem_of_getElem? (i := 560) (by decide +kernel), List.mem_of_getElem? (i := 735) (by decide +kernel), List.mem_of_getElem? (i := 736) (by decide +kernel)⟩
theorem lw_p30 : lw_okq (⟨"GaugeBenchModel", "go", "()V"⟩, 40) := ⟨⟨by decide +kernel, by decide +kernel⟩, List.mem_of_getElem? (i := 560) (by decide +kernel), List.mem_of_getElem? (i := 740) (by decide +kernel), List.mem_of_getElem? (i := 741) (by decide +kernel)⟩
theorem lw_p31 : lw_okq (⟨"GaugeBenchModel", "over", "()V"⟩, 40) := ⟨⟨by decide +kernel, by decide +kernel⟩, List.mem_of_getElem? (i := 560) (by decide +kernel), List.mem_of_getElem? (i := 744) (by decide +kernel), List.mem_of_getElem? (i := 745) (by decide +kernel)⟩
def lw_privs_2 : List (MethodName × Nat) := [(⟨"GaugeBench$Bench", "useCaught", "(LGaugeBench$Step;LGaugeBench$Fault;)I"⟩, 9), (⟨"GaugeBench$Bench", "workWithRow", "(LGaugeBench$Step;)I"⟩, 9), (⟨"GaugeBench$Bench", "getInto", "(ILGaugeBench$Row;I)I"⟩, 9), (⟨"GaugeBench$Row", "asHeld", "(D)D"⟩, 4), (⟨"GaugeBench$Bench", "workWithDials", "(LGaugeBench$Step;)I"⟩, 9), (⟨"GaugeBench$Bench", "doFine", "(LGaugeBench$Step;)I"⟩, 9), (⟨"GaugeBench$Bench", "doRough", "(LGaugeBench$Step;)I"⟩, 9), (⟨"GaugeBench$Bench", "doWhole", "(LGaugeBench$Step;)I"⟩, 9), (⟨"GaugeBench$Bench", "doWide", "(LGaugeBench$Step;)I"⟩, 9), (⟨"GaugeBenchModel", "mayStand", "(I)Z"⟩, 40), (⟨"GaugeBenchModel", "partAt", "(I)I"⟩, 40), (⟨"GaugeBenchModel", "isPartOpen", "(II)Z"⟩, 40), (⟨"GaugeBenchModel", "begin", "(II)V"⟩, 40), (⟨"GaugeBenchModel", "push", "(III)V"⟩, 40), (⟨"GaugeBenchModel", "go", "()V"⟩, 40), (⟨"GaugeBenchModel", "over", "()V"⟩, 40)]
theorem lw_r2 : ∀ q ∈ lw_privs_2, lw_okq q := List.forall_mem_cons.mpr ⟨lw_p16, List.forall_mem_cons.mpr ⟨lw_p17, List.forall_mem_cons.mpr ⟨lw_p18, List.forall_mem_cons.mpr ⟨lw_p19, List.forall_mem_cons.mpr ⟨lw_p20, List.forall_mem_cons.mpr ⟨lw_p21, List.forall_mem_cons.mpr ⟨lw_p22, List.forall_mem_cons.mpr ⟨lw_p23, List.forall_mem_cons.mpr ⟨lw_p24, List.forall_mem_cons.mpr ⟨lw_p25, List.forall_mem_cons.mpr ⟨lw_p26, List.forall_mem_cons.mpr ⟨lw_p27, List.forall_mem_cons.mpr ⟨lw_p28, List.forall_mem_cons.mpr ⟨lw_p29, List.forall_mem_cons.mpr ⟨lw_p30, List.forall_mem_cons.mpr ⟨lw_p31, fun _ h => absurd h List.not_mem_nil⟩⟩⟩⟩⟩⟩⟩⟩⟩⟩⟩⟩⟩⟩⟩⟩
theorem lw_p32 : lw_okq (⟨"GaugeBenchModel", "endPart", "()V"⟩, 40) := ⟨⟨by decide +kernel, by decide +kernel⟩, List.mem_of_getElem? (i := 560) (by decide +kernel), List.mem_of_getElem? (i := 748) (by decide +kernel), List.mem_of_getElem? (i := 749) (by decide +kernel)⟩
theorem lw_p33 : lw_okq (⟨"GaugeBenchModel", "round", "()V"⟩, 40) := ⟨⟨by decide +kernel, by decide +kernel⟩, List.mem_of_getElem? (i := 560) (by decide +kernel), List.mem_of_getElem? (i := 752) (by decide +kernel), List.mem_of_getElem? (i := 753) (by decide +kernel)⟩
theorem lw_p34 : lw_okq (⟨"GaugeBenchModel", "isCounted", "()Z"⟩, 40) := ⟨⟨by decide +kernel, by decide +kernel⟩, List.mem_of_getElem? (i := 560) (by decide +kernel), List.mem_of_getElem? (i := 756) (by decide +kernel), List.mem_of_getElem? (i := 757) (by decide +kernel)⟩
theorem lw_p35 : lw_okq (⟨"GaugeBenchModel", "fail", "(I)V"⟩, 40) := ⟨⟨by decide +kernel, by decide +kernel⟩, List.mem_of_getElem? (i := 560) (by decide +kernel), List.mem_of_getElem? (i := 760) (by decide +kernel), List.mem_of_getElem? (i := 761) (by decide +kernel)⟩
theorem lw_p36 : lw_okq (⟨"GaugeBenchModel", "throwNew", "(IIII)V"⟩, 40) := ⟨⟨by decide +kernel, by decide +kernel⟩, List.mem_of_getElem? (i := 560) (by decide +kernel), List.mem_of_getElem? (i := 764) (by decide +kernel), List.mem_of_getElem? (i := 765) (by decide +kernel)⟩
theorem lw_p37 : lw_okq (⟨"GaugeBenchModel", "lastPart", "()V"⟩, 40) := ⟨⟨by decide +kernel, by decide +kernel⟩, List.mem_of_getElem? (i := 560) (by decide +kernel), List.mem_of_getElem? (i := 768) (by decide +kernel), List.mem_of_getElem? (i := 769) (by decide +kernel)⟩
theorem lw_p38 : lw_okq (⟨"GaugeBenchModel", "order", "(I)V"⟩, 40) := ⟨⟨by decide +kernel, by decide +kernel⟩, List.mem_of_getElem? (i := 560) (by decide +kernel), List.mem_of_getElem? (i := 772) (by decide +kernel), List.mem_of_getElem? (i := 773) (by decide +kernel)⟩
theorem lw_p39 : lw_okq (⟨"GaugeBenchModel", "isSo", "(I)Z"⟩, 40) := ⟨⟨by decide +kernel, by decide +kernel⟩, List.mem_of_getElem? (i := 560) (by decide +kernel), List.mem_of_getElem? (i := 776) (by decide +kernel), List.mem_of_getElem? (i := 777) (by decide +kernel)⟩
theorem lw_p40 : lw_okq (⟨"GaugeBenchModel", "caught", "()I"⟩, 40) := ⟨⟨by decide +kernel, by decide +kernel⟩, List.mem_of_getElem? (i := 560) (by decide +kernel), List.mem_of_getElem? (i := 780) (by decide +kernel), List.mem_of_getElem? (i := 781) (by decide +kernel)⟩
theorem lw_p41 : lw_okq (⟨"GaugeBenchModel", "wrap", "(I)V"⟩, 40) := ⟨⟨by decide +kernel, by decide +kernel⟩, List.mem_of_getElem? (i := 560) (by decide +kernel), List.mem_of_getElem? (i := 784) (by decide +kernel), List.mem_of_getElem? (i := 785) (by decide +kernel)⟩
theorem lw_p42 : lw_okq (⟨"GaugeBenchModel", "tell", "()V"⟩, 40) := ⟨⟨by decide +kernel, by decide +kernel⟩, List.mem_of_getElem? (i := 560) (by decide +kernel), List.mem_of_getElem? (i := 788) (by decide +kernel), List.mem_of_getElem? (i := 789) (by decide +kernel)⟩
theorem lw_p43 : lw_okq (⟨"GaugeBenchModel", "note", "(D)V"⟩, 40) := ⟨⟨by decide +kernel, by decide +kernel⟩, List.mem_of_getElem? (i := 560) (by decide +kernel), List.mem_of_getElem? (i := 792) (by decide +kernel), List.mem_of_getElem? (i := 793) (by decide +kernel)⟩
theorem lw_p44 : lw_okq (⟨"GaugeBenchModel", "weight", "(I)I"⟩, 40) := ⟨⟨by decide +kernel, by decide +kernel⟩, List.mem_of_getElem? (i := 560) (by decide +kernel), List.mem_of_getElem? (i := 796) (by decide +kernel), List.mem_of_getElem? (i := 797) (by decide +kernel)⟩
theorem lw_p45 : lw_okq (⟨"GaugeBenchModel", "below", "(II)I"⟩, 40) := ⟨⟨by decide +kernel, by decide +kernel⟩, List.mem_of_getElem? (i := 560) (by decide +kernel), List.mem_of_getElem? (i := 800) (by decide +kernel), List.mem_of_getElem? (i := 801) (by decide +kernel)⟩
theorem lw_p46 : lw_okq (⟨"GaugeBenchModel", "call", "(I)V"⟩, 40) := ⟨⟨by decide +kernel, by decide +kernel⟩, List.mem_of_getElem? (i := 560) (by decide +kernel), List.mem_of_getElem? (i := 807) (by decide +kernel), List.mem_of_getElem? (i := 808) (by decide +kernel)⟩
theorem lw_p47 : lw_okq (⟨"GaugeBenchModel", "work", "(I)V"⟩, 40) := ⟨⟨by decide +kernel, by decide +kernel⟩, List.mem_of_getElem? (i := 560) (by decide +kernel), List.mem_of_getElem? (i := 811) (by decide +kernel), List.mem_of_getElem? (i := 812) (by decide +kernel)⟩
def lw_privs_3 : List (MethodName × Nat) := [(⟨"GaugeBenchModel", "endPart", "()V"⟩, 40), (⟨"GaugeBenchModel", "round", "()V"⟩, 40), (⟨"GaugeBenchModel", "isCounted", "()Z"⟩, 40), (⟨"GaugeBenchModel", "fail", "(I)V"⟩, 40), (⟨"GaugeBenchModel", "throwNew", "(IIII)V"⟩, 40), (⟨"GaugeBenchModel", "lastPart", "()V"⟩, 40), (⟨"GaugeBenchModel", "order", "(I)V"⟩, 40), (⟨"GaugeBenchModel", "isSo", "(I)Z"⟩, 40), (⟨"GaugeBenchModel", "caught", "()I"⟩, 40), (⟨"GaugeBenchModel", "wrap", "(I)V"⟩, 40), (⟨"GaugeBenchModel", "tell", "()V"⟩, 40), (⟨"GaugeBenchModel", "note", "(D)V"⟩, 40), (⟨"GaugeBenchModel", "weight", "(I)I"⟩, 40), (⟨"GaugeBenchModel", "below", "(II)I"⟩, 40), (⟨"GaugeBenchModel", "call", "(I)V"⟩, 40), (⟨"GaugeBenchModel", "work", "(I)V"⟩, 40)]
theorem lw_r3 : ∀ q ∈ lw_privs_3, lw_okq q := List.forall_mem_cons.mpr ⟨lw_p32, List.forall_mem_cons.mpr ⟨lw_p33, List.forall_mem_cons.mpr ⟨lw_p34, List.forall_mem_cons.mpr ⟨lw_p35, List.forall_mem_cons.mpr ⟨lw_p36, List.forall_mem_cons.mpr ⟨lw_p37, List.forall_mem_cons.mpr ⟨lw_p38, List.forall_mem_cons.mpr ⟨lw_p39, List.forall_mem_cons.mpr ⟨lw_p40, List.forall_mem_cons.mpr ⟨lw_p41, List.forall_mem_cons.mpr ⟨lw_p42, List.forall_mem_cons.mpr ⟨lw_p43, List.forall_mem_cons.mpr ⟨lw_p44, List.forall_mem_cons.mpr ⟨lw_p45, List.forall_mem_cons.mpr ⟨lw_p46, List.forall_mem_cons.mpr ⟨lw_p47, fun _ h => absurd h List.not_mem_nil⟩⟩⟩⟩⟩⟩⟩⟩⟩⟩⟩⟩⟩⟩⟩⟩
theorem lw_p48 : lw_okq (⟨"GaugeBenchModel", "make", "(II)V"⟩, 40) := ⟨⟨by decide +kernel, by decide +kernel⟩, List.mem_of_getElem? (i := 560) (by decide +kernel), List.mem_of_getElem? (i := 815) (by decide +kernel), List.mem_of_getElem? (i := 816) (by decide +kernel)⟩
theorem lw_p49 : lw_okq (⟨"GaugeBenchModel", "fine", "(I)V"⟩, 40) := ⟨⟨by decide +kernel, by decide +kernel⟩, List.mem_of_getElem? (i := 560) (by decide +kernel), List.mem_of_getElem? (i := 820) (by decide +kernel), List.mem_of_getElem? (i := 821) (by decide +kernel)⟩
theorem lw_p50 : lw_okq (⟨"GaugeBenchModel", "turn", "(ID)V"⟩, 40) := ⟨⟨by decide +kernel, by decide +kernel⟩, List.mem_of_getElem? (i := 560) (by decide +kernel), List.mem_of_getElem? (i := 848) (by decide +kernel), List.mem_of_getElem? (i := 849) (by decide +kernel)⟩
theorem lw_p51 : lw_okq (⟨"GaugeBenchModel", "rough", "(I)V"⟩, 40) := ⟨⟨by decide +kernel, by decide +kernel⟩, List.mem_of_getElem? (i := 560) (by decide +kernel), List.mem_of_getElem? (i := 854) (by decide +kernel), List.mem_of_getElem? (i := 855) (by decide +kernel)⟩
theorem lw_p52 : lw_okq (⟨"GaugeBenchModel", "whole", "(I)V"⟩, 40) := ⟨⟨by decide +kernel, by decide +kernel⟩, List.mem_of_getElem? (i := 560) (by decide +kernel), List.mem_of_getElem? (i := 858) (by decide +kernel), List.mem_of_getElem? (i := 859) (by decide +kernel)⟩
theorem lw_p53 : lw_okq (⟨"GaugeBenchModel", "wide", "(I)V"⟩, 40) := ⟨⟨by decide +kernel, by decide +kernel⟩, List.mem_of_getElem? (i := 560) (by decide +kernel), List.mem_of_getElem? (i := 862) (by decide +kernel), List.mem_of_getElem? (i := 863) (by decide +kernel)⟩
theorem lw_p54 : lw_okq (⟨"GaugeBenchModel", "onRow", "(I)V"⟩, 40) := ⟨⟨by decide +kernel, by decide +kernel⟩, List.mem_of_getElem? (i := 560) (by decide +kernel), List.mem_of_getElem? (i := 866) (by decide +kernel), List.mem_of_getElem? (i := 867) (by decide +kernel)⟩
theorem lw_p55 : lw_okq (⟨"GaugeBenchModel", "faultOf", "(IIZ)I"⟩, 40) := ⟨⟨by decide +kernel, by decide +kernel⟩, List.mem_of_getElem? (i := 560) (by decide +kernel), List.mem_of_getElem? (i := 870) (by decide +kernel), List.mem_of_getElem? (i := 871) (by decide +kernel)⟩
theorem lw_p56 : lw_okq (⟨"GaugeBenchModel", "leave", "()V"⟩, 40) := ⟨⟨by decide +kernel, by decide +kernel⟩, List.mem_of_getElem? (i := 560) (by decide +kernel), List.mem_of_getElem? (i := 877) (by decide +kernel), List.mem_of_getElem? (i := 878) (by decide +kernel)⟩
theorem lw_p57 : lw_okq (⟨"GaugeBenchModel", "seekCatch", "()V"⟩, 40) := ⟨⟨by decide +kernel, by decide +kernel⟩, List.mem_of_getElem? (i := 560) (by decide +kernel), List.mem_of_getElem? (i := 881) (by decide +kernel), List.mem_of_getElem? (i := 882) (by decide +kernel)⟩
theorem lw_p58 : lw_okq (⟨"GaugeBenchModel", "isUnder", "(II)Z"⟩, 40) := ⟨⟨by decide +kernel, by decide +kernel⟩, List.mem_of_getElem? (i := 560) (by decide +kernel), List.mem_of_getElem? (i := 885) (by decide +kernel), List.mem_of_getElem? (i := 886) (by decide +kernel)⟩
def lw_privs_4 : List (MethodName × Nat) := [(⟨"GaugeBenchModel", "make", "(II)V"⟩, 40), (⟨"GaugeBenchModel", "fine", "(I)V"⟩, 40), (⟨"GaugeBenchModel", "turn", "(ID)V"⟩, 40), (⟨"GaugeBenchModel", "rough", "(I)V"⟩, 40), (⟨"GaugeBenchModel", "whole", "(I)V"⟩, 40), (⟨"GaugeBenchModel", "wide", "(I)V"⟩, 40), (⟨"GaugeBenchModel", "onRow", "(I)V"⟩, 40), (⟨"GaugeBenchModel", "faultOf", "(IIZ)I"⟩, 40), (⟨"GaugeBenchModel", "leave", "()V"⟩, 40), (⟨"GaugeBenchModel", "seekCatch", "()V"⟩, 40), (⟨"GaugeBenchModel", "isUnder", "(II)Z"⟩, 40)]
theorem lw_r4 : ∀ q ∈ lw_privs_4, lw_okq q := List.forall_mem_cons.mpr ⟨lw_p48, List.forall_mem_cons.mpr ⟨lw_p49, List.forall_mem_cons.mpr ⟨lw_p50, List.forall_mem_cons.mpr ⟨lw_p51, List.forall_mem_cons.mpr ⟨lw_p52, List.forall_mem_cons.mpr ⟨lw_p53, List.forall_mem_cons.mpr ⟨lw_p54, List.forall_mem_cons.mpr ⟨lw_p55, List.forall_mem_cons.mpr ⟨lw_p56, List.forall_mem_cons.mpr ⟨lw_p57, List.forall_mem_cons.mpr ⟨lw_p58, fun _ h => absurd h List.not_mem_nil⟩⟩⟩⟩⟩⟩⟩⟩⟩⟩⟩
def lw_privs : List (MethodName × Nat) := lw_privs_1 ++ (lw_privs_2 ++ (lw_privs_3 ++ (lw_privs_4)))
def lw_tbl : List Cond := k2_sels lw_privs ++ tables_1
theorem lw_privs_ok : ∀ q ∈ lw_privs, lw_okq q := by
  show ∀ q ∈ lw_privs_1 ++ (lw_privs_2 ++ (lw_privs_3 ++ (lw_privs_4))), lw_okq q
  exact List.forall_mem_append.mpr ⟨lw_r1, List.forall_mem_append.mpr ⟨lw_r2, List.forall_mem_append.mpr ⟨lw_r3, lw_r4⟩⟩⟩
/-- the streams that the claim lets the run draw from -/
abbrev lw_cs : List Choice := [Jvm.Choice.named "NaN.bits"]
theorem lw_bits : nanBits ∈ lw_cs := by first | decide | exact List.mem_cons_self | simp [lw_cs, nanBits]
-- ===== end of PART A; then your names; then what follows =====
def RX0 : String := "GaugeBench$Bench"
def TX0 : u_T := fun k => match k with
  | 0 => ("GaugeBench$Bench", "routines", "[LGaugeBench$Routine;", true)
  | 1 => ("GaugeBench$Bench", "rows", "[LGaugeBench$Row;", true)
  | 2 => ("GaugeBench$Bench", "dials", "LGaugeBench$Dials;", true)
  | 3 => ("GaugeBench$Bench", "numbers", "LGaugeBench$NumberLog;", true)
  | 4 => ("GaugeBench$Bench", "atHand", "LGaugeBench$Routine;", false)
  | 5 => ("GaugeBench$Bench", "counted", "I", false)
  | 6 => ("GaugeBench$Bench", "caughtFaults", "I", false)
  | 7 => ("GaugeBench$Bench", "finallyParts", "I", false)
  | _ => ("GaugeBench$Bench", "thrown", "LGaugeBench$Fault;", false)
def tyX0 : Nat → FieldType := fun k => match k with
  | 0 => .array (.object "GaugeBench$Routine")
  | 1 => .array (.object "GaugeBench$Row")
  | 2 => .object "GaugeBench$Dials"
  | 3 => .object "GaugeBench$NumberLog"
  | 4 => .object "GaugeBench$Routine"
  | 5 => .int
  | 6 => .int
  | 7 => .int
  | _ => .object "GaugeBench$Fault"
theorem nmX0 : ∀ a, a < 9 → ∀ b, b < 9 → a ≠ b → (TX0 a).2.1 ≠ (TX0 b).2.1 := by decide +kernel
theorem tyX0_ok : ∀ k, k < 9 → parseFieldDescriptor (TX0 k).2.2.1 = some (tyX0 k) := by decide +kernel
abbrev cX0_init : ByteArray := prog_2_method_1_code
def yX0_init : MethodName := ⟨RX0, "<init>", "()V"⟩
abbrev cX0_routineAt : ByteArray := prog_2_method_2_code
def yX0_routineAt : MethodName := ⟨RX0, "routineAt", "(I)LGaugeBench$Routine;"⟩
abbrev cX0_rowAt : ByteArray := prog_2_method_3_code
def yX0_rowAt : MethodName := ⟨RX0, "rowAt", "(I)LGaugeBench$Row;"⟩
abbrev cX0_begin : ByteArray := prog_2_method_4_code
def yX0_begin : MethodName := ⟨RX0, "begin", "(LGaugeBench$Routine;)I"⟩
abbrev cX0_doSteps : ByteArray := prog_2_method_5_code
def yX0_doSteps : MethodName := ⟨RX0, "doSteps", "(LGaugeBench$Routine;IILGaugeBench$Fault;I)I"⟩
abbrev cX0_doStep : ByteArray := prog_2_method_6_code
def yX0_doStep : MethodName := ⟨RX0, "doStep", "(LGaugeBench$Routine;LGaugeBench$Step;LGaugeBench$Fault;I)I"⟩
abbrev cX0_isCounted : ByteArray := prog_2_method_7_code
def yX0_isCounted : MethodName := ⟨RX0, "isCounted", "()Z"⟩
abbrev cX0_throwNew : ByteArray := prog_2_method_8_code
def yX0_throwNew : MethodName := ⟨RX0, "throwNew", "(ILGaugeBench$Step;)I"⟩
abbrev cX0_leaveBy : ByteArray := prog_2_method_9_code
def yX0_leaveBy : MethodName := ⟨RX0, "leaveBy", "(LGaugeBench$Fault;)I"⟩
abbrev cX0_doPart : ByteArray := prog_2_method_10_code
def yX0_doPart : MethodName := ⟨RX0, "doPart", "(LGaugeBench$Routine;LGaugeBench$Step;LGaugeBench$Fault;I)I"⟩
abbrev cX0_doTry : ByteArray := prog_2_method_11_code
def yX0_doTry : MethodName := ⟨RX0, "doTry", "(LGaugeBench$Routine;LGaugeBench$Step;LGaugeBench$Fault;I)I"⟩
abbrev cX0_doFinally : ByteArray := prog_2_method_12_code
def yX0_doFinally : MethodName := ⟨RX0, "doFinally", "(LGaugeBench$Routine;LGaugeBench$Step;ILGaugeBench$Fault;I)I"⟩
abbrev cX0_doLoop : ByteArray := prog_2_method_13_code
def yX0_doLoop : MethodName := ⟨RX0, "doLoop", "(LGaugeBench$Routine;LGaugeBench$Step;LGaugeBench$Fault;I)I"⟩
abbrev cX0_doCall : ByteArray := prog_2_method_14_code
def yX0_doCall : MethodName := ⟨RX0, "doCall", "(LGaugeBench$Step;I)I"⟩
abbrev cX0_isSo : ByteArray := prog_2_method_15_code
def yX0_isSo : MethodName := ⟨RX0, "isSo", "(LGaugeBench$Step;)Z"⟩
abbrev cX0_useCaught : ByteArray := prog_2_method_16_code
def yX0_useCaught : MethodName := ⟨RX0, "useCaught", "(LGaugeBench$Step;LGaugeBench$Fault;)I"⟩
abbrev cX0_workWithRow : ByteArray := prog_2_method_17_code
def yX0_workWithRow : MethodName := ⟨RX0, "workWithRow", "(LGaugeBench$Step;)I"⟩
abbrev cX0_getInto : ByteArray := prog_2_method_18_code
def yX0_getInto : MethodName := ⟨RX0, "getInto", "(ILGaugeBench$Row;I)I"⟩
abbrev cX0_workWithDials : ByteArray := prog_2_method_19_code
def yX0_workWithDials : MethodName := ⟨RX0, "workWithDials", "(LGaugeBench$Step;)I"⟩
abbrev cX0_doFine : ByteArray := prog_2_method_20_code
def yX0_doFine : MethodName := ⟨RX0, "doFine", "(LGaugeBench$Step;)I"⟩
abbrev cX0_doRough : ByteArray := prog_2_method_21_code
def yX0_doRough : MethodName := ⟨RX0, "doRough", "(LGaugeBench$Step;)I"⟩
abbrev cX0_doWhole : ByteArray := prog_2_method_22_code
def yX0_doWhole : MethodName := ⟨RX0, "doWhole", "(LGaugeBench$Step;)I"⟩
abbrev cX0_doWide : ByteArray := prog_2_method_23_code
def yX0_doWide : MethodName := ⟨RX0, "doWide", "(LGaugeBench$Step;)I"⟩
def RX1 : String := "GaugeBench$Block"
def TX1 : u_T := fun k => match k with
  | 0 => ("GaugeBench$Block", "opener", "LGaugeBench$Step;", true)
  | 1 => ("GaugeBench$Block", "outer", "LGaugeBench$Block;", true)
  | 2 => ("GaugeBench$Block", "part", "LGaugeBench$Step;", false)
  | _ => ("GaugeBench$Block", "catches", "I", false)
def tyX1 : Nat → FieldType := fun k => match k with
  | 0 => .object "GaugeBench$Step"
  | 1 => .object "GaugeBench$Block"
  | 2 => .object "GaugeBench$Step"
  | _ => .int
theorem nmX1 : ∀ a, a < 4 → ∀ b, b < 4 → a ≠ b → (TX1 a).2.1 ≠ (TX1 b).2.1 := by decide +kernel
theorem tyX1_ok : ∀ k, k < 4 → parseFieldDescriptor (TX1 k).2.2.1 = some (tyX1 k) := by decide +kernel
abbrev cX1_init : ByteArray := prog_3_method_1_code
def yX1_init : MethodName := ⟨RX1, "<init>", "(LGaugeBench$Step;LGaugeBench$Block;)V"⟩
abbrev cX1_beginPart : ByteArray := prog_3_method_2_code
def yX1_beginPart : MethodName := ⟨RX1, "beginPart", "(LGaugeBench$Step;)V"⟩
abbrev cX1_takesPart : ByteArray := prog_3_method_3_code
def yX1_takesPart : MethodName := ⟨RX1, "takesPart", "(I)Z"⟩
def RX2 : String := "GaugeBench$Dials"
def TX2 : u_T := fun k => match k with
  | _ => ("GaugeBench$Dials", "doubles", "[D", true)
def tyX2 : Nat → FieldType := fun k => match k with
  | _ => .array .double
theorem nmX2 : ∀ a, a < 1 → ∀ b, b < 1 → a ≠ b → (TX2 a).2.1 ≠ (TX2 b).2.1 := by decide +kernel
theorem tyX2_ok : ∀ k, k < 1 → parseFieldDescriptor (TX2 k).2.2.1 = some (tyX2 k) := by decide +kernel
abbrev cX2_init : ByteArray := prog_4_method_1_code
def yX2_init : MethodName := ⟨RX2, "<init>", "()V"⟩
abbrev cX2_at : ByteArray := prog_4_method_2_code
def yX2_at : MethodName := ⟨RX2, "at", "(I)D"⟩
abbrev cX2_wholeAt : ByteArray := prog_4_method_3_code
def yX2_wholeAt : MethodName := ⟨RX2, "wholeAt", "(I)I"⟩
abbrev cX2_turn : ByteArray := prog_4_method_4_code
def yX2_turn : MethodName := ⟨RX2, "turn", "(ID)I"⟩
def RX3 : String := "GaugeBench$Fault"
def TX3 : u_T := fun k => match k with
  | 0 => ("GaugeBench$Fault", "kind", "I", true)
  | 1 => ("GaugeBench$Fault", "place", "I", true)
  | 2 => ("GaugeBench$Fault", "number", "I", true)
  | 3 => ("GaugeBench$Fault", "earlierOnes", "I", true)
  | 4 => ("GaugeBench$Fault", "firstPlace", "I", true)
  | _ => ("GaugeBench$Fault", "weight", "I", true)
def tyX3 : Nat → FieldType := fun k => match k with
  | 0 => .int
  | 1 => .int
  | 2 => .int
  | 3 => .int
  | 4 => .int
  | _ => .int
theorem nmX3 : ∀ a, a < 6 → ∀ b, b < 6 → a ≠ b → (TX3 a).2.1 ≠ (TX3 b).2.1 := by decide +kernel
theorem tyX3_ok : ∀ k, k < 6 → parseFieldDescriptor (TX3 k).2.2.1 = some (tyX3 k) := by decide +kernel
abbrev cX3_init : ByteArray := prog_5_method_1_code
def yX3_init : MethodName := ⟨RX3, "<init>", "(IIILGaugeBench$Fault;)V"⟩
abbrev cX3_weightOf : ByteArray := prog_5_method_2_code
def yX3_weightOf : MethodName := ⟨RX3, "weightOf", "(III)I"⟩
abbrev cX3_isUnder : ByteArray := prog_5_method_3_code
def yX3_isUnder : MethodName := ⟨RX3, "isUnder", "(II)Z"⟩
def RX4 : String := "GaugeBench$NumberLog"
def TX4 : u_T := fun k => match k with
  | 0 => ("GaugeBench$NumberLog", "doubles", "[D", true)
  | _ => ("GaugeBench$NumberLog", "used", "I", false)
def tyX4 : Nat → FieldType := fun k => match k with
  | 0 => .array .double
  | _ => .int
theorem nmX4 : ∀ a, a < 2 → ∀ b, b < 2 → a ≠ b → (TX4 a).2.1 ≠ (TX4 b).2.1 := by decide +kernel
theorem tyX4_ok : ∀ k, k < 2 → parseFieldDescriptor (TX4 k).2.2.1 = some (tyX4 k) := by decide +kernel
abbrev cX4_init : ByteArray := prog_6_method_1_code
def yX4_init : MethodName := ⟨RX4, "<init>", "()V"⟩
abbrev cX4_empty : ByteArray := prog_6_method_2_code
def yX4_empty : MethodName := ⟨RX4, "empty", "()V"⟩
abbrev cX4_append : ByteArray := prog_6_method_3_code
def yX4_append : MethodName := ⟨RX4, "append", "(D)V"⟩
abbrev cX4_at : ByteArray := prog_6_method_4_code
def yX4_at : MethodName := ⟨RX4, "at", "(I)D"⟩
def RX5 : String := "GaugeBench$Routine"
def TX5 : u_T := fun k => match k with
  | 0 => ("GaugeBench$Routine", "number", "I", true)
  | 1 => ("GaugeBench$Routine", "steps", "[LGaugeBench$Step;", true)
  | 2 => ("GaugeBench$Routine", "innermost", "LGaugeBench$Block;", false)
  | 3 => ("GaugeBench$Routine", "used", "I", false)
  | _ => ("GaugeBench$Routine", "open", "I", false)
def tyX5 : Nat → FieldType := fun k => match k with
  | 0 => .int
  | 1 => .array (.object "GaugeBench$Step")
  | 2 => .object "GaugeBench$Block"
  | 3 => .int
  | _ => .int
theorem nmX5 : ∀ a, a < 5 → ∀ b, b < 5 → a ≠ b → (TX5 a).2.1 ≠ (TX5 b).2.1 := by decide +kernel
theorem tyX5_ok : ∀ k, k < 5 → parseFieldDescriptor (TX5 k).2.2.1 = some (tyX5 k) := by decide +kernel
abbrev cX5_init : ByteArray := prog_7_method_1_code
def yX5_init : MethodName := ⟨RX5, "<init>", "(I)V"⟩
abbrev cX5_stepAt : ByteArray := prog_7_method_2_code
def yX5_stepAt : MethodName := ⟨RX5, "stepAt", "(I)LGaugeBench$Step;"⟩
abbrev cX5_forget : ByteArray := prog_7_method_3_code
def yX5_forget : MethodName := ⟨RX5, "forget", "()I"⟩
abbrev cX5_append : ByteArray := prog_7_method_4_code
def yX5_append : MethodName := ⟨RX5, "append", "(IIII)I"⟩
abbrev cX5_mayStandHere : ByteArray := prog_7_method_5_code
def yX5_mayStandHere : MethodName := ⟨RX5, "mayStandHere", "(I)Z"⟩
abbrev cX5_mayLeave : ByteArray := prog_7_method_6_code
def yX5_mayLeave : MethodName := ⟨RX5, "mayLeave", "()Z"⟩
abbrev cX5_isPartOpen : ByteArray := prog_7_method_7_code
def yX5_isPartOpen : MethodName := ⟨RX5, "isPartOpen", "(I)Z"⟩
abbrev cX5_tieToBlocks : ByteArray := prog_7_method_8_code
def yX5_tieToBlocks : MethodName := ⟨RX5, "tieToBlocks", "(LGaugeBench$Step;)V"⟩
abbrev cX5_closeInnermost : ByteArray := prog_7_method_9_code
def yX5_closeInnermost : MethodName := ⟨RX5, "closeInnermost", "(LGaugeBench$Step;)V"⟩
def RX6 : String := "GaugeBench$Row"
def TX6 : u_T := fun k => match k with
  | 0 => ("GaugeBench$Row", "kind", "I", true)
  | 1 => ("GaugeBench$Row", "doubles", "[D", true)
  | 2 => ("GaugeBench$Row", "ready", "[Z", true)
  | _ => ("GaugeBench$Row", "places", "I", false)
def tyX6 : Nat → FieldType := fun k => match k with
  | 0 => .int
  | 1 => .array .double
  | 2 => .array .boolean
  | _ => .int
theorem nmX6 : ∀ a, a < 4 → ∀ b, b < 4 → a ≠ b → (TX6 a).2.1 ≠ (TX6 b).2.1 := by decide +kernel
theorem tyX6_ok : ∀ k, k < 4 → parseFieldDescriptor (TX6 k).2.2.1 = some (tyX6 k) := by decide +kernel
abbrev cX6_init : ByteArray := prog_8_method_1_code
def yX6_init : MethodName := ⟨RX6, "<init>", "(I)V"⟩
abbrev cX6_make : ByteArray := prog_8_method_2_code
def yX6_make : MethodName := ⟨RX6, "make", "(I)I"⟩
abbrev cX6_drop : ByteArray := prog_8_method_3_code
def yX6_drop : MethodName := ⟨RX6, "drop", "()V"⟩
abbrev cX6_faultAt : ByteArray := prog_8_method_4_code
def yX6_faultAt : MethodName := ⟨RX6, "faultAt", "(IZ)I"⟩
abbrev cX6_got : ByteArray := prog_8_method_5_code
def yX6_got : MethodName := ⟨RX6, "got", "(I)D"⟩
abbrev cX6_put : ByteArray := prog_8_method_6_code
def yX6_put : MethodName := ⟨RX6, "put", "(ID)I"⟩
abbrev cX6_fit : ByteArray := prog_8_method_7_code
def yX6_fit : MethodName := ⟨RX6, "fit", "(I)I"⟩
abbrev cX6_holdsProbe : ByteArray := prog_8_method_8_code
def yX6_holdsProbe : MethodName := ⟨RX6, "holdsProbe", "(I)Z"⟩
abbrev cX6_asHeld : ByteArray := prog_8_method_9_code
def yX6_asHeld : MethodName := ⟨RX6, "asHeld", "(D)D"⟩
def RX7 : String := "GaugeBench$Step"
def TX7 : u_T := fun k => match k with
  | 0 => ("GaugeBench$Step", "what", "I", true)
  | 1 => ("GaugeBench$Step", "a", "I", true)
  | 2 => ("GaugeBench$Step", "b", "I", true)
  | 3 => ("GaugeBench$Step", "c", "I", true)
  | 4 => ("GaugeBench$Step", "number", "I", true)
  | 5 => ("GaugeBench$Step", "place", "I", true)
  | 6 => ("GaugeBench$Step", "last", "I", false)
  | _ => ("GaugeBench$Step", "nextPart", "LGaugeBench$Step;", false)
def tyX7 : Nat → FieldType := fun k => match k with
  | 0 => .int
  | 1 => .int
  | 2 => .int
  | 3 => .int
  | 4 => .int
  | 5 => .int
  | 6 => .int
  | _ => .object "GaugeBench$Step"
theorem nmX7 : ∀ a, a < 8 → ∀ b, b < 8 → a ≠ b → (TX7 a).2.1 ≠ (TX7 b).2.1 := by decide +kernel
theorem tyX7_ok : ∀ k, k < 8 → parseFieldDescriptor (TX7 k).2.2.1 = some (tyX7 k) := by decide +kernel
abbrev cX7_init : ByteArray := prog_9_method_1_code
def yX7_init : MethodName := ⟨RX7, "<init>", "(IIIIII)V"⟩
abbrev cX7_isTold : ByteArray := prog_9_method_2_code
def yX7_isTold : MethodName := ⟨RX7, "isTold", "(IIII)Z"⟩
abbrev cX7_isWithin : ByteArray := prog_9_method_3_code
def yX7_isWithin : MethodName := ⟨RX7, "isWithin", "(III)Z"⟩
abbrev cX7_partEnd : ByteArray := prog_9_method_4_code
def yX7_partEnd : MethodName := ⟨RX7, "partEnd", "()I"⟩
abbrev cX7_catchPartFor : ByteArray := prog_9_method_5_code
def yX7_catchPartFor : MethodName := ⟨RX7, "catchPartFor", "(I)LGaugeBench$Step;"⟩
abbrev cX7_finallyPart : ByteArray := prog_9_method_6_code
def yX7_finallyPart : MethodName := ⟨RX7, "finallyPart", "()LGaugeBench$Step;"⟩
def RX8 : String := "GaugeBench$Sums"
def TX8 : u_T := fun k => match k with
  | _ => ("", "", "", false)
def tyX8 : Nat → FieldType := fun k => match k with
  | _ => .int
theorem nmX8 : ∀ a, a < 0 → ∀ b, b < 0 → a ≠ b → (TX8 a).2.1 ≠ (TX8 b).2.1 := by decide +kernel
theorem tyX8_ok : ∀ k, k < 0 → parseFieldDescriptor (TX8 k).2.2.1 = some (tyX8 k) := by decide +kernel
abbrev cX8_divides : ByteArray := prog_10_method_2_code
def yX8_divides : MethodName := ⟨RX8, "divides", "(I)Z"⟩
abbrev cX8_fine : ByteArray := prog_10_method_3_code
def yX8_fine : MethodName := ⟨RX8, "fine", "(IDD)D"⟩
abbrev cX8_roundsFloats : ByteArray := prog_10_method_4_code
def yX8_roundsFloats : MethodName := ⟨RX8, "roundsFloats", "(I)Z"⟩
abbrev cX8_rough : ByteArray := prog_10_method_5_code
def yX8_rough : MethodName := ⟨RX8, "rough", "(IFF)F"⟩
abbrev cX8_whole : ByteArray := prog_10_method_6_code
def yX8_whole : MethodName := ⟨RX8, "whole", "(III)I"⟩
abbrev cX8_wide : ByteArray := prog_10_method_7_code
def yX8_wide : MethodName := ⟨RX8, "wide", "(IJJ)J"⟩
abbrev cX8_hasMinus : ByteArray := prog_10_method_8_code
def yX8_hasMinus : MethodName := ⟨RX8, "hasMinus", "(D)Z"⟩
abbrev cX8_isLess : ByteArray := prog_10_method_9_code
def yX8_isLess : MethodName := ⟨RX8, "isLess", "(DD)Z"⟩
abbrev cX8_wholeBelow : ByteArray := prog_10_method_10_code
def yX8_wholeBelow : MethodName := ⟨RX8, "wholeBelow", "(D)D"⟩
abbrev cX8_nearestWhole : ByteArray := prog_10_method_11_code
def yX8_nearestWhole : MethodName := ⟨RX8, "nearestWhole", "(D)D"⟩
abbrev cX8_rest : ByteArray := prog_10_method_12_code
def yX8_rest : MethodName := ⟨RX8, "rest", "(DD)D"⟩
def RX9 : String := "GaugeBench"
def TX9 : u_T := fun k => match k with
  | _ => ("GaugeBench", "bench", "LGaugeBench$Bench;", true)
def tyX9 : Nat → FieldType := fun k => match k with
  | _ => .object "GaugeBench$Bench"
theorem nmX9 : ∀ a, a < 1 → ∀ b, b < 1 → a ≠ b → (TX9 a).2.1 ≠ (TX9 b).2.1 := by decide +kernel
theorem tyX9_ok : ∀ k, k < 1 → parseFieldDescriptor (TX9 k).2.2.1 = some (tyX9 k) := by decide +kernel
abbrev cX9_init : ByteArray := prog_1_method_1_code
def yX9_init : MethodName := ⟨RX9, "<init>", "()V"⟩
abbrev cX9_choose : ByteArray := prog_1_method_2_code
def yX9_choose : MethodName := ⟨RX9, "choose", "(I)I"⟩
abbrev cX9_step : ByteArray := prog_1_method_3_code
def yX9_step : MethodName := ⟨RX9, "step", "(IIII)I"⟩
abbrev cX9_clear : ByteArray := prog_1_method_4_code
def yX9_clear : MethodName := ⟨RX9, "clear", "()I"⟩
abbrev cX9_run : ByteArray := prog_1_method_5_code
def yX9_run : MethodName := ⟨RX9, "run", "()I"⟩
abbrev cX9_dial : ByteArray := prog_1_method_6_code
def yX9_dial : MethodName := ⟨RX9, "dial", "(I)D"⟩
abbrev cX9_size : ByteArray := prog_1_method_7_code
def yX9_size : MethodName := ⟨RX9, "size", "(I)I"⟩
abbrev cX9_value : ByteArray := prog_1_method_8_code
def yX9_value : MethodName := ⟨RX9, "value", "(II)D"⟩
abbrev cX9_isFitted : ByteArray := prog_1_method_9_code
def yX9_isFitted : MethodName := ⟨RX9, "isFitted", "(II)Z"⟩
abbrev cX9_log : ByteArray := prog_1_method_10_code
def yX9_log : MethodName := ⟨RX9, "log", "(I)D"⟩
abbrev cX9_isMinus : ByteArray := prog_1_method_11_code
def yX9_isMinus : MethodName := ⟨RX9, "isMinus", "(I)Z"⟩
abbrev cX9_count : ByteArray := prog_1_method_12_code
def yX9_count : MethodName := ⟨RX9, "count", "(I)I"⟩
abbrev cX9_fault : ByteArray := prog_1_method_13_code
def yX9_fault : MethodName := ⟨RX9, "fault", "(I)I"⟩
def RX10 : String := "GaugeBenchModel"
def TX10 : u_T := fun k => match k with
  | 0 => ("GaugeBenchModel", "whats", "[I", true)
  | 1 => ("GaugeBenchModel", "as", "[I", true)
  | 2 => ("GaugeBenchModel", "bs", "[I", true)
  | 3 => ("GaugeBenchModel", "cs", "[I", true)
  | 4 => ("GaugeBenchModel", "ends", "[I", true)
  | 5 => ("GaugeBenchModel", "nexts", "[I", true)
  | 6 => ("GaugeBenchModel", "sizes", "[I", true)
  | 7 => ("GaugeBenchModel", "depths", "[I", true)
  | 8 => ("GaugeBenchModel", "openSteps", "[I", true)
  | 9 => ("GaugeBenchModel", "openParts", "[I", true)
  | 10 => ("GaugeBenchModel", "openCatches", "[I", true)
  | 11 => ("GaugeBenchModel", "atHand", "I", false)
  | 12 => ("GaugeBenchModel", "dials", "[D", true)
  | 13 => ("GaugeBenchModel", "isThere", "[Z", true)
  | 14 => ("GaugeBenchModel", "lengths", "[I", true)
  | 15 => ("GaugeBenchModel", "places", "[D", true)
  | 16 => ("GaugeBenchModel", "fitted", "[Z", true)
  | 17 => ("GaugeBenchModel", "faultKinds", "[I", true)
  | 18 => ("GaugeBenchModel", "faultPlaces", "[I", true)
  | 19 => ("GaugeBenchModel", "faultNumbers", "[I", true)
  | 20 => ("GaugeBenchModel", "earlier", "[I", true)
  | 21 => ("GaugeBenchModel", "earlierMany", "[I", true)
  | 22 => ("GaugeBenchModel", "faultCount", "I", false)
  | 23 => ("GaugeBenchModel", "thrown", "I", false)
  | 24 => ("GaugeBenchModel", "kinds", "[I", true)
  | 25 => ("GaugeBenchModel", "steps", "[I", true)
  | 26 => ("GaugeBenchModel", "lefts", "[I", true)
  | 27 => ("GaugeBenchModel", "faults", "[I", true)
  | 28 => ("GaugeBenchModel", "ways", "[I", true)
  | 29 => ("GaugeBenchModel", "open", "I", false)
  | 30 => ("GaugeBenchModel", "at", "I", false)
  | 31 => ("GaugeBenchModel", "way", "I", false)
  | 32 => ("GaugeBenchModel", "fault", "I", false)
  | 33 => ("GaugeBenchModel", "calls", "I", false)
  | 34 => ("GaugeBenchModel", "counted", "I", false)
  | 35 => ("GaugeBenchModel", "caughtMany", "I", false)
  | 36 => ("GaugeBenchModel", "lastMany", "I", false)
  | 37 => ("GaugeBenchModel", "log", "[D", true)
  | 38 => ("GaugeBenchModel", "logged", "I", false)
  | _ => ("GaugeBenchModel", "above", "[I", true)
def tyX10 : Nat → FieldType := fun k => match k with
  | 0 => .array .int
  | 1 => .array .int
  | 2 => .array .int
  | 3 => .array .int
  | 4 => .array .int
  | 5 => .array .int
  | 6 => .array .int
  | 7 => .array .int
  | 8 => .array .int
  | 9 => .array .int
  | 10 => .array .int
  | 11 => .int
  | 12 => .array .double
  | 13 => .array .boolean
  | 14 => .array .int
  | 15 => .array .double
  | 16 => .array .boolean
  | 17 => .array .int
  | 18 => .array .int
  | 19 => .array .int
  | 20 => .array .int
  | 21 => .array .int
  | 22 => .int
  | 23 => .int
  | 24 => .array .int
  | 25 => .array .int
  | 26 => .array .int
  | 27 => .array .int
  | 28 => .array .int
  | 29 => .int
  | 30 => .int
  | 31 => .int
  | 32 => .int
  | 33 => .int
  | 34 => .int
  | 35 => .int
  | 36 => .int
  | 37 => .array .double
  | 38 => .int
  | _ => .array .int
theorem nmX10 : ∀ a, a < 40 → ∀ b, b < 40 → a ≠ b → (TX10 a).2.1 ≠ (TX10 b).2.1 := by decide +kernel
theorem tyX10_ok : ∀ k, k < 40 → parseFieldDescriptor (TX10 k).2.2.1 = some (tyX10 k) := by decide +kernel
abbrev cX10_init : ByteArray := prog_12_method_1_code
def yX10_init : MethodName := ⟨RX10, "<init>", "()V"⟩
abbrev cX10_isIn : ByteArray := prog_12_method_2_code
def yX10_isIn : MethodName := ⟨RX10, "isIn", "(III)Z"⟩
abbrev cX10_choose : ByteArray := prog_12_method_3_code
def yX10_choose : MethodName := ⟨RX10, "choose", "(I)I"⟩
abbrev cX10_isDial : ByteArray := prog_12_method_4_code
def yX10_isDial : MethodName := ⟨RX10, "isDial", "(I)Z"⟩
abbrev cX10_isRow : ByteArray := prog_12_method_5_code
def yX10_isRow : MethodName := ⟨RX10, "isRow", "(I)Z"⟩
abbrev cX10_areTold : ByteArray := prog_12_method_6_code
def yX10_areTold : MethodName := ⟨RX10, "areTold", "(IIII)Z"⟩
abbrev cX10_isBlock : ByteArray := prog_12_method_7_code
def yX10_isBlock : MethodName := ⟨RX10, "isBlock", "(I)Z"⟩
abbrev cX10_partAt : ByteArray := prog_12_method_8_code
def yX10_partAt : MethodName := ⟨RX10, "partAt", "(I)I"⟩
abbrev cX10_isPartOpen : ByteArray := prog_12_method_9_code
def yX10_isPartOpen : MethodName := ⟨RX10, "isPartOpen", "(II)Z"⟩
abbrev cX10_mayStand : ByteArray := prog_12_method_10_code
def yX10_mayStand : MethodName := ⟨RX10, "mayStand", "(I)Z"⟩
abbrev cX10_step : ByteArray := prog_12_method_11_code
def yX10_step : MethodName := ⟨RX10, "step", "(IIII)I"⟩
abbrev cX10_clear : ByteArray := prog_12_method_12_code
def yX10_clear : MethodName := ⟨RX10, "clear", "()I"⟩
abbrev cX10_isUnder : ByteArray := prog_12_method_13_code
def yX10_isUnder : MethodName := ⟨RX10, "isUnder", "(II)Z"⟩
abbrev cX10_throwNew : ByteArray := prog_12_method_14_code
def yX10_throwNew : MethodName := ⟨RX10, "throwNew", "(IIII)V"⟩
abbrev cX10_fail : ByteArray := prog_12_method_15_code
def yX10_fail : MethodName := ⟨RX10, "fail", "(I)V"⟩
abbrev cX10_weighed : ByteArray := prog_12_method_16_code
def yX10_weighed : MethodName := ⟨RX10, "weighed", "(III)I"⟩
abbrev cX10_below : ByteArray := prog_12_method_17_code
def yX10_below : MethodName := ⟨RX10, "below", "(II)I"⟩
abbrev cX10_weight : ByteArray := prog_12_method_18_code
def yX10_weight : MethodName := ⟨RX10, "weight", "(I)I"⟩
abbrev cX10_push : ByteArray := prog_12_method_19_code
def yX10_push : MethodName := ⟨RX10, "push", "(III)V"⟩
abbrev cX10_begin : ByteArray := prog_12_method_20_code
def yX10_begin : MethodName := ⟨RX10, "begin", "(II)V"⟩
abbrev cX10_over : ByteArray := prog_12_method_21_code
def yX10_over : MethodName := ⟨RX10, "over", "()V"⟩
abbrev cX10_lastPart : ByteArray := prog_12_method_22_code
def yX10_lastPart : MethodName := ⟨RX10, "lastPart", "()V"⟩
abbrev cX10_seekCatch : ByteArray := prog_12_method_23_code
def yX10_seekCatch : MethodName := ⟨RX10, "seekCatch", "()V"⟩
abbrev cX10_leave : ByteArray := prog_12_method_24_code
def yX10_leave : MethodName := ⟨RX10, "leave", "()V"⟩
abbrev cX10_isCounted : ByteArray := prog_12_method_25_code
def yX10_isCounted : MethodName := ⟨RX10, "isCounted", "()Z"⟩
abbrev cX10_round : ByteArray := prog_12_method_26_code
def yX10_round : MethodName := ⟨RX10, "round", "()V"⟩
abbrev cX10_endPart : ByteArray := prog_12_method_27_code
def yX10_endPart : MethodName := ⟨RX10, "endPart", "()V"⟩
abbrev cX10_go : ByteArray := prog_12_method_28_code
def yX10_go : MethodName := ⟨RX10, "go", "()V"⟩
abbrev cX10_run : ByteArray := prog_12_method_29_code
def yX10_run : MethodName := ⟨RX10, "run", "()I"⟩
abbrev cX10_caught : ByteArray := prog_12_method_30_code
def yX10_caught : MethodName := ⟨RX10, "caught", "()I"⟩
abbrev cX10_note : ByteArray := prog_12_method_31_code
def yX10_note : MethodName := ⟨RX10, "note", "(D)V"⟩
abbrev cX10_isSo : ByteArray := prog_12_method_32_code
def yX10_isSo : MethodName := ⟨RX10, "isSo", "(I)Z"⟩
abbrev cX10_call : ByteArray := prog_12_method_33_code
def yX10_call : MethodName := ⟨RX10, "call", "(I)V"⟩
abbrev cX10_wrap : ByteArray := prog_12_method_34_code
def yX10_wrap : MethodName := ⟨RX10, "wrap", "(I)V"⟩
abbrev cX10_tell : ByteArray := prog_12_method_35_code
def yX10_tell : MethodName := ⟨RX10, "tell", "()V"⟩
abbrev cX10_order : ByteArray := prog_12_method_36_code
def yX10_order : MethodName := ⟨RX10, "order", "(I)V"⟩
abbrev cX10_faultOf : ByteArray := prog_12_method_37_code
def yX10_faultOf : MethodName := ⟨RX10, "faultOf", "(IIZ)I"⟩
abbrev cX10_kept : ByteArray := prog_12_method_38_code
def yX10_kept : MethodName := ⟨RX10, "kept", "(ID)D"⟩
abbrev cX10_make : ByteArray := prog_12_method_39_code
def yX10_make : MethodName := ⟨RX10, "make", "(II)V"⟩
abbrev cX10_onRow : ByteArray := prog_12_method_40_code
def yX10_onRow : MethodName := ⟨RX10, "onRow", "(I)V"⟩
abbrev cX10_work : ByteArray := prog_12_method_41_code
def yX10_work : MethodName := ⟨RX10, "work", "(I)V"⟩
abbrev cX10_isMinusNumber : ByteArray := prog_12_method_42_code
def yX10_isMinusNumber : MethodName := ⟨RX10, "isMinusNumber", "(D)Z"⟩
abbrev cX10_signed : ByteArray := prog_12_method_43_code
def yX10_signed : MethodName := ⟨RX10, "signed", "(DZ)D"⟩
abbrev cX10_lower : ByteArray := prog_12_method_44_code
def yX10_lower : MethodName := ⟨RX10, "lower", "(D)D"⟩
abbrev cX10_signed0 : ByteArray := prog_12_method_45_code
def yX10_signed0 : MethodName := ⟨RX10, "signed0", "(DD)D"⟩
abbrev cX10_upper : ByteArray := prog_12_method_46_code
def yX10_upper : MethodName := ⟨RX10, "upper", "(D)D"⟩
abbrev cX10_nearest : ByteArray := prog_12_method_47_code
def yX10_nearest : MethodName := ⟨RX10, "nearest", "(D)D"⟩
abbrev cX10_chosen : ByteArray := prog_12_method_48_code
def yX10_chosen : MethodName := ⟨RX10, "chosen", "(IDD)D"⟩
abbrev cX10_turn : ByteArray := prog_12_method_49_code
def yX10_turn : MethodName := ⟨RX10, "turn", "(ID)V"⟩
abbrev cX10_fine : ByteArray := prog_12_method_50_code
def yX10_fine : MethodName := ⟨RX10, "fine", "(I)V"⟩
abbrev cX10_rough : ByteArray := prog_12_method_51_code
def yX10_rough : MethodName := ⟨RX10, "rough", "(I)V"⟩
abbrev cX10_whole : ByteArray := prog_12_method_52_code
def yX10_whole : MethodName := ⟨RX10, "whole", "(I)V"⟩
abbrev cX10_wide : ByteArray := prog_12_method_53_code
def yX10_wide : MethodName := ⟨RX10, "wide", "(I)V"⟩
abbrev cX10_dial : ByteArray := prog_12_method_54_code
def yX10_dial : MethodName := ⟨RX10, "dial", "(I)D"⟩
abbrev cX10_size : ByteArray := prog_12_method_55_code
def yX10_size : MethodName := ⟨RX10, "size", "(I)I"⟩
abbrev cX10_value : ByteArray := prog_12_method_56_code
def yX10_value : MethodName := ⟨RX10, "value", "(II)D"⟩
abbrev cX10_isFitted : ByteArray := prog_12_method_57_code
def yX10_isFitted : MethodName := ⟨RX10, "isFitted", "(II)Z"⟩
abbrev cX10_log : ByteArray := prog_12_method_58_code
def yX10_log : MethodName := ⟨RX10, "log", "(I)D"⟩
abbrev cX10_isMinus : ByteArray := prog_12_method_59_code
def yX10_isMinus : MethodName := ⟨RX10, "isMinus", "(I)Z"⟩
abbrev cX10_count : ByteArray := prog_12_method_60_code
def yX10_count : MethodName := ⟨RX10, "count", "(I)I"⟩
abbrev cX10_fault : ByteArray := prog_12_method_61_code
def yX10_fault : MethodName := ⟨RX10, "fault", "(I)I"⟩
def RJ9 : String := "java/lang/Math"
def TJ9 : u_T := fun k => match k with
  | _ => ("", "", "", false)
def tyJ9 : Nat → FieldType := fun k => match k with
  | _ => .int
theorem nmJ9 : ∀ a, a < 0 → ∀ b, b < 0 → a ≠ b → (TJ9 a).2.1 ≠ (TJ9 b).2.1 := by decide +kernel
theorem tyJ9_ok : ∀ k, k < 0 → parseFieldDescriptor (TJ9 k).2.2.1 = some (tyJ9 k) := by decide +kernel
abbrev cJ9_max_7cf53 : ByteArray := prog_13_method_65_code
def yJ9_max_7cf53 : MethodName := ⟨RJ9, "max", "(II)I"⟩
def RL : String := "GaugeBenchLaw"
abbrev cL_law : ByteArray := code
def yL_law : MethodName := ⟨RL, "law", "([I)Z"⟩
abbrev vwCl : List vw_C := [(RX0, TX0, 9), (RX1, TX1, 4), (RX2, TX2, 1), (RX3, TX3, 6), (RX4, TX4, 2), (RX5, TX5, 5), (RX6, TX6, 4), (RX7, TX7, 8), (RX9, TX9, 1), (RX10, TX10, 40)]
