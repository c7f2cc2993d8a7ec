section
-- ===== PART A: goes FIRST, ahead of the names: the tables' words, and 'selects' of the private methods out of them =====
/-- a private method of a class that the tables say can be made, by its rows of tables_1 -/
def lw_okq (q : MethodName × Nat) : Prop := (q.1.cls ≠ "java/lang/invoke/MethodHandle" ∧ q.1.cls ≠ "java/lang/invoke/VarHandle") ∧ Cond.instantiable q.1.cls q.2 ∈ tables_1 ∧ Cond.privateMethod q.1 ∈ tables_1 ∧ Cond.instanceMethod q.1 ∈ tables_1
theorem lw_p0 : lw_okq (⟨"GaugeBench$Routine", "mayStandHere", "(I)Z"⟩, 5) := ⟨⟨by decide +kernel, by decide +kernel⟩, List.mem_of_getElem? (i := 28) (by decide +kernel), List.mem_of_getElem? (i := 174) (by decide +kernel), List.mem_of_getElem? (i := 175) (by decide +kernel)⟩
theorem lw_p1 : lw_okq (⟨"GaugeBench$Routine", "mayLeave", "()Z"⟩, 5) := ⟨⟨by decide +kernel, by decide +kernel⟩, List.mem_of_getElem? (i := 28) (by decide +kernel), List.mem_of_getElem? (i := 182) (by decide +kernel), List.mem_of_getElem? (i := 183) (by decide +kernel)⟩
theorem lw_p2 : lw_okq (⟨"GaugeBench$Routine", "isPartOpen", "(I)Z"⟩, 5) := ⟨⟨by decide +kernel, by decide +kernel⟩, List.mem_of_getElem? (i := 28) (by decide +kernel), List.mem_of_getElem? (i := 186) (by decide +kernel), List.mem_of_getElem? (i := 187) (by decide +kernel)⟩
theorem lw_p3 : lw_okq (⟨"GaugeBench$Routine", "tieToBlocks", "(LGaugeBench$Step;)V"⟩, 5) := ⟨⟨by decide +kernel, by decide +kernel⟩, List.mem_of_getElem? (i := 28) (by decide +kernel), List.mem_of_getElem? (i := 232) (by decide +kernel), List.mem_of_getElem? (i := 233) (by decide +kernel)⟩
theorem lw_p4 : lw_okq (⟨"GaugeBench$Routine", "closeInnermost", "(LGaugeBench$Step;)V"⟩, 5) := ⟨⟨by decide +kernel, by decide +kernel⟩, List.mem_of_getElem? (i := 28) (by decide +kernel), List.mem_of_getElem? (i := 262) (by decide +kernel), List.mem_of_getElem? (i := 263) (by decide +kernel)⟩
theorem lw_p5 : lw_okq (⟨"GaugeBench$Bench", "doSteps", "(LGaugeBench$Routine;IILGaugeBench$Fault;I)I"⟩, 9) := ⟨⟨by decide +kernel, by decide +kernel⟩, List.mem_of_getElem? (i := 22) (by decide +kernel), List.mem_of_getElem? (i := 286) (by decide +kernel), List.mem_of_getElem? (i := 287) (by decide +kernel)⟩
theorem lw_p6 : lw_okq (⟨"GaugeBench$Bench", "doStep", "(LGaugeBench$Routine;LGaugeBench$Step;LGaugeBench$Fault;I)I"⟩, 9) := ⟨⟨by decide +kernel, by decide +kernel⟩, List.mem_of_getElem? (i := 22) (by decide +kernel), List.mem_of_getElem? (i := 294) (by decide +kernel), List.mem_of_getElem? (i := 295) (by decide +kernel)⟩
theorem lw_p7 : lw_okq (⟨"GaugeBench$Bench", "isCounted", "()Z"⟩, 9) := ⟨⟨by decide +kernel, by decide +kernel⟩, List.mem_of_getElem? (i := 22) (by decide +kernel), List.mem_of_getElem? (i := 298) (by decide +kernel), List.mem_of_getElem? (i := 299) (by decide +kernel)⟩
theorem lw_p8 : lw_okq (⟨"GaugeBench$Bench", "throwNew", "(ILGaugeBench$Step;)I"⟩, 9) := ⟨⟨by decide +kernel, by decide +kernel⟩, List.mem_of_getElem? (i := 22) (by decide +kernel), List.mem_of_getElem? (i := 302) (by decide +kernel), List.mem_of_getElem? (i := 303) (by decide +kernel)⟩
theorem lw_p9 : lw_okq (⟨"GaugeBench$Bench", "leaveBy", "(LGaugeBench$Fault;)I"⟩, 9) := ⟨⟨by decide +kernel, by decide +kernel⟩, List.mem_of_getElem? (i := 22) (by decide +kernel), List.mem_of_getElem? (i := 344) (by decide +kernel), List.mem_of_getElem? (i := 345) (by decide +kernel)⟩
theorem lw_p10 : lw_okq (⟨"GaugeBench$Bench", "doTry", "(LGaugeBench$Routine;LGaugeBench$Step;LGaugeBench$Fault;I)I"⟩, 9) := ⟨⟨by decide +kernel, by decide +kernel⟩, List.mem_of_getElem? (i := 22) (by decide +kernel), List.mem_of_getElem? (i := 348) (by decide +kernel), List.mem_of_getElem? (i := 349) (by decide +kernel)⟩
theorem lw_p11 : lw_okq (⟨"GaugeBench$Bench", "doPart", "(LGaugeBench$Routine;LGaugeBench$Step;LGaugeBench$Fault;I)I"⟩, 9) := ⟨⟨by decide +kernel, by decide +kernel⟩, List.mem_of_getElem? (i := 22) (by decide +kernel), List.mem_of_getElem? (i := 352) (by decide +kernel), List.mem_of_getElem? (i := 353) (by decide +kernel)⟩
theorem lw_p12 : lw_okq (⟨"GaugeBench$Bench", "doFinally", "(LGaugeBench$Routine;LGaugeBench$Step;ILGaugeBench$Fault;I)I"⟩, 9) := ⟨⟨by decide +kernel, by decide +kernel⟩, List.mem_of_getElem? (i := 22) (by decide +kernel), List.mem_of_getElem? (i := 373) (by decide +kernel), List.mem_of_getElem? (i := 374) (by decide +kernel)⟩
theorem lw_p13 : lw_okq (⟨"GaugeBench$Bench", "doLoop", "(LGaugeBench$Routine;LGaugeBench$Step;LGaugeBench$Fault;I)I"⟩, 9) := ⟨⟨by decide +kernel, by decide +kernel⟩, List.mem_of_getElem? (i := 22) (by decide +kernel), List.mem_of_getElem? (i := 377) (by decide +kernel), List.mem_of_getElem? (i := 378) (by decide +kernel)⟩
theorem lw_p14 : lw_okq (⟨"GaugeBench$Bench", "isSo", "(LGaugeBench$Step;)Z"⟩, 9) := ⟨⟨by decide +kernel, by decide +kernel⟩, List.mem_of_getElem? (i := 22) (by decide +kernel), List.mem_of_getElem? (i := 381) (by decide +kernel), List.mem_of_getElem? (i := 382) (by decide +kernel)⟩
theorem lw_p15 : lw_okq (⟨"GaugeBench$Bench", "doCall", "(LGaugeBench$Step;I)I"⟩, 9) := ⟨⟨by decide +kernel, by decide +kernel⟩, List.mem_of_getElem? (i := 22) (by decide +kernel), List.mem_of_getElem? (i := 389) (by decide +kernel), List.mem_of_getElem? (i := 390) (by decide +kernel)⟩
def lw_privs_1 : List (MethodName × Nat) := [(⟨"GaugeBench$Routine", "mayStandHere", "(I)Z"⟩, 5), (⟨"GaugeBench$Routine", "mayLeave", "()Z"⟩, 5), (⟨"GaugeBench$Routine", "isPartOpen", "(I)Z"⟩, 5), (⟨"GaugeBench$Routine", "tieToBlocks", "(LGaugeBench$Step;)V"⟩, 5), (⟨"GaugeBench$Routine", "closeInnermost", "(LGaugeBench$Step;)V"⟩, 5), (⟨"GaugeBench$Bench", "doSteps", "(LGaugeBench$Routine;IILGaugeBench$Fault;I)I"⟩, 9), (⟨"GaugeBench$Bench", "doStep", "(LGaugeBench$Routine;LGaugeBench$Step;LGaugeBench$Fault;I)I"⟩, 9), (⟨"GaugeBench$Bench", "isCounted", "()Z"⟩, 9), (⟨"GaugeBench$Bench", "throwNew", "(ILGaugeBench$Step;)I"⟩, 9), (⟨"GaugeBench$Bench", "leaveBy", "(LGaugeBench$Fault;)I"⟩, 9), (⟨"GaugeBench$Bench", "doTry", "(LGaugeBench$Routine;LGaugeBench$Step;LGaugeBench$Fault;I)I"⟩, 9), (⟨"GaugeBench$Bench", "doPart", "(LGaugeBench$Routine;LGaugeBench$Step;LGaugeBench$Fault;I)I"⟩, 9), (⟨"GaugeBench$Bench", "doFinally", "(LGaugeBench$Routine;LGaugeBench$Step;ILGaugeBench$Fault;I)I"⟩, 9), (⟨"GaugeBench$Bench", "doLoop", "(LGaugeBench$Routine;LGaugeBench$Step;LGaugeBench$Fault;I)I"⟩, 9), (⟨"GaugeBench$Bench", "isSo", "(LGaugeBench$Step;)Z"⟩, 9), (⟨"GaugeBench$Bench", "doCall", "(LGaugeBench$Step;I)I"⟩, 9)]
theorem lw_r1 : ∀ q ∈ lw_privs_1, lw_okq q := List.forall_mem_cons.mpr ⟨lw_p0, List.forall_mem_cons.mpr ⟨lw_p1, List.forall_mem_cons.mpr ⟨lw_p2, List.forall_mem_cons.mpr ⟨lw_p3, List.forall_mem_cons.mpr ⟨lw_p4, List.forall_mem_cons.mpr ⟨lw_p5, List.forall_mem_cons.mpr ⟨lw_p6, List.forall_mem_cons.mpr ⟨lw_p7, List.forall_mem_cons.mpr ⟨lw_p8, List.forall_mem_cons.mpr ⟨lw_p9, List.forall_mem_cons.mpr ⟨lw_p10, List.forall_mem_cons.mpr ⟨lw_p11, List.forall_mem_cons.mpr ⟨lw_p12, List.forall_mem_cons.mpr ⟨lw_p13, List.forall_mem_cons.mpr ⟨lw_p14, List.forall_mem_cons.mpr ⟨lw_p15, fun _ h => absurd h List.not_mem_nil⟩⟩⟩⟩⟩⟩⟩⟩⟩⟩⟩⟩⟩⟩⟩⟩
theorem lw_p16 : lw_okq (⟨"GaugeBench$Bench", "useCaught", "(LGaugeBench$Step;LGaugeBench$Fault;)I"⟩, 9) := ⟨⟨by decide +kernel, by decide +kernel⟩, List.mem_of_getElem? (i := 22) (by decide +kernel), List.mem_of_getElem? (i := 394) (by decide +kernel), List.mem_of_getElem? (i := 395) (by decide +kernel)⟩
theorem lw_p17 : lw_okq (⟨"GaugeBench$Bench", "work", "(LGaugeBench$Step;)I"⟩, 9) := ⟨⟨by decide +kernel, by decide +kernel⟩, List.mem_of_getElem? (i := 22) (by decide +kernel), List.mem_of_getElem? (i := 402) (by decide +kernel), List.mem_of_getElem? (i := 403) (by decide +kernel)⟩
theorem lw_p18 : lw_okq (⟨"GaugeBench$Bench", "doFine", "(LGaugeBench$Step;)I"⟩, 9) := ⟨⟨by decide +kernel, by decide +kernel⟩, List.mem_of_getElem? (i := 22) (by decide +kernel), List.mem_of_getElem? (i := 413) (by decide +kernel), List.mem_of_getElem? (i := 414) (by decide +kernel)⟩
theorem lw_p19 : lw_okq (⟨"GaugeBench$Bench", "doRough", "(LGaugeBench$Step;)I"⟩, 9) := ⟨⟨by decide +kernel, by decide +kernel⟩, List.mem_of_getElem? (i := 22) (by decide +kernel), List.mem_of_getElem? (i := 445) (by decide +kernel), List.mem_of_getElem? (i := 446) (by decide +kernel)⟩
theorem lw_p20 : lw_okq (⟨"GaugeBench$Bench", "doWhole", "(LGaugeBench$Step;)I"⟩, 9) := ⟨⟨by decide +kernel, by decide +kernel⟩, List.mem_of_getElem? (i := 22) (by decide +kernel), List.mem_of_getElem? (i := 453) (by decide +kernel), List.mem_of_getElem? (i := 454) (by decide +kernel)⟩
theorem lw_p21 : lw_okq (⟨"GaugeBench$Bench", "doWide", "(LGaugeBench$Step;)I"⟩, 9) := ⟨⟨by decide +kernel, by decide +kernel⟩, List.mem_of_getElem? (i := 22) (by decide +kernel), List.mem_of_getElem? (i := 465) (by decide +kernel), List.mem_of_getElem? (i := 466) (by decide +kernel)⟩
theorem lw_p22 : lw_okq (⟨"GaugeBench$Bench", "workWithRow", "(LGaugeBench$Step;LGaugeBench$Row;)I"⟩, 9) := ⟨⟨by decide +kernel, by decide +kernel⟩, List.mem_of_getElem? (i := 22) (by decide +kernel), List.mem_of_getElem? (i := 476) (by decide +kernel), List.mem_of_getElem? (i := 477) (by decide +kernel)⟩
theorem lw_p23 : lw_okq (⟨"GaugeBench$Bench", "getInto", "(ILGaugeBench$Row;I)I"⟩, 9) := ⟨⟨by decide +kernel, by decide +kernel⟩, List.mem_of_getElem? (i := 22) (by decide +kernel), List.mem_of_getElem? (i := 488) (by decide +kernel), List.mem_of_getElem? (i := 489) (by decide +kernel)⟩
theorem lw_p24 : lw_okq (⟨"GaugeBench$Row", "asHeld", "(D)D"⟩, 4) := ⟨⟨by decide +kernel, by decide +kernel⟩, List.mem_of_getElem? (i := 58) (by decide +kernel), List.mem_of_getElem? (i := 509) (by decide +kernel), List.mem_of_getElem? (i := 510) (by decide +kernel)⟩
theorem lw_p25 : lw_okq (⟨"GaugeBenchModel", "mayStand", "(I)Z"⟩, 40) := ⟨⟨by decide +kernel, by decide +kernel⟩, List.mem_of_getElem? (i := 564) (by decide +kernel), List.mem_of_getElem? (i := 712) (by decide +kernel), List.mem_of_getElem? (i := 713) (by decide +kernel)⟩
theorem lw_p26 : lw_okq (⟨"GaugeBenchModel", "partAt", "(I)I"⟩, 40) := ⟨⟨by decide +kernel, by decide +kernel⟩, List.mem_of_getElem? (i := 564) (by decide +kernel), List.mem_of_getElem? (i := 719) (by decide +kernel), List.mem_of_getElem? (i := 720) (by decide +kernel)⟩
theorem lw_p27 : lw_okq (⟨"GaugeBenchModel", "isPartOpen", "(II)Z"⟩, 40) := ⟨⟨by decide +kernel, by decide +kernel⟩, List.mem_of_getElem? (i := 564) (by decide +kernel), List.mem_of_getElem? (i := 723) (by decide +kernel), List.mem_of_getElem? (i := 724) (by decide +kernel)⟩
theorem lw_p28 : lw_okq (⟨"GaugeBenchModel", "begin", "(II)V"⟩, 40) := ⟨⟨by decide +kernel, by decide +kernel⟩, List.mem_of_getElem? (i := 564) (by decide +kernel), List.mem_of_getElem? (i := 735) (by decide +kernel), List.mem_of_getElem? (i := 736) (by decide +kernel)⟩
theorem lw_p29 : lw_okq (⟨"GaugeBenchModel", "push", "(III)V"⟩, 40) := ⟨⟨by decide +kernel, by decide +kernel⟩, List.mem_of_getElem? (i := 564) (by decide +kernel), List.mem_of_getElem? (i := 739) (by decide +kernel), List.mem_of_getElem? (i := 740) (by decide +kernel)⟩
theorem lw_p30 : lw_okq (⟨"GaugeBenchModel", "go", "()V"⟩, 40) := ⟨⟨by decide +kernel, by decide +kernel⟩, List.mem_of_getElem? (i := 564) (by decide +kernel), List.mem_of_getElem? (i := 744) (by decide +kernel), List.mem_of_getElem? (i := 745) (by decide +kernel)⟩
theorem lw_p31 : lw_okq (⟨"GaugeBenchModel", "over", "()V"⟩, 40) := ⟨⟨by decide +kernel, by decide +kernel⟩, List.mem_of_getElem? (i := 564) (by decide +kernel), List.mem_of_getElem? (i := 748) (by decide +kernel), List.mem_of_getElem? (i := 749) (by decide +kernel)⟩
def lw_privs_2 : List (MethodName × Nat) := [(⟨"GaugeBench$Bench", "useCaught", "(LGaugeBench$Step;LGaugeBench$Fault;)I"⟩, 9), (⟨"GaugeBench$Bench", "work", "(LGaugeBench$Step;)I"⟩, 9), (⟨"GaugeBench$Bench", "doFine", "(LGaugeBench$Step;)I"⟩, 9), (⟨"GaugeBench$Bench", "doRough", "(LGaugeBench$Step;)I"⟩, 9), (⟨"GaugeBench$Bench", "doWhole", "(LGaugeBench$Step;)I"⟩, 9), (⟨"GaugeBench$Bench", "doWide", "(LGaugeBench$Step;)I"⟩, 9), (⟨"GaugeBench$Bench", "workWithRow", "(LGaugeBench$Step;LGaugeBench$Row;)I"⟩, 9), (⟨"GaugeBench$Bench", "getInto", "(ILGaugeBench$Row;I)I"⟩, 9), (⟨"GaugeBench$Row", "asHeld", "(D)D"⟩, 4), (⟨"GaugeBenchModel", "mayStand", "(I)Z"⟩, 40), (⟨"GaugeBenchModel", "partAt", "(I)I"⟩, 40), (⟨"GaugeBenchModel", "isPartOpen", "(II)Z"⟩, 40), (⟨"GaugeBenchModel", "begin", "(II)V"⟩, 40), (⟨"GaugeBenchModel", "push", "(III)V"⟩, 40), (⟨"GaugeBenchModel", "go", "()V"⟩, 40), (⟨"GaugeBenchModel", "over", "()V"⟩, 40)]
theorem lw_r2 : ∀ q ∈ lw_privs_2, lw_okq q := List.forall_mem_cons.mpr ⟨lw_p16, List.forall_mem_cons.mpr ⟨lw_p17, List.forall_mem_cons.mpr ⟨lw_p18, List.forall_mem_cons.mpr ⟨lw_p19, List.forall_mem_cons.mpr ⟨lw_p20, List.forall_mem_cons.mpr ⟨lw_p21, List.forall_mem_cons.mpr ⟨lw_p22, List.forall_mem_cons.mpr ⟨lw_p23, List.forall_mem_cons.mpr ⟨lw_p24, List.forall_mem_cons.mpr ⟨lw_p25, List.forall_mem_cons.mpr ⟨lw_p26, List.forall_mem_cons.mpr ⟨lw_p27, List.forall_mem_cons.mpr ⟨lw_p28, List.forall_mem_cons.mpr ⟨lw_p29, List.forall_mem_cons.mpr ⟨lw_p30, List.forall_mem_cons.mpr ⟨lw_p31, fun _ h => absurd h List.not_mem_nil⟩⟩⟩⟩⟩⟩⟩⟩⟩⟩⟩⟩⟩⟩⟩⟩
theorem lw_p32 : lw_okq (⟨"GaugeBenchModel", "endPart", "()V"⟩, 40) := ⟨⟨by decide +kernel, by decide +kernel⟩, List.mem_of_getElem? (i := 564) (by decide +kernel), List.mem_of_getElem? (i := 752) (by decide +kernel), List.mem_of_getElem? (i := 753) (by decide +kernel)⟩
theorem lw_p33 : lw_okq (⟨"GaugeBenchModel", "round", "()V"⟩, 40) := ⟨⟨by decide +kernel, by decide +kernel⟩, List.mem_of_getElem? (i := 564) (by decide +kernel), List.mem_of_getElem? (i := 756) (by decide +kernel), List.mem_of_getElem? (i := 757) (by decide +kernel)⟩
theorem lw_p34 : lw_okq (⟨"GaugeBenchModel", "isCounted", "()Z"⟩, 40) := ⟨⟨by decide +kernel, by decide +kernel⟩, List.mem_of_getElem? (i := 564) (by decide +kernel), List.mem_of_getElem? (i := 760) (by decide +kernel), List.mem_of_getElem? (i := 761) (by decide +kernel)⟩
theorem lw_p35 : lw_okq (⟨"GaugeBenchModel", "fail", "(I)V"⟩, 40) := ⟨⟨by decide +kernel, by decide +kernel⟩, List.mem_of_getElem? (i := 564) (by decide +kernel), List.mem_of_getElem? (i := 764) (by decide +kernel), List.mem_of_getElem? (i := 765) (by decide +kernel)⟩
theorem lw_p36 : lw_okq (⟨"GaugeBenchModel", "throwNew", "(IIII)V"⟩, 40) := ⟨⟨by decide +kernel, by decide +kernel⟩, List.mem_of_getElem? (i := 564) (by decide +kernel), List.mem_of_getElem? (i := 768) (by decide +kernel), List.mem_of_getElem? (i := 769) (by decide +kernel)⟩
theorem lw_p37 : lw_okq (⟨"GaugeBenchModel", "lastPart", "()V"⟩, 40) := ⟨⟨by decide +kernel, by decide +kernel⟩, List.mem_of_getElem? (i := 564) (by decide +kernel), List.mem_of_getElem? (i := 772) (by decide +kernel), List.mem_of_getElem? (i := 773) (by decide +kernel)⟩
theorem lw_p38 : lw_okq (⟨"GaugeBenchModel", "order", "(I)V"⟩, 40) := ⟨⟨by decide +kernel, by decide +kernel⟩, List.mem_of_getElem? (i := 564) (by decide +kernel), List.mem_of_getElem? (i := 776) (by decide +kernel), List.mem_of_getElem? (i := 777) (by decide +kernel)⟩
theorem lw_p39 : lw_okq (⟨"GaugeBenchModel", "isSo", "(I)Z"⟩, 40) := ⟨⟨by decide +kernel, by decide +kernel⟩, List.mem_of_getElem? (i := 564) (by decide +kernel), List.mem_of_getElem? (i := 780) (by decide +kernel), List.mem_of_getElem? (i := 781) (by decide +kernel)⟩
theorem lw_p40 : lw_okq (⟨"GaugeBenchModel", "caught", "()I"⟩, 40) := ⟨⟨by decide +kernel, by decide +kernel⟩, List.mem_of_getElem? (i := 564) (by decide +kernel), List.mem_of_getElem? (i := 784) (by decide +kernel), List.mem_of_getElem? (i := 785) (by decide +kernel)⟩
theorem lw_p41 : lw_okq (⟨"GaugeBenchModel", "wrap", "(I)V"⟩, 40) := ⟨⟨by decide +kernel, by decide +kernel⟩, List.mem_of_getElem? (i := 564) (by decide +kernel), List.mem_of_getElem? (i := 788) (by decide +kernel), List.mem_of_getElem? (i := 789) (by decide +kernel)⟩
theorem lw_p42 : lw_okq (⟨"GaugeBenchModel", "tell", "()V"⟩, 40) := ⟨⟨by decide +kernel, by decide +kernel⟩, List.mem_of_getElem? (i := 564) (by decide +kernel), List.mem_of_getElem? (i := 792) (by decide +kernel), List.mem_of_getElem? (i := 793) (by decide +kernel)⟩
theorem lw_p43 : lw_okq (⟨"GaugeBenchModel", "note", "(D)V"⟩, 40) := ⟨⟨by decide +kernel, by decide +kernel⟩, List.mem_of_getElem? (i := 564) (by decide +kernel), List.mem_of_getElem? (i := 796) (by decide +kernel), List.mem_of_getElem? (i := 797) (by decide +kernel)⟩
theorem lw_p44 : lw_okq (⟨"GaugeBenchModel", "weight", "(I)I"⟩, 40) := ⟨⟨by decide +kernel, by decide +kernel⟩, List.mem_of_getElem? (i := 564) (by decide +kernel), List.mem_of_getElem? (i := 800) (by decide +kernel), List.mem_of_getElem? (i := 801) (by decide +kernel)⟩
theorem lw_p45 : lw_okq (⟨"GaugeBenchModel", "below", "(II)I"⟩, 40) := ⟨⟨by decide +kernel, by decide +kernel⟩, List.mem_of_getElem? (i := 564) (by decide +kernel), List.mem_of_getElem? (i := 804) (by decide +kernel), List.mem_of_getElem? (i := 805) (by decide +kernel)⟩
theorem lw_p46 : lw_okq (⟨"GaugeBenchModel", "call", "(I)V"⟩, 40) := ⟨⟨by decide +kernel, by decide +kernel⟩, List.mem_of_getElem? (i := 564) (by decide +kernel), List.mem_of_getElem? (i := 811) (by decide +kernel), List.mem_of_getElem? (i := 812) (by decide +kernel)⟩
theorem lw_p47 : lw_okq (⟨"GaugeBenchModel", "work", "(I)V"⟩, 40) := ⟨⟨by decide +kernel, by decide +kernel⟩, List.mem_of_getElem? (i := 564) (by decide +kernel), List.mem_of_getElem? (i := 815) (by decide +kernel), List.mem_of_getElem? (i := 816) (by decide +kernel)⟩
def lw_privs_3 : List (MethodName × Nat) := [(⟨"GaugeBenchModel", "endPart", "()V"⟩, 40), (⟨"GaugeBenchModel", "round", "()V"⟩, 40), (⟨"GaugeBenchModel", "isCounted", "()Z"⟩, 40), (⟨"GaugeBenchModel", "fail", "(I)V"⟩, 40), (⟨"GaugeBenchModel", "throwNew", "(IIII)V"⟩, 40), (⟨"GaugeBenchModel", "lastPart", "()V"⟩, 40), (⟨"GaugeBenchModel", "order", "(I)V"⟩, 40), (⟨"GaugeBenchModel", "isSo", "(I)Z"⟩, 40), (⟨"GaugeBenchModel", "caught", "()I"⟩, 40), (⟨"GaugeBenchModel", "wrap", "(I)V"⟩, 40), (⟨"GaugeBenchModel", "tell", "()V"⟩, 40), (⟨"GaugeBenchModel", "note", "(D)V"⟩, 40), (⟨"GaugeBenchModel", "weight", "(I)I"⟩, 40), (⟨"GaugeBenchModel", "below", "(II)I"⟩, 40), (⟨"GaugeBenchModel", "call", "(I)V"⟩, 40), (⟨"GaugeBenchModel", "work", "(I)V"⟩, 40)]
theorem lw_r3 : ∀ q ∈ lw_privs_3, lw_okq q := List.forall_mem_cons.mpr ⟨lw_p32, List.forall_mem_cons.mpr ⟨lw_p33, List.forall_mem_cons.mpr ⟨lw_p34, List.forall_mem_cons.mpr ⟨lw_p35, List.forall_mem_cons.mpr ⟨lw_p36, List.forall_mem_cons.mpr ⟨lw_p37, List.forall_mem_cons.mpr ⟨lw_p38, List.forall_mem_cons.mpr ⟨lw_p39, List.forall_mem_cons.mpr ⟨lw_p40, List.forall_mem_cons.mpr ⟨lw_p41, List.forall_mem_cons.mpr ⟨lw_p42, List.forall_mem_cons.mpr ⟨lw_p43, List.forall_mem_cons.mpr ⟨lw_p44, List.forall_mem_cons.mpr ⟨lw_p45, List.forall_mem_cons.mpr ⟨lw_p46, List.forall_mem_cons.mpr ⟨lw_p47, fun _ h => absurd h List.not_mem_nil⟩⟩⟩⟩⟩⟩⟩⟩⟩⟩⟩⟩⟩⟩⟩⟩
theorem lw_p48 : lw_okq (⟨"GaugeBenchModel", "make", "(II)V"⟩, 40) := ⟨⟨by decide +kernel, by decide +kernel⟩, List.mem_of_getElem? (i := 564) (by decide +kernel), List.mem_of_getElem? (i := 819) (by decide +kernel), List.mem_of_getElem? (i := 820) (by decide +kernel)⟩
theorem lw_p49 : lw_okq (⟨"GaugeBenchModel", "fine", "(I)V"⟩, 40) := ⟨⟨by decide +kernel, by decide +kernel⟩, List.mem_of_getElem? (i := 564) (by decide +kernel), List.mem_of_getElem? (i := 824) (by decide +kernel), List.mem_of_getElem? (i := 825) (by decide +kernel)⟩
theorem lw_p50 : lw_okq (⟨"GaugeBenchModel", "turn", "(ID)V"⟩, 40) := ⟨⟨by decide +kernel, by decide +kernel⟩, List.mem_of_getElem? (i := 564) (by decide +kernel), List.mem_of_getElem? (i := 852) (by decide +kernel), List.mem_of_getElem? (i := 853) (by decide +kernel)⟩
theorem lw_p51 : lw_okq (⟨"GaugeBenchModel", "rough", "(I)V"⟩, 40) := ⟨⟨by decide +kernel, by decide +kernel⟩, List.mem_of_getElem? (i := 564) (by decide +kernel), List.mem_of_getElem? (i := 858) (by decide +kernel), List.mem_of_getElem? (i := 859) (by decide +kernel)⟩
theorem lw_p52 : lw_okq (⟨"GaugeBenchModel", "whole", "(I)V"⟩, 40) := ⟨⟨by decide +kernel, by decide +kernel⟩, List.mem_of_getElem? (i := 564) (by decide +kernel), List.mem_of_getElem? (i := 862) (by decide +kernel), List.mem_of_getElem? (i := 863) (by decide +kernel)⟩
theorem lw_p53 : lw_okq (⟨"GaugeBenchModel", "wide", "(I)V"⟩, 40) := ⟨⟨by decide +kernel, by decide +kernel⟩, List.mem_of_getElem? (i := 564) (by decide +kernel), List.mem_of_getElem? (i := 866) (by decide +kernel), List.mem_of_getElem? (i := 867) (by decide +kernel)⟩
theorem lw_p54 : lw_okq (⟨"GaugeBenchModel", "onRow", "(I)V"⟩, 40) := ⟨⟨by decide +kernel, by decide +kernel⟩, List.mem_of_getElem? (i := 564) (by decide +kernel), List.mem_of_getElem? (i := 870) (by decide +kernel), List.mem_of_getElem? (i := 871) (by decide +kernel)⟩
theorem lw_p55 : lw_okq (⟨"GaugeBenchModel", "faultOf", "(IIZ)I"⟩, 40) := ⟨⟨by decide +kernel, by decide +kernel⟩, List.mem_of_getElem? (i := 564) (by decide +kernel), List.mem_of_getElem? (i := 874) (by decide +kernel), List.mem_of_getElem? (i := 875) (by decide +kernel)⟩
theorem lw_p56 : lw_okq (⟨"GaugeBenchModel", "leave", "()V"⟩, 40) := ⟨⟨by decide +kernel, by decide +kernel⟩, List.mem_of_getElem? (i := 564) (by decide +kernel), List.mem_of_getElem? (i := 881) (by decide +kernel), List.mem_of_getElem? (i := 882) (by decide +kernel)⟩
theorem lw_p57 : lw_okq (⟨"GaugeBenchModel", "seekCatch", "()V"⟩, 40) := ⟨⟨by decide +kernel, by decide +kernel⟩, List.mem_of_getElem? (i := 564) (by decide +kernel), List.mem_of_getElem? (i := 885) (by decide +kernel), List.mem_of_getElem? (i := 886) (by decide +kernel)⟩
theorem lw_p58 : lw_okq (⟨"GaugeBenchModel", "isUnder", "(II)Z"⟩, 40) := ⟨⟨by decide +kernel, by decide +kernel⟩, List.mem_of_getElem? (i := 564) (by decide +kernel), List.mem_of_getElem? (i := 889) (by decide +kernel), List.mem_of_getElem? (i := 890) (by decide +kernel)⟩
def lw_privs_4 : List (MethodName × Nat) := [(⟨"GaugeBenchModel", "make", "(II)V"⟩, 40), (⟨"GaugeBenchModel", "fine", "(I)V"⟩, 40), (⟨"GaugeBenchModel", "turn", "(ID)V"⟩, 40), (⟨"GaugeBenchModel", "rough", "(I)V"⟩, 40), (⟨"GaugeBenchModel", "whole", "(I)V"⟩, 40), (⟨"GaugeBenchModel", "wide", "(I)V"⟩, 40), (⟨"GaugeBenchModel", "onRow", "(I)V"⟩, 40), (⟨"GaugeBenchModel", "faultOf", "(IIZ)I"⟩, 40), (⟨"GaugeBenchModel", "leave", "()V"⟩, 40), (⟨"GaugeBenchModel", "seekCatch", "()V"⟩, 40), (⟨"GaugeBenchModel", "isUnder", "(II)Z"⟩, 40)]
theorem lw_r4 : ∀ q ∈ lw_privs_4, lw_okq q := List.forall_mem_cons.mpr ⟨lw_p48, List.forall_mem_cons.mpr ⟨lw_p49, List.forall_mem_cons.mpr ⟨lw_p50, List.forall_mem_cons.mpr ⟨lw_p51, List.forall_mem_cons.mpr ⟨lw_p52, List.forall_mem_cons.mpr ⟨lw_p53, List.forall_mem_cons.mpr ⟨lw_p54, List.forall_mem_cons.mpr ⟨lw_p55, List.forall_mem_cons.mpr ⟨lw_p56, List.forall_mem_cons.mpr ⟨lw_p57, List.forall_mem_cons.mpr ⟨lw_p58, fun _ h => absurd h List.not_mem_nil⟩⟩⟩⟩⟩⟩⟩⟩⟩⟩⟩
def lw_privs : List (MethodName × Nat) := lw_privs_1 ++ (lw_privs_2 ++ (lw_privs_3 ++ (lw_privs_4)))
def lw_tbl : List Cond := k2_sels lw_privs ++ tables_1
theorem lw_privs_ok : ∀ q ∈ lw_privs, lw_okq q := by
  show ∀ q ∈ lw_privs_1 ++ (lw_privs_2 ++ (lw_privs_3 ++ (lw_privs_4))), lw_okq q
  exact List.forall_mem_append.mpr ⟨lw_r1, List.forall_mem_append.mpr ⟨lw_r2, List.forall_mem_append.mpr ⟨lw_r3, lw_r4⟩⟩⟩
/-- the streams that the claim lets the run draw from -/
abbrev lw_cs : List Choice := [Jvm.Choice.named "NaN.bits"]
theorem lw_bits : nanBits ∈ lw_cs := by first | decide | exact List.mem_cons_self | simp [lw_cs, nanBits]
-- ===== end of PART A; then your names; then what follows =====
def RX0 : String := "GaugeBench$Bench"
def TX0 : u_T := fun k => match k with
  | 0 => ("GaugeBench$Bench", "routines", "[LGaugeBench$Routine;", true)
  | 1 => ("GaugeBench$Bench", "rows", "[LGaugeBench$Row;", true)
  | 2 => ("GaugeBench$Bench", "dials", "LGaugeBench$Dials;", true)
  | 3 => ("GaugeBench$Bench", "numbers", "LGaugeBench$NumberLog;", true)
  | 4 => ("GaugeBench$Bench", "atHand", "LGaugeBench$Routine;", false)
  | 5 => ("GaugeBench$Bench", "counted", "I", false)
  | 6 => ("GaugeBench$Bench", "caughtFaults", "I", false)
  | 7 => ("GaugeBench$Bench", "finallyParts", "I", false)
  | _ => ("GaugeBench$Bench", "thrown", "LGaugeBench$Fault;", false)
def tyX0 : Nat → FieldType := fun k => match k with
  | 0 => .array (.object "GaugeBench$Routine")
  | 1 => .array (.object "GaugeBench$Row")
  | 2 => .object "GaugeBench$Dials"
  | 3 => .object "GaugeBench$NumberLog"
  | 4 => .object "GaugeBench$Routine"
  | 5 => .int
  | 6 => .int
  | 7 => .int
  | _ => .object "GaugeBench$Fault"
theorem nmX0 : ∀ a, a < 9 → ∀ b, b < 9 → a ≠ b → (TX0 a).2.1 ≠ (TX0 b).2.1 := by decide +kernel
theorem tyX0_ok : ∀ k, k < 9 → parseFieldDescriptor (TX0 k).2.2.1 = some (tyX0 k) := by decide +kernel
abbrev cX0_init : ByteArray := prog_2_method_1_code
def yX0_init : MethodName := ⟨RX0, "<init>", "()V"⟩
abbrev cX0_routineAt : ByteArray := prog_2_method_2_code
def yX0_routineAt : MethodName := ⟨RX0, "routineAt", "(I)LGaugeBench$Routine;"⟩
abbrev cX0_rowAt : ByteArray := prog_2_method_3_code
def yX0_rowAt : MethodName := ⟨RX0, "rowAt", "(I)LGaugeBench$Row;"⟩
abbrev cX0_begin : ByteArray := prog_2_method_4_code
def yX0_begin : MethodName := ⟨RX0, "begin", "(LGaugeBench$Routine;)I"⟩
abbrev cX0_doSteps : ByteArray := prog_2_method_5_code
def yX0_doSteps : MethodName := ⟨RX0, "doSteps", "(LGaugeBench$Routine;IILGaugeBench$Fault;I)I"⟩
abbrev cX0_doStep : ByteArray := prog_2_method_6_code
def yX0_doStep : MethodName := ⟨RX0, "doStep", "(LGaugeBench$Routine;LGaugeBench$Step;LGaugeBench$Fault;I)I"⟩
abbrev cX0_isCounted : ByteArray := prog_2_method_7_code
def yX0_isCounted : MethodName := ⟨RX0, "isCounted", "()Z"⟩
abbrev cX0_throwNew : ByteArray := prog_2_method_8_code
def yX0_throwNew : MethodName := ⟨RX0, "throwNew", "(ILGaugeBench$Step;)I"⟩
abbrev cX0_leaveBy : ByteArray := prog_2_method_9_code
def yX0_leaveBy : MethodName := ⟨RX0, "leaveBy", "(LGaugeBench$Fault;)I"⟩
abbrev cX0_doPart : ByteArray := prog_2_method_10_code
def yX0_doPart : MethodName := ⟨RX0, "doPart", "(LGaugeBench$Routine;LGaugeBench$Step;LGaugeBench$Fault;I)I"⟩
abbrev cX0_doTry : ByteArray := prog_2_method_11_code
def yX0_doTry : MethodName := ⟨RX0, "doTry", "(LGaugeBench$Routine;LGaugeBench$Step;LGaugeBench$Fault;I)I"⟩
abbrev cX0_doFinally : ByteArray := prog_2_method_12_code
def yX0_doFinally : MethodName := ⟨RX0, "doFinally", "(LGaugeBench$Routine;LGaugeBench$Step;ILGaugeBench$Fault;I)I"⟩
abbrev cX0_doLoop : ByteArray := prog_2_method_13_code
def yX0_doLoop : MethodName := ⟨RX0, "doLoop", "(LGaugeBench$Routine;LGaugeBench$Step;LGaugeBench$Fault;I)I"⟩
abbrev cX0_doCall : ByteArray := prog_2_method_14_code
def yX0_doCall : MethodName := ⟨RX0, "doCall", "(LGaugeBench$Step;I)I"⟩
abbrev cX0_isSo : ByteArray := prog_2_method_15_code
def yX0_isSo : MethodName := ⟨RX0, "isSo", "(LGaugeBench$Step;)Z"⟩
abbrev cX0_useCaught : ByteArray := prog_2_method_16_code
def yX0_useCaught : MethodName := ⟨RX0, "useCaught", "(LGaugeBench$Step;LGaugeBench$Fault;)I"⟩
abbrev cX0_work : ByteArray := prog_2_method_17_code
def yX0_work : MethodName := ⟨RX0, "work", "(LGaugeBench$Step;)I"⟩
abbrev cX0_workWithRow : ByteArray := prog_2_method_18_code
def yX0_workWithRow : MethodName := ⟨RX0, "workWithRow", "(LGaugeBench$Step;LGaugeBench$Row;)I"⟩
abbrev cX0_getInto : ByteArray := prog_2_method_19_code
def yX0_getInto : MethodName := ⟨RX0, "getInto", "(ILGaugeBench$Row;I)I"⟩
abbrev cX0_doFine : ByteArray := prog_2_method_20_code
def yX0_doFine : MethodName := ⟨RX0, "doFine", "(LGaugeBench$Step;)I"⟩
abbrev cX0_doRough : ByteArray := prog_2_method_21_code
def yX0_doRough : MethodName := ⟨RX0, "doRough", "(LGaugeBench$Step;)I"⟩
abbrev cX0_doWhole : ByteArray := prog_2_method_22_code
def yX0_doWhole : MethodName := ⟨RX0, "doWhole", "(LGaugeBench$Step;)I"⟩
abbrev cX0_doWide : ByteArray := prog_2_method_23_code
def yX0_doWide : MethodName := ⟨RX0, "doWide", "(LGaugeBench$Step;)I"⟩
def RX1 : String := "GaugeBench$Block"
def TX1 : u_T := fun k => match k with
  | 0 => ("GaugeBench$Block", "opener", "LGaugeBench$Step;", true)
  | 1 => ("GaugeBench$Block", "outer", "LGaugeBench$Block;", true)
  | 2 => ("GaugeBench$Block", "part", "LGaugeBench$Step;", false)
  | _ => ("GaugeBench$Block", "catches", "I", false)
def tyX1 : Nat → FieldType := fun k => match k with
  | 0 => .object "GaugeBench$Step"
  | 1 => .object "GaugeBench$Block"
  | 2 => .object "GaugeBench$Step"
  | _ => .int
theorem nmX1 : ∀ a, a < 4 → ∀ b, b < 4 → a ≠ b → (TX1 a).2.1 ≠ (TX1 b).2.1 := by decide +kernel
theorem tyX1_ok : ∀ k, k < 4 → parseFieldDescriptor (TX1 k).2.2.1 = some (tyX1 k) := by decide +kernel
abbrev cX1_init : ByteArray := prog_3_method_1_code
def yX1_init : MethodName := ⟨RX1, "<init>", "(LGaugeBench$Step;LGaugeBench$Block;)V"⟩
abbrev cX1_beginPart : ByteArray := prog_3_method_2_code
def yX1_beginPart : MethodName := ⟨RX1, "beginPart", "(LGaugeBench$Step;)V"⟩
abbrev cX1_takesPart : ByteArray := prog_3_method_3_code
def yX1_takesPart : MethodName := ⟨RX1, "takesPart", "(I)Z"⟩
def RX2 : String := "GaugeBench$Dials"
def TX2 : u_T := fun k => match k with
  | _ => ("GaugeBench$Dials", "doubles", "[D", true)
def tyX2 : Nat → FieldType := fun k => match k with
  | _ => .array .double
theorem nmX2 : ∀ a, a < 1 → ∀ b, b < 1 → a ≠ b → (TX2 a).2.1 ≠ (TX2 b).2.1 := by decide +kernel
theorem tyX2_ok : ∀ k, k < 1 → parseFieldDescriptor (TX2 k).2.2.1 = some (tyX2 k) := by decide +kernel
abbrev cX2_init : ByteArray := prog_4_method_1_code
def yX2_init : MethodName := ⟨RX2, "<init>", "()V"⟩
abbrev cX2_at : ByteArray := prog_4_method_2_code
def yX2_at : MethodName := ⟨RX2, "at", "(I)D"⟩
abbrev cX2_wholeAt : ByteArray := prog_4_method_3_code
def yX2_wholeAt : MethodName := ⟨RX2, "wholeAt", "(I)I"⟩
abbrev cX2_turn : ByteArray := prog_4_method_4_code
def yX2_turn : MethodName := ⟨RX2, "turn", "(ID)I"⟩
def RX3 : String := "GaugeBench$Fault"
def TX3 : u_T := fun k => match k with
  | 0 => ("GaugeBench$Fault", "kind", "I", true)
  | 1 => ("GaugeBench$Fault", "place", "I", true)
  | 2 => ("GaugeBench$Fault", "number", "I", true)
  | 3 => ("GaugeBench$Fault", "earlierOnes", "I", true)
  | 4 => ("GaugeBench$Fault", "firstPlace", "I", true)
  | _ => ("GaugeBench$Fault", "weight", "I", true)
def tyX3 : Nat → FieldType := fun k => match k with
  | 0 => .int
  | 1 => .int
  | 2 => .int
  | 3 => .int
  | 4 => .int
  | _ => .int
theorem nmX3 : ∀ a, a < 6 → ∀ b, b < 6 → a ≠ b → (TX3 a).2.1 ≠ (TX3 b).2.1 := by decide +kernel
theorem tyX3_ok : ∀ k, k < 6 → parseFieldDescriptor (TX3 k).2.2.1 = some (tyX3 k) := by decide +kernel
abbrev cX3_init : ByteArray := prog_5_method_1_code
def yX3_init : MethodName := ⟨RX3, "<init>", "(IIILGaugeBench$Fault;)V"⟩
abbrev cX3_weightOf : ByteArray := prog_5_method_2_code
def yX3_weightOf : MethodName := ⟨RX3, "weightOf", "(III)I"⟩
abbrev cX3_isUnder : ByteArray := prog_5_method_3_code
def yX3_isUnder : MethodName := ⟨RX3, "isUnder", "(II)Z"⟩
def RX4 : String := "GaugeBench$NumberLog"
def TX4 : u_T := fun k => match k with
  | 0 => ("GaugeBench$NumberLog", "doubles", "[D", true)
  | _ => ("GaugeBench$NumberLog", "used", "I", false)
def tyX4 : Nat → FieldType := fun k => match k with
  | 0 => .array .double
  | _ => .int
theorem nmX4 : ∀ a, a < 2 → ∀ b, b < 2 → a ≠ b → (TX4 a).2.1 ≠ (TX4 b).2.1 := by decide +kernel
theorem tyX4_ok : ∀ k, k < 2 → parseFieldDescriptor (TX4 k).2.2.1 = some (tyX4 k) := by decide +kernel
abbrev cX4_init : ByteArray := prog_6_method_1_code
def yX4_init : MethodName := ⟨RX4, "<init>", "()V"⟩
abbrev cX4_empty : ByteArray := prog_6_method_2_code
def yX4_empty : MethodName := ⟨RX4, "empty", "()V"⟩
abbrev cX4_append : ByteArray := prog_6_method_3_code
def yX4_append : MethodName := ⟨RX4, "append", "(D)V"⟩
abbrev cX4_at : ByteArray := prog_6_method_4_code
def yX4_at : MethodName := ⟨RX4, "at", "(I)D"⟩
def RX5 : String := "GaugeBench$Routine"
def TX5 : u_T := fun k => match k with
  | 0 => ("GaugeBench$Routine", "number", "I", true)
  | 1 => ("GaugeBench$Routine", "steps", "[LGaugeBench$Step;", true)
  | 2 => ("GaugeBench$Routine", "innermost", "LGaugeBench$Block;", false)
  | 3 => ("GaugeBench$Routine", "used", "I", false)
  | _ => ("GaugeBench$Routine", "open", "I", false)
def tyX5 : Nat → FieldType := fun k => match k with
  | 0 => .int
  | 1 => .array (.object "GaugeBench$Step")
  | 2 => .object "GaugeBench$Block"
  | 3 => .int
  | _ => .int
theorem nmX5 : ∀ a, a < 5 → ∀ b, b < 5 → a ≠ b → (TX5 a).2.1 ≠ (TX5 b).2.1 := by decide +kernel
theorem tyX5_ok : ∀ k, k < 5 → parseFieldDescriptor (TX5 k).2.2.1 = some (tyX5 k) := by decide +kernel
abbrev cX5_init : ByteArray := prog_7_method_1_code
def yX5_init : MethodName := ⟨RX5, "<init>", "(I)V"⟩
abbrev cX5_stepAt : ByteArray := prog_7_method_2_code
def yX5_stepAt : MethodName := ⟨RX5, "stepAt", "(I)LGaugeBench$Step;"⟩
abbrev cX5_forget : ByteArray := prog_7_method_3_code
def yX5_forget : MethodName := ⟨RX5, "forget", "()I"⟩
abbrev cX5_append : ByteArray := prog_7_method_4_code
def yX5_append : MethodName := ⟨RX5, "append", "(IIII)I"⟩
abbrev cX5_mayStandHere : ByteArray := prog_7_method_5_code
def yX5_mayStandHere : MethodName := ⟨RX5, "mayStandHere", "(I)Z"⟩
abbrev cX5_mayLeave : ByteArray := prog_7_method_6_code
def yX5_mayLeave : MethodName := ⟨RX5, "mayLeave", "()Z"⟩
abbrev cX5_isPartOpen : ByteArray := prog_7_method_7_code
def yX5_isPartOpen : MethodName := ⟨RX5, "isPartOpen", "(I)Z"⟩
abbrev cX5_tieToBlocks : ByteArray := prog_7_method_8_code
def yX5_tieToBlocks : MethodName := ⟨RX5, "tieToBlocks", "(LGaugeBench$Step;)V"⟩
abbrev cX5_closeInnermost : ByteArray := prog_7_method_9_code
def yX5_closeInnermost : MethodName := ⟨RX5, "closeInnermost", "(LGaugeBench$Step;)V"⟩
def RX6 : String := "GaugeBench$Row"
def TX6 : u_T := fun k => match k with
  | 0 => ("GaugeBench$Row", "kind", "I", true)
  | 1 => ("GaugeBench$Row", "doubles", "[D", true)
  | 2 => ("GaugeBench$Row", "ready", "[Z", true)
  | _ => ("GaugeBench$Row", "places", "I", false)
def tyX6 : Nat → FieldType := fun k => match k with
  | 0 => .int
  | 1 => .array .double
  | 2 => .array .boolean
  | _ => .int
theorem nmX6 : ∀ a, a < 4 → ∀ b, b < 4 → a ≠ b → (TX6 a).2.1 ≠ (TX6 b).2.1 := by decide +kernel
theorem tyX6_ok : ∀ k, k < 4 → parseFieldDescriptor (TX6 k).2.2.1 = some (tyX6 k) := by decide +kernel
abbrev cX6_init : ByteArray := prog_8_method_1_code
def yX6_init : MethodName := ⟨RX6, "<init>", "(I)V"⟩
abbrev cX6_make : ByteArray := prog_8_method_2_code
def yX6_make : MethodName := ⟨RX6, "make", "(I)I"⟩
abbrev cX6_drop : ByteArray := prog_8_method_3_code
def yX6_drop : MethodName := ⟨RX6, "drop", "()V"⟩
abbrev cX6_faultAt : ByteArray := prog_8_method_4_code
def yX6_faultAt : MethodName := ⟨RX6, "faultAt", "(I)I"⟩
abbrev cX6_faultOfUse : ByteArray := prog_8_method_5_code
def yX6_faultOfUse : MethodName := ⟨RX6, "faultOfUse", "(I)I"⟩
abbrev cX6_got : ByteArray := prog_8_method_6_code
def yX6_got : MethodName := ⟨RX6, "got", "(I)D"⟩
abbrev cX6_put : ByteArray := prog_8_method_7_code
def yX6_put : MethodName := ⟨RX6, "put", "(ID)I"⟩
abbrev cX6_fit : ByteArray := prog_8_method_8_code
def yX6_fit : MethodName := ⟨RX6, "fit", "(I)I"⟩
abbrev cX6_holdsProbe : ByteArray := prog_8_method_9_code
def yX6_holdsProbe : MethodName := ⟨RX6, "holdsProbe", "(I)Z"⟩
abbrev cX6_asHeld : ByteArray := prog_8_method_10_code
def yX6_asHeld : MethodName := ⟨RX6, "asHeld", "(D)D"⟩
def RX7 : String := "GaugeBench$Step"
def TX7 : u_T := fun k => match k with
  | 0 => ("GaugeBench$Step", "what", "I", true)
  | 1 => ("GaugeBench$Step", "a", "I", true)
  | 2 => ("GaugeBench$Step", "b", "I", true)
  | 3 => ("GaugeBench$Step", "c", "I", true)
  | 4 => ("GaugeBench$Step", "number", "I", true)
  | 5 => ("GaugeBench$Step", "place", "I", true)
  | 6 => ("GaugeBench$Step", "last", "I", false)
  | _ => ("GaugeBench$Step", "nextPart", "LGaugeBench$Step;", false)
def tyX7 : Nat → FieldType := fun k => match k with
  | 0 => .int
  | 1 => .int
  | 2 => .int
  | 3 => .int
  | 4 => .int
  | 5 => .int
  | 6 => .int
  | _ => .object "GaugeBench$Step"
theorem nmX7 : ∀ a, a < 8 → ∀ b, b < 8 → a ≠ b → (TX7 a).2.1 ≠ (TX7 b).2.1 := by decide +kernel
theorem tyX7_ok : ∀ k, k < 8 → parseFieldDescriptor (TX7 k).2.2.1 = some (tyX7 k) := by decide +kernel
abbrev cX7_init : ByteArray := prog_9_method_1_code
def yX7_init : MethodName := ⟨RX7, "<init>", "(IIIIII)V"⟩
abbrev cX7_isTold : ByteArray := prog_9_method_2_code
def yX7_isTold : MethodName := ⟨RX7, "isTold", "(IIII)Z"⟩
abbrev cX7_isWithin : ByteArray := prog_9_method_3_code
def yX7_isWithin : MethodName := ⟨RX7, "isWithin", "(III)Z"⟩
abbrev cX7_partEnd : ByteArray := prog_9_method_4_code
def yX7_partEnd : MethodName := ⟨RX7, "partEnd", "()I"⟩
abbrev cX7_catchPartFor : ByteArray := prog_9_method_5_code
def yX7_catchPartFor : MethodName := ⟨RX7, "catchPartFor", "(I)LGaugeBench$Step;"⟩
abbrev cX7_finallyPart : ByteArray := prog_9_method_6_code
def yX7_finallyPart : MethodName := ⟨RX7, "finallyPart", "()LGaugeBench$Step;"⟩
def RX8 : String := "GaugeBench$Sums"
def TX8 : u_T := fun k => match k with
  | _ => ("", "", "", false)
def tyX8 : Nat → FieldType := fun k => match k with
  | _ => .int
theorem nmX8 : ∀ a, a < 0 → ∀ b, b < 0 → a ≠ b → (TX8 a).2.1 ≠ (TX8 b).2.1 := by decide +kernel
theorem tyX8_ok : ∀ k, k < 0 → parseFieldDescriptor (TX8 k).2.2.1 = some (tyX8 k) := by decide +kernel
abbrev cX8_divides : ByteArray := prog_10_method_2_code
def yX8_divides : MethodName := ⟨RX8, "divides", "(I)Z"⟩
abbrev cX8_fine : ByteArray := prog_10_method_3_code
def yX8_fine : MethodName := ⟨RX8, "fine", "(IDD)D"⟩
abbrev cX8_rough : ByteArray := prog_10_method_4_code
def yX8_rough : MethodName := ⟨RX8, "rough", "(IFF)D"⟩
abbrev cX8_whole : ByteArray := prog_10_method_5_code
def yX8_whole : MethodName := ⟨RX8, "whole", "(III)I"⟩
abbrev cX8_wide : ByteArray := prog_10_method_6_code
def yX8_wide : MethodName := ⟨RX8, "wide", "(IJJ)J"⟩
abbrev cX8_hasMinus : ByteArray := prog_10_method_7_code
def yX8_hasMinus : MethodName := ⟨RX8, "hasMinus", "(D)Z"⟩
abbrev cX8_isLess : ByteArray := prog_10_method_8_code
def yX8_isLess : MethodName := ⟨RX8, "isLess", "(DD)Z"⟩
abbrev cX8_withSign : ByteArray := prog_10_method_9_code
def yX8_withSign : MethodName := ⟨RX8, "withSign", "(DD)D"⟩
abbrev cX8_wholeBelow : ByteArray := prog_10_method_10_code
def yX8_wholeBelow : MethodName := ⟨RX8, "wholeBelow", "(D)D"⟩
abbrev cX8_nearestWhole : ByteArray := prog_10_method_11_code
def yX8_nearestWhole : MethodName := ⟨RX8, "nearestWhole", "(D)D"⟩
abbrev cX8_rest : ByteArray := prog_10_method_12_code
def yX8_rest : MethodName := ⟨RX8, "rest", "(DD)D"⟩
def RX9 : String := "GaugeBench"
def TX9 : u_T := fun k => match k with
  | _ => ("GaugeBench", "bench", "LGaugeBench$Bench;", true)
def tyX9 : Nat → FieldType := fun k => match k with
  | _ => .object "GaugeBench$Bench"
theorem nmX9 : ∀ a, a < 1 → ∀ b, b < 1 → a ≠ b → (TX9 a).2.1 ≠ (TX9 b).2.1 := by decide +kernel
theorem tyX9_ok : ∀ k, k < 1 → parseFieldDescriptor (TX9 k).2.2.1 = some (tyX9 k) := by decide +kernel
abbrev cX9_init : ByteArray := prog_1_method_1_code
def yX9_init : MethodName := ⟨RX9, "<init>", "()V"⟩
abbrev cX9_choose : ByteArray := prog_1_method_2_code
def yX9_choose : MethodName := ⟨RX9, "choose", "(I)I"⟩
abbrev cX9_step : ByteArray := prog_1_method_3_code
def yX9_step : MethodName := ⟨RX9, "step", "(IIII)I"⟩
abbrev cX9_clear : ByteArray := prog_1_method_4_code
def yX9_clear : MethodName := ⟨RX9, "clear", "()I"⟩
abbrev cX9_run : ByteArray := prog_1_method_5_code
def yX9_run : MethodName := ⟨RX9, "run", "()I"⟩
abbrev cX9_dial : ByteArray := prog_1_method_6_code
def yX9_dial : MethodName := ⟨RX9, "dial", "(I)D"⟩
abbrev cX9_size : ByteArray := prog_1_method_7_code
def yX9_size : MethodName := ⟨RX9, "size", "(I)I"⟩
abbrev cX9_value : ByteArray := prog_1_method_8_code
def yX9_value : MethodName := ⟨RX9, "value", "(II)D"⟩
abbrev cX9_isFitted : ByteArray := prog_1_method_9_code
def yX9_isFitted : MethodName := ⟨RX9, "isFitted", "(II)Z"⟩
abbrev cX9_log : ByteArray := prog_1_method_10_code
def yX9_log : MethodName := ⟨RX9, "log", "(I)D"⟩
abbrev cX9_isMinus : ByteArray := prog_1_method_11_code
def yX9_isMinus : MethodName := ⟨RX9, "isMinus", "(I)Z"⟩
abbrev cX9_count : ByteArray := prog_1_method_12_code
def yX9_count : MethodName := ⟨RX9, "count", "(I)I"⟩
abbrev cX9_fault : ByteArray := prog_1_method_13_code
def yX9_fault : MethodName := ⟨RX9, "fault", "(I)I"⟩
def RX10 : String := "GaugeBenchModel"
def TX10 : u_T := fun k => match k with
  | 0 => ("GaugeBenchModel", "whats", "[I", true)
  | 1 => ("GaugeBenchModel", "as", "[I", true)
  | 2 => ("GaugeBenchModel", "bs", "[I", true)
  | 3 => ("GaugeBenchModel", "cs", "[I", true)
  | 4 => ("GaugeBenchModel", "ends", "[I", true)
  | 5 => ("GaugeBenchModel", "nexts", "[I", true)
  | 6 => ("GaugeBenchModel", "sizes", "[I", true)
  | 7 => ("GaugeBenchModel", "depths", "[I", true)
  | 8 => ("GaugeBenchModel", "openSteps", "[I", true)
  | 9 => ("GaugeBenchModel", "openParts", "[I", true)
  | 10 => ("GaugeBenchModel", "openCatches", "[I", true)
  | 11 => ("GaugeBenchModel", "atHand", "I", false)
  | 12 => ("GaugeBenchModel", "dials", "[D", true)
  | 13 => ("GaugeBenchModel", "isThere", "[Z", true)
  | 14 => ("GaugeBenchModel", "lengths", "[I", true)
  | 15 => ("GaugeBenchModel", "places", "[D", true)
  | 16 => ("GaugeBenchModel", "fitted", "[Z", true)
  | 17 => ("GaugeBenchModel", "faultKinds", "[I", true)
  | 18 => ("GaugeBenchModel", "faultPlaces", "[I", true)
  | 19 => ("GaugeBenchModel", "faultNumbers", "[I", true)
  | 20 => ("GaugeBenchModel", "earlier", "[I", true)
  | 21 => ("GaugeBenchModel", "earlierMany", "[I", true)
  | 22 => ("GaugeBenchModel", "faultCount", "I", false)
  | 23 => ("GaugeBenchModel", "thrown", "I", false)
  | 24 => ("GaugeBenchModel", "kinds", "[I", true)
  | 25 => ("GaugeBenchModel", "steps", "[I", true)
  | 26 => ("GaugeBenchModel", "lefts", "[I", true)
  | 27 => ("GaugeBenchModel", "faults", "[I", true)
  | 28 => ("GaugeBenchModel", "ways", "[I", true)
  | 29 => ("GaugeBenchModel", "open", "I", false)
  | 30 => ("GaugeBenchModel", "at", "I", false)
  | 31 => ("GaugeBenchModel", "way", "I", false)
  | 32 => ("GaugeBenchModel", "fault", "I", false)
  | 33 => ("GaugeBenchModel", "calls", "I", false)
  | 34 => ("GaugeBenchModel", "counted", "I", false)
  | 35 => ("GaugeBenchModel", "caughtMany", "I", false)
  | 36 => ("GaugeBenchModel", "lastMany", "I", false)
  | 37 => ("GaugeBenchModel", "log", "[D", true)
  | 38 => ("GaugeBenchModel", "logged", "I", false)
  | _ => ("GaugeBenchModel", "above", "[I", true)
def tyX10 : Nat → FieldType := fun k => match k with
  | 0 => .array .int
  | 1 => .array .int
  | 2 => .array .int
  | 3 => .array .int
  | 4 => .array .int
  | 5 => .array .int
  | 6 => .array .int
  | 7 => .array .int
  | 8 => .array .int
  | 9 => .array .int
  | 10 => .array .int
  | 11 => .int
  | 12 => .array .double
  | 13 => .array .boolean
  | 14 => .array .int
  | 15 => .array .double
  | 16 => .array .boolean
  | 17 => .array .int
  | 18 => .array .int
  | 19 => .array .int
  | 20 => .array .int
  | 21 => .array .int
  | 22 => .int
  | 23 => .int
  | 24 => .array .int
  | 25 => .array .int
  | 26 => .array .int
  | 27 => .array .int
  | 28 => .array .int
  | 29 => .int
  | 30 => .int
  | 31 => .int
  | 32 => .int
  | 33 => .int
  | 34 => .int
  | 35 => .int
  | 36 => .int
  | 37 => .array .double
  | 38 => .int
  | _ => .array .int
theorem nmX10 : ∀ a, a < 40 → ∀ b, b < 40 → a ≠ b → (TX10 a).2.1 ≠ (TX10 b).2.1 := by decide +kernel
theorem tyX10_ok : ∀ k, k < 40 → parseFieldDescriptor (TX10 k).2.2.1 = some (tyX10 k) := by decide +kernel
abbrev cX10_init : ByteArray := prog_12_method_1_code
def yX10_init : MethodName := ⟨RX10, "<init>", "()V"⟩
abbrev cX10_isIn : ByteArray := prog_12_method_2_code
def yX10_isIn : MethodName := ⟨RX10, "isIn", "(III)Z"⟩
abbrev cX10_choose : ByteArray := prog_12_method_3_code
def yX10_choose : MethodName := ⟨RX10, "choose", "(I)I"⟩
abbrev cX10_isDial : ByteArray := prog_12_method_4_code
def yX10_isDial : MethodName := ⟨RX10, "isDial", "(I)Z"⟩
abbrev cX10_isRow : ByteArray := prog_12_method_5_code
def yX10_isRow : MethodName := ⟨RX10, "isRow", "(I)Z"⟩
abbrev cX10_areTold : ByteArray := prog_12_method_6_code
def yX10_areTold : MethodName := ⟨RX10, "areTold", "(IIII)Z"⟩
abbrev cX10_isBlock : ByteArray := prog_12_method_7_code
def yX10_isBlock : MethodName := ⟨RX10, "isBlock", "(I)Z"⟩
abbrev cX10_partAt : ByteArray := prog_12_method_8_code
def yX10_partAt : MethodName := ⟨RX10, "partAt", "(I)I"⟩
abbrev cX10_isPartOpen : ByteArray := prog_12_method_9_code
def yX10_isPartOpen : MethodName := ⟨RX10, "isPartOpen", "(II)Z"⟩
abbrev cX10_mayStand : ByteArray := prog_12_method_10_code
def yX10_mayStand : MethodName := ⟨RX10, "mayStand", "(I)Z"⟩
abbrev cX10_step : ByteArray := prog_12_method_11_code
def yX10_step : MethodName := ⟨RX10, "step", "(IIII)I"⟩
abbrev cX10_clear : ByteArray := prog_12_method_12_code
def yX10_clear : MethodName := ⟨RX10, "clear", "()I"⟩
abbrev cX10_isUnder : ByteArray := prog_12_method_13_code
def yX10_isUnder : MethodName := ⟨RX10, "isUnder", "(II)Z"⟩
abbrev cX10_throwNew : ByteArray := prog_12_method_14_code
def yX10_throwNew : MethodName := ⟨RX10, "throwNew", "(IIII)V"⟩
abbrev cX10_fail : ByteArray := prog_12_method_15_code
def yX10_fail : MethodName := ⟨RX10, "fail", "(I)V"⟩
abbrev cX10_weighed : ByteArray := prog_12_method_16_code
def yX10_weighed : MethodName := ⟨RX10, "weighed", "(III)I"⟩
abbrev cX10_below : ByteArray := prog_12_method_17_code
def yX10_below : MethodName := ⟨RX10, "below", "(II)I"⟩
abbrev cX10_weight : ByteArray := prog_12_method_18_code
def yX10_weight : MethodName := ⟨RX10, "weight", "(I)I"⟩
abbrev cX10_push : ByteArray := prog_12_method_19_code
def yX10_push : MethodName := ⟨RX10, "push", "(III)V"⟩
abbrev cX10_begin : ByteArray := prog_12_method_20_code
def yX10_begin : MethodName := ⟨RX10, "begin", "(II)V"⟩
abbrev cX10_over : ByteArray := prog_12_method_21_code
def yX10_over : MethodName := ⟨RX10, "over", "()V"⟩
abbrev cX10_lastPart : ByteArray := prog_12_method_22_code
def yX10_lastPart : MethodName := ⟨RX10, "lastPart", "()V"⟩
abbrev cX10_seekCatch : ByteArray := prog_12_method_23_code
def yX10_seekCatch : MethodName := ⟨RX10, "seekCatch", "()V"⟩
abbrev cX10_leave : ByteArray := prog_12_method_24_code
def yX10_leave : MethodName := ⟨RX10, "leave", "()V"⟩
abbrev cX10_isCounted : ByteArray := prog_12_method_25_code
def yX10_isCounted : MethodName := ⟨RX10, "isCounted", "()Z"⟩
abbrev cX10_round : ByteArray := prog_12_method_26_code
def yX10_round : MethodName := ⟨RX10, "round", "()V"⟩
abbrev cX10_endPart : ByteArray := prog_12_method_27_code
def yX10_endPart : MethodName := ⟨RX10, "endPart", "()V"⟩
abbrev cX10_go : ByteArray := prog_12_method_28_code
def yX10_go : MethodName := ⟨RX10, "go", "()V"⟩
abbrev cX10_run : ByteArray := prog_12_method_29_code
def yX10_run : MethodName := ⟨RX10, "run", "()I"⟩
abbrev cX10_caught : ByteArray := prog_12_method_30_code
def yX10_caught : MethodName := ⟨RX10, "caught", "()I"⟩
abbrev cX10_note : ByteArray := prog_12_method_31_code
def yX10_note : MethodName := ⟨RX10, "note", "(D)V"⟩
abbrev cX10_isSo : ByteArray := prog_12_method_32_code
def yX10_isSo : MethodName := ⟨RX10, "isSo", "(I)Z"⟩
abbrev cX10_call : ByteArray := prog_12_method_33_code
def yX10_call : MethodName := ⟨RX10, "call", "(I)V"⟩
abbrev cX10_wrap : ByteArray := prog_12_method_34_code
def yX10_wrap : MethodName := ⟨RX10, "wrap", "(I)V"⟩
abbrev cX10_tell : ByteArray := prog_12_method_35_code
def yX10_tell : MethodName := ⟨RX10, "tell", "()V"⟩
abbrev cX10_order : ByteArray := prog_12_method_36_code
def yX10_order : MethodName := ⟨RX10, "order", "(I)V"⟩
abbrev cX10_faultOf : ByteArray := prog_12_method_37_code
def yX10_faultOf : MethodName := ⟨RX10, "faultOf", "(IIZ)I"⟩
abbrev cX10_kept : ByteArray := prog_12_method_38_code
def yX10_kept : MethodName := ⟨RX10, "kept", "(ID)D"⟩
abbrev cX10_make : ByteArray := prog_12_method_39_code
def yX10_make : MethodName := ⟨RX10, "make", "(II)V"⟩
abbrev cX10_onRow : ByteArray := prog_12_method_40_code
def yX10_onRow : MethodName := ⟨RX10, "onRow", "(I)V"⟩
abbrev cX10_work : ByteArray := prog_12_method_41_code
def yX10_work : MethodName := ⟨RX10, "work", "(I)V"⟩
abbrev cX10_isMinusNumber : ByteArray := prog_12_method_42_code
def yX10_isMinusNumber : MethodName := ⟨RX10, "isMinusNumber", "(D)Z"⟩
abbrev cX10_signed : ByteArray := prog_12_method_43_code
def yX10_signed : MethodName := ⟨RX10, "signed", "(DZ)D"⟩
abbrev cX10_lower : ByteArray := prog_12_method_44_code
def yX10_lower : MethodName := ⟨RX10, "lower", "(D)D"⟩
abbrev cX10_signed0 : ByteArray := prog_12_method_45_code
def yX10_signed0 : MethodName := ⟨RX10, "signed0", "(DD)D"⟩
abbrev cX10_upper : ByteArray := prog_12_method_46_code
def yX10_upper : MethodName := ⟨RX10, "upper", "(D)D"⟩
abbrev cX10_nearest : ByteArray := prog_12_method_47_code
def yX10_nearest : MethodName := ⟨RX10, "nearest", "(D)D"⟩
abbrev cX10_chosen : ByteArray := prog_12_method_48_code
def yX10_chosen : MethodName := ⟨RX10, "chosen", "(IDD)D"⟩
abbrev cX10_turn : ByteArray := prog_12_method_49_code
def yX10_turn : MethodName := ⟨RX10, "turn", "(ID)V"⟩
abbrev cX10_fine : ByteArray := prog_12_method_50_code
def yX10_fine : MethodName := ⟨RX10, "fine", "(I)V"⟩
abbrev cX10_rough : ByteArray := prog_12_method_51_code
def yX10_rough : MethodName := ⟨RX10, "rough", "(I)V"⟩
abbrev cX10_whole : ByteArray := prog_12_method_52_code
def yX10_whole : MethodName := ⟨RX10, "whole", "(I)V"⟩
abbrev cX10_wide : ByteArray := prog_12_method_53_code
def yX10_wide : MethodName := ⟨RX10, "wide", "(I)V"⟩
abbrev cX10_dial : ByteArray := prog_12_method_54_code
def yX10_dial : MethodName := ⟨RX10, "dial", "(I)D"⟩
abbrev cX10_size : ByteArray := prog_12_method_55_code
def yX10_size : MethodName := ⟨RX10, "size", "(I)I"⟩
abbrev cX10_value : ByteArray := prog_12_method_56_code
def yX10_value : MethodName := ⟨RX10, "value", "(II)D"⟩
abbrev cX10_isFitted : ByteArray := prog_12_method_57_code
def yX10_isFitted : MethodName := ⟨RX10, "isFitted", "(II)Z"⟩
abbrev cX10_log : ByteArray := prog_12_method_58_code
def yX10_log : MethodName := ⟨RX10, "log", "(I)D"⟩
abbrev cX10_isMinus : ByteArray := prog_12_method_59_code
def yX10_isMinus : MethodName := ⟨RX10, "isMinus", "(I)Z"⟩
abbrev cX10_count : ByteArray := prog_12_method_60_code
def yX10_count : MethodName := ⟨RX10, "count", "(I)I"⟩
abbrev cX10_fault : ByteArray := prog_12_method_61_code
def yX10_fault : MethodName := ⟨RX10, "fault", "(I)I"⟩
def RJ9 : String := "java/lang/Math"
def TJ9 : u_T := fun k => match k with
  | _ => ("", "", "", false)
def tyJ9 : Nat → FieldType := fun k => match k with
  | _ => .int
theorem nmJ9 : ∀ a, a < 0 → ∀ b, b < 0 → a ≠ b → (TJ9 a).2.1 ≠ (TJ9 b).2.1 := by decide +kernel
theorem tyJ9_ok : ∀ k, k < 0 → parseFieldDescriptor (TJ9 k).2.2.1 = some (tyJ9 k) := by decide +kernel
abbrev cJ9_max_7cf53 : ByteArray := prog_13_method_65_code
def yJ9_max_7cf53 : MethodName := ⟨RJ9, "max", "(II)I"⟩
def RL : String := "GaugeBenchLaw"
abbrev cL_law : ByteArray := code
def yL_law : MethodName := ⟨RL, "law", "([I)Z"⟩
abbrev vwCl : List vw_C := [(RX0, TX0, 9), (RX1, TX1, 4), (RX2, TX2, 1), (RX3, TX3, 6), (RX4, TX4, 2), (RX5, TX5, 5), (RX6, TX6, 4), (RX7, TX7, 8), (RX9, TX9, 1), (RX10, TX10, 40)]
end
section
theorem dX0_init_0 : decode cX0_init 0 = .ok (.aload_n 0, 1) := by decide +kernel
theorem dX0_init_1 : decode cX0_init 1 = .ok (.invokespecial 1, 3) := by decide +kernel
theorem dX0_init_4 : decode cX0_init 4 = .ok (.aload_n 0, 1) := by decide +kernel
theorem dX0_init_5 : decode cX0_init 5 = .ok (.new 7, 3) := by decide +kernel
theorem dX0_init_8 : decode cX0_init 8 = .ok (.dup, 1) := by decide +kernel
theorem dX0_init_9 : decode cX0_init 9 = .ok (.iconst 0, 1) := by decide +kernel
theorem dX0_init_10 : decode cX0_init 10 = .ok (.invokespecial 9, 3) := by decide +kernel
theorem dX0_init_13 : decode cX0_init 13 = .ok (.putfield 12, 3) := by decide +kernel
theorem dX0_init_16 : decode cX0_init 16 = .ok (.aload_n 0, 1) := by decide +kernel
theorem dX0_init_17 : decode cX0_init 17 = .ok (.iconst 4, 1) := by decide +kernel
theorem dX0_init_18 : decode cX0_init 18 = .ok (.anewarray 7, 3) := by decide +kernel
theorem dX0_init_21 : decode cX0_init 21 = .ok (.putfield 18, 3) := by decide +kernel
theorem dX0_init_24 : decode cX0_init 24 = .ok (.aload_n 0, 1) := by decide +kernel
theorem dX0_init_25 : decode cX0_init 25 = .ok (.getfield 18, 3) := by decide +kernel
theorem dX0_init_28 : decode cX0_init 28 = .ok (.iconst 0, 1) := by decide +kernel
theorem dX0_init_29 : decode cX0_init 29 = .ok (.aload_n 0, 1) := by decide +kernel
theorem dX0_init_30 : decode cX0_init 30 = .ok (.getfield 12, 3) := by decide +kernel
theorem dX0_init_33 : decode cX0_init 33 = .ok (.aastore, 1) := by decide +kernel
theorem dX0_init_34 : decode cX0_init 34 = .ok (.iconst 1, 1) := by decide +kernel
theorem dX0_init_35 : decode cX0_init 35 = .ok (.istore_n 1, 1) := by decide +kernel
theorem dX0_init_36 : decode cX0_init 36 = .ok (.iload_n 1, 1) := by decide +kernel
theorem dX0_init_37 : decode cX0_init 37 = .ok (.iconst 4, 1) := by decide +kernel
theorem dX0_init_38 : decode cX0_init 38 = .ok (.if_icmp .ge 23, 3) := by decide +kernel
theorem dX0_init_41 : decode cX0_init 41 = .ok (.aload_n 0, 1) := by decide +kernel
theorem dX0_init_42 : decode cX0_init 42 = .ok (.getfield 18, 3) := by decide +kernel
theorem dX0_init_45 : decode cX0_init 45 = .ok (.iload_n 1, 1) := by decide +kernel
theorem dX0_init_46 : decode cX0_init 46 = .ok (.new 7, 3) := by decide +kernel
theorem dX0_init_49 : decode cX0_init 49 = .ok (.dup, 1) := by decide +kernel
theorem dX0_init_50 : decode cX0_init 50 = .ok (.iload_n 1, 1) := by decide +kernel
theorem dX0_init_51 : decode cX0_init 51 = .ok (.invokespecial 9, 3) := by decide +kernel
theorem dX0_init_54 : decode cX0_init 54 = .ok (.aastore, 1) := by decide +kernel
theorem dX0_init_55 : decode cX0_init 55 = .ok (.iinc 1 1, 3) := by decide +kernel
theorem dX0_init_58 : decode cX0_init 58 = .ok (.goto (-22), 3) := by decide +kernel
theorem dX0_init_61 : decode cX0_init 61 = .ok (.aload_n 0, 1) := by decide +kernel
theorem dX0_init_62 : decode cX0_init 62 = .ok (.bipush 18, 2) := by decide +kernel
theorem dX0_init_64 : decode cX0_init 64 = .ok (.anewarray 22, 3) := by decide +kernel
theorem dX0_init_67 : decode cX0_init 67 = .ok (.putfield 24, 3) := by decide +kernel
theorem dX0_init_70 : decode cX0_init 70 = .ok (.iconst 0, 1) := by decide +kernel
theorem dX0_init_71 : decode cX0_init 71 = .ok (.istore_n 1, 1) := by decide +kernel
theorem dX0_init_72 : decode cX0_init 72 = .ok (.iload_n 1, 1) := by decide +kernel
theorem dX0_init_73 : decode cX0_init 73 = .ok (.bipush 18, 2) := by decide +kernel
theorem dX0_init_75 : decode cX0_init 75 = .ok (.if_icmp .ge 25, 3) := by decide +kernel
theorem dX0_init_78 : decode cX0_init 78 = .ok (.aload_n 0, 1) := by decide +kernel
theorem dX0_init_79 : decode cX0_init 79 = .ok (.getfield 24, 3) := by decide +kernel
theorem dX0_init_82 : decode cX0_init 82 = .ok (.iload_n 1, 1) := by decide +kernel
theorem dX0_init_83 : decode cX0_init 83 = .ok (.new 22, 3) := by decide +kernel
theorem dX0_init_86 : decode cX0_init 86 = .ok (.dup, 1) := by decide +kernel
theorem dX0_init_87 : decode cX0_init 87 = .ok (.iload_n 1, 1) := by decide +kernel
theorem dX0_init_88 : decode cX0_init 88 = .ok (.iconst 2, 1) := by decide +kernel
theorem dX0_init_89 : decode cX0_init 89 = .ok (.idiv, 1) := by decide +kernel
theorem dX0_init_90 : decode cX0_init 90 = .ok (.invokespecial 28, 3) := by decide +kernel
theorem dX0_init_93 : decode cX0_init 93 = .ok (.aastore, 1) := by decide +kernel
theorem dX0_init_94 : decode cX0_init 94 = .ok (.iinc 1 1, 3) := by decide +kernel
theorem dX0_init_97 : decode cX0_init 97 = .ok (.goto (-25), 3) := by decide +kernel
theorem dX0_init_100 : decode cX0_init 100 = .ok (.aload_n 0, 1) := by decide +kernel
theorem dX0_init_101 : decode cX0_init 101 = .ok (.new 29, 3) := by decide +kernel
theorem dX0_init_104 : decode cX0_init 104 = .ok (.dup, 1) := by decide +kernel
theorem dX0_init_105 : decode cX0_init 105 = .ok (.invokespecial 31, 3) := by decide +kernel
theorem dX0_init_108 : decode cX0_init 108 = .ok (.putfield 32, 3) := by decide +kernel
theorem dX0_init_111 : decode cX0_init 111 = .ok (.aload_n 0, 1) := by decide +kernel
theorem dX0_init_112 : decode cX0_init 112 = .ok (.new 36, 3) := by decide +kernel
theorem dX0_init_115 : decode cX0_init 115 = .ok (.dup, 1) := by decide +kernel
theorem dX0_init_116 : decode cX0_init 116 = .ok (.invokespecial 38, 3) := by decide +kernel
theorem dX0_init_119 : decode cX0_init 119 = .ok (.putfield 39, 3) := by decide +kernel
theorem dX0_init_122 : decode cX0_init 122 = .ok (.return_, 1) := by decide +kernel
theorem dX0_routineAt_0 : decode cX0_routineAt 0 = .ok (.iload_n 1, 1) := by decide +kernel
theorem dX0_routineAt_1 : decode cX0_routineAt 1 = .ok (.ifCond .lt 21, 3) := by decide +kernel
theorem dX0_routineAt_4 : decode cX0_routineAt 4 = .ok (.iload_n 1, 1) := by decide +kernel
theorem dX0_routineAt_5 : decode cX0_routineAt 5 = .ok (.aload_n 0, 1) := by decide +kernel
theorem dX0_routineAt_6 : decode cX0_routineAt 6 = .ok (.getfield 18, 3) := by decide +kernel
theorem dX0_routineAt_9 : decode cX0_routineAt 9 = .ok (.arraylength, 1) := by decide +kernel
theorem dX0_routineAt_10 : decode cX0_routineAt 10 = .ok (.if_icmp .ge 12, 3) := by decide +kernel
theorem dX0_routineAt_13 : decode cX0_routineAt 13 = .ok (.aload_n 0, 1) := by decide +kernel
theorem dX0_routineAt_14 : decode cX0_routineAt 14 = .ok (.getfield 18, 3) := by decide +kernel
theorem dX0_routineAt_17 : decode cX0_routineAt 17 = .ok (.iload_n 1, 1) := by decide +kernel
theorem dX0_routineAt_18 : decode cX0_routineAt 18 = .ok (.aaload, 1) := by decide +kernel
theorem dX0_routineAt_19 : decode cX0_routineAt 19 = .ok (.goto 4, 3) := by decide +kernel
theorem dX0_routineAt_22 : decode cX0_routineAt 22 = .ok (.aconst_null, 1) := by decide +kernel
theorem dX0_routineAt_23 : decode cX0_routineAt 23 = .ok (.areturn, 1) := by decide +kernel
theorem dX0_rowAt_0 : decode cX0_rowAt 0 = .ok (.iload_n 1, 1) := by decide +kernel
theorem dX0_rowAt_1 : decode cX0_rowAt 1 = .ok (.ifCond .lt 21, 3) := by decide +kernel
theorem dX0_rowAt_4 : decode cX0_rowAt 4 = .ok (.iload_n 1, 1) := by decide +kernel
theorem dX0_rowAt_5 : decode cX0_rowAt 5 = .ok (.aload_n 0, 1) := by decide +kernel
theorem dX0_rowAt_6 : decode cX0_rowAt 6 = .ok (.getfield 24, 3) := by decide +kernel
theorem dX0_rowAt_9 : decode cX0_rowAt 9 = .ok (.arraylength, 1) := by decide +kernel
theorem dX0_rowAt_10 : decode cX0_rowAt 10 = .ok (.if_icmp .ge 12, 3) := by decide +kernel
theorem dX0_rowAt_13 : decode cX0_rowAt 13 = .ok (.aload_n 0, 1) := by decide +kernel
theorem dX0_rowAt_14 : decode cX0_rowAt 14 = .ok (.getfield 24, 3) := by decide +kernel
theorem dX0_rowAt_17 : decode cX0_rowAt 17 = .ok (.iload_n 1, 1) := by decide +kernel
theorem dX0_rowAt_18 : decode cX0_rowAt 18 = .ok (.aaload, 1) := by decide +kernel
theorem dX0_rowAt_19 : decode cX0_rowAt 19 = .ok (.goto 4, 3) := by decide +kernel
theorem dX0_rowAt_22 : decode cX0_rowAt 22 = .ok (.aconst_null, 1) := by decide +kernel
theorem dX0_rowAt_23 : decode cX0_rowAt 23 = .ok (.areturn, 1) := by decide +kernel
theorem dX0_begin_0 : decode cX0_begin 0 = .ok (.aload_n 0, 1) := by decide +kernel
theorem dX0_begin_1 : decode cX0_begin 1 = .ok (.getfield 39, 3) := by decide +kernel
theorem dX0_begin_4 : decode cX0_begin 4 = .ok (.invokevirtual 43, 3) := by decide +kernel
theorem dX0_begin_7 : decode cX0_begin 7 = .ok (.aload_n 0, 1) := by decide +kernel
theorem dX0_begin_8 : decode cX0_begin 8 = .ok (.iconst 0, 1) := by decide +kernel
theorem dX0_begin_9 : decode cX0_begin 9 = .ok (.putfield 46, 3) := by decide +kernel
theorem dX0_begin_12 : decode cX0_begin 12 = .ok (.aload_n 0, 1) := by decide +kernel
theorem dX0_begin_13 : decode cX0_begin 13 = .ok (.iconst 0, 1) := by decide +kernel
theorem dX0_begin_14 : decode cX0_begin 14 = .ok (.putfield 50, 3) := by decide +kernel
theorem dX0_begin_17 : decode cX0_begin 17 = .ok (.aload_n 0, 1) := by decide +kernel
theorem dX0_begin_18 : decode cX0_begin 18 = .ok (.iconst 0, 1) := by decide +kernel
theorem dX0_begin_19 : decode cX0_begin 19 = .ok (.putfield 53, 3) := by decide +kernel
theorem dX0_begin_22 : decode cX0_begin 22 = .ok (.aload_n 0, 1) := by decide +kernel
theorem dX0_begin_23 : decode cX0_begin 23 = .ok (.aconst_null, 1) := by decide +kernel
theorem dX0_begin_24 : decode cX0_begin 24 = .ok (.putfield 56, 3) := by decide +kernel
theorem dX0_begin_27 : decode cX0_begin 27 = .ok (.aload_n 0, 1) := by decide +kernel
theorem dX0_begin_28 : decode cX0_begin 28 = .ok (.aload_n 1, 1) := by decide +kernel
theorem dX0_begin_29 : decode cX0_begin 29 = .ok (.iconst 0, 1) := by decide +kernel
theorem dX0_begin_30 : decode cX0_begin 30 = .ok (.aload_n 1, 1) := by decide +kernel
theorem dX0_begin_31 : decode cX0_begin 31 = .ok (.getfield 60, 3) := by decide +kernel
theorem dX0_begin_34 : decode cX0_begin 34 = .ok (.aconst_null, 1) := by decide +kernel
theorem dX0_begin_35 : decode cX0_begin 35 = .ok (.iconst 0, 1) := by decide +kernel
theorem dX0_begin_36 : decode cX0_begin 36 = .ok (.invokevirtual 63, 3) := by decide +kernel
theorem dX0_begin_39 : decode cX0_begin 39 = .ok (.pop, 1) := by decide +kernel
theorem dX0_begin_40 : decode cX0_begin 40 = .ok (.aload_n 0, 1) := by decide +kernel
theorem dX0_begin_41 : decode cX0_begin 41 = .ok (.getfield 56, 3) := by decide +kernel
theorem dX0_begin_44 : decode cX0_begin 44 = .ok (.ifnonnull 7, 3) := by decide +kernel
theorem dX0_begin_47 : decode cX0_begin 47 = .ok (.iconst 0, 1) := by decide +kernel
theorem dX0_begin_48 : decode cX0_begin 48 = .ok (.goto 10, 3) := by decide +kernel
theorem dX0_begin_51 : decode cX0_begin 51 = .ok (.aload_n 0, 1) := by decide +kernel
theorem dX0_begin_52 : decode cX0_begin 52 = .ok (.getfield 56, 3) := by decide +kernel
theorem dX0_begin_55 : decode cX0_begin 55 = .ok (.getfield 67, 3) := by decide +kernel
theorem dX0_begin_58 : decode cX0_begin 58 = .ok (.ireturn, 1) := by decide +kernel
theorem dX0_doSteps_0 : decode cX0_doSteps 0 = .ok (.iload_n 2, 1) := by decide +kernel
theorem dX0_doSteps_1 : decode cX0_doSteps 1 = .ok (.istore 6, 2) := by decide +kernel
theorem dX0_doSteps_3 : decode cX0_doSteps 3 = .ok (.iload 6, 2) := by decide +kernel
theorem dX0_doSteps_5 : decode cX0_doSteps 5 = .ok (.iload_n 3, 1) := by decide +kernel
theorem dX0_doSteps_6 : decode cX0_doSteps 6 = .ok (.if_icmp .ge 56, 3) := by decide +kernel
theorem dX0_doSteps_9 : decode cX0_doSteps 9 = .ok (.aload_n 1, 1) := by decide +kernel
theorem dX0_doSteps_10 : decode cX0_doSteps 10 = .ok (.iload 6, 2) := by decide +kernel
theorem dX0_doSteps_12 : decode cX0_doSteps 12 = .ok (.invokevirtual 72, 3) := by decide +kernel
theorem dX0_doSteps_15 : decode cX0_doSteps 15 = .ok (.astore 7, 2) := by decide +kernel
theorem dX0_doSteps_17 : decode cX0_doSteps 17 = .ok (.aload 7, 2) := by decide +kernel
theorem dX0_doSteps_19 : decode cX0_doSteps 19 = .ok (.ifnonnull 5, 3) := by decide +kernel
theorem dX0_doSteps_22 : decode cX0_doSteps 22 = .ok (.iconst 0, 1) := by decide +kernel
theorem dX0_doSteps_23 : decode cX0_doSteps 23 = .ok (.ireturn, 1) := by decide +kernel
theorem dX0_doSteps_24 : decode cX0_doSteps 24 = .ok (.aload_n 0, 1) := by decide +kernel
theorem dX0_doSteps_25 : decode cX0_doSteps 25 = .ok (.aload_n 1, 1) := by decide +kernel
theorem dX0_doSteps_26 : decode cX0_doSteps 26 = .ok (.aload 7, 2) := by decide +kernel
theorem dX0_doSteps_28 : decode cX0_doSteps 28 = .ok (.aload 4, 2) := by decide +kernel
theorem dX0_doSteps_30 : decode cX0_doSteps 30 = .ok (.iload 5, 2) := by decide +kernel
theorem dX0_doSteps_32 : decode cX0_doSteps 32 = .ok (.invokevirtual 76, 3) := by decide +kernel
theorem dX0_doSteps_35 : decode cX0_doSteps 35 = .ok (.istore 8, 2) := by decide +kernel
theorem dX0_doSteps_37 : decode cX0_doSteps 37 = .ok (.iload 8, 2) := by decide +kernel
theorem dX0_doSteps_39 : decode cX0_doSteps 39 = .ok (.ifCond .eq 6, 3) := by decide +kernel
theorem dX0_doSteps_42 : decode cX0_doSteps 42 = .ok (.iload 8, 2) := by decide +kernel
theorem dX0_doSteps_44 : decode cX0_doSteps 44 = .ok (.ireturn, 1) := by decide +kernel
theorem dX0_doSteps_45 : decode cX0_doSteps 45 = .ok (.iload 6, 2) := by decide +kernel
theorem dX0_doSteps_47 : decode cX0_doSteps 47 = .ok (.aload 7, 2) := by decide +kernel
theorem dX0_doSteps_49 : decode cX0_doSteps 49 = .ok (.getfield 80, 3) := by decide +kernel
theorem dX0_doSteps_52 : decode cX0_doSteps 52 = .ok (.invokestatic 85, 3) := by decide +kernel
theorem dX0_doSteps_55 : decode cX0_doSteps 55 = .ok (.iconst 1, 1) := by decide +kernel
theorem dX0_doSteps_56 : decode cX0_doSteps 56 = .ok (.iadd, 1) := by decide +kernel
theorem dX0_doSteps_57 : decode cX0_doSteps 57 = .ok (.istore 6, 2) := by decide +kernel
theorem dX0_doSteps_59 : decode cX0_doSteps 59 = .ok (.goto (-56), 3) := by decide +kernel
theorem dX0_doSteps_62 : decode cX0_doSteps 62 = .ok (.iconst 0, 1) := by decide +kernel
theorem dX0_doSteps_63 : decode cX0_doSteps 63 = .ok (.ireturn, 1) := by decide +kernel
theorem dX0_doStep_0 : decode cX0_doStep 0 = .ok (.aload_n 0, 1) := by decide +kernel
theorem dX0_doStep_1 : decode cX0_doStep 1 = .ok (.invokevirtual 91, 3) := by decide +kernel
theorem dX0_doStep_4 : decode cX0_doStep 4 = .ok (.ifCond .ne 11, 3) := by decide +kernel
theorem dX0_doStep_7 : decode cX0_doStep 7 = .ok (.aload_n 0, 1) := by decide +kernel
theorem dX0_doStep_8 : decode cX0_doStep 8 = .ok (.bipush 10, 2) := by decide +kernel
theorem dX0_doStep_10 : decode cX0_doStep 10 = .ok (.aload_n 2, 1) := by decide +kernel
theorem dX0_doStep_11 : decode cX0_doStep 11 = .ok (.invokevirtual 95, 3) := by decide +kernel
theorem dX0_doStep_14 : decode cX0_doStep 14 = .ok (.ireturn, 1) := by decide +kernel
theorem dX0_doStep_15 : decode cX0_doStep 15 = .ok (.aload_n 2, 1) := by decide +kernel
theorem dX0_doStep_16 : decode cX0_doStep 16 = .ok (.getfield 99, 3) := by decide +kernel
theorem dX0_doStep_19 : decode cX0_doStep 19 = .ok (.tableswitch 153 1 12 #[61, 153, 153, 71, 111, 113, 115, 138, 138, 138, 81, 103], 61) := by decide +kernel
theorem dX0_doStep_80 : decode cX0_doStep 80 = .ok (.aload_n 0, 1) := by decide +kernel
theorem dX0_doStep_81 : decode cX0_doStep 81 = .ok (.aload_n 1, 1) := by decide +kernel
theorem dX0_doStep_82 : decode cX0_doStep 82 = .ok (.aload_n 2, 1) := by decide +kernel
theorem dX0_doStep_83 : decode cX0_doStep 83 = .ok (.aload_n 3, 1) := by decide +kernel
theorem dX0_doStep_84 : decode cX0_doStep 84 = .ok (.iload 4, 2) := by decide +kernel
theorem dX0_doStep_86 : decode cX0_doStep 86 = .ok (.invokevirtual 102, 3) := by decide +kernel
theorem dX0_doStep_89 : decode cX0_doStep 89 = .ok (.ireturn, 1) := by decide +kernel
theorem dX0_doStep_90 : decode cX0_doStep 90 = .ok (.aload_n 0, 1) := by decide +kernel
theorem dX0_doStep_91 : decode cX0_doStep 91 = .ok (.aload_n 1, 1) := by decide +kernel
theorem dX0_doStep_92 : decode cX0_doStep 92 = .ok (.aload_n 2, 1) := by decide +kernel
theorem dX0_doStep_93 : decode cX0_doStep 93 = .ok (.aload_n 3, 1) := by decide +kernel
theorem dX0_doStep_94 : decode cX0_doStep 94 = .ok (.iload 4, 2) := by decide +kernel
theorem dX0_doStep_96 : decode cX0_doStep 96 = .ok (.invokevirtual 105, 3) := by decide +kernel
theorem dX0_doStep_99 : decode cX0_doStep 99 = .ok (.ireturn, 1) := by decide +kernel
theorem dX0_doStep_100 : decode cX0_doStep 100 = .ok (.aload_n 0, 1) := by decide +kernel
theorem dX0_doStep_101 : decode cX0_doStep 101 = .ok (.aload_n 2, 1) := by decide +kernel
theorem dX0_doStep_102 : decode cX0_doStep 102 = .ok (.invokevirtual 108, 3) := by decide +kernel
theorem dX0_doStep_105 : decode cX0_doStep 105 = .ok (.ifCond .eq 15, 3) := by decide +kernel
theorem dX0_doStep_108 : decode cX0_doStep 108 = .ok (.aload_n 0, 1) := by decide +kernel
theorem dX0_doStep_109 : decode cX0_doStep 109 = .ok (.aload_n 1, 1) := by decide +kernel
theorem dX0_doStep_110 : decode cX0_doStep 110 = .ok (.aload_n 2, 1) := by decide +kernel
theorem dX0_doStep_111 : decode cX0_doStep 111 = .ok (.aload_n 3, 1) := by decide +kernel
theorem dX0_doStep_112 : decode cX0_doStep 112 = .ok (.iload 4, 2) := by decide +kernel
theorem dX0_doStep_114 : decode cX0_doStep 114 = .ok (.invokevirtual 112, 3) := by decide +kernel
theorem dX0_doStep_117 : decode cX0_doStep 117 = .ok (.goto 4, 3) := by decide +kernel
theorem dX0_doStep_120 : decode cX0_doStep 120 = .ok (.iconst 0, 1) := by decide +kernel
theorem dX0_doStep_121 : decode cX0_doStep 121 = .ok (.ireturn, 1) := by decide +kernel
theorem dX0_doStep_122 : decode cX0_doStep 122 = .ok (.aload_n 0, 1) := by decide +kernel
theorem dX0_doStep_123 : decode cX0_doStep 123 = .ok (.aload_n 2, 1) := by decide +kernel
theorem dX0_doStep_124 : decode cX0_doStep 124 = .ok (.iload 4, 2) := by decide +kernel
theorem dX0_doStep_126 : decode cX0_doStep 126 = .ok (.invokevirtual 115, 3) := by decide +kernel
theorem dX0_doStep_129 : decode cX0_doStep 129 = .ok (.ireturn, 1) := by decide +kernel
theorem dX0_doStep_130 : decode cX0_doStep 130 = .ok (.iconst 1, 1) := by decide +kernel
theorem dX0_doStep_131 : decode cX0_doStep 131 = .ok (.ireturn, 1) := by decide +kernel
theorem dX0_doStep_132 : decode cX0_doStep 132 = .ok (.iconst 2, 1) := by decide +kernel
theorem dX0_doStep_133 : decode cX0_doStep 133 = .ok (.ireturn, 1) := by decide +kernel
theorem dX0_doStep_134 : decode cX0_doStep 134 = .ok (.aload_n 0, 1) := by decide +kernel
theorem dX0_doStep_135 : decode cX0_doStep 135 = .ok (.new 68, 3) := by decide +kernel
theorem dX0_doStep_138 : decode cX0_doStep 138 = .ok (.dup, 1) := by decide +kernel
theorem dX0_doStep_139 : decode cX0_doStep 139 = .ok (.bipush 9, 2) := by decide +kernel
theorem dX0_doStep_141 : decode cX0_doStep 141 = .ok (.aload_n 2, 1) := by decide +kernel
theorem dX0_doStep_142 : decode cX0_doStep 142 = .ok (.getfield 119, 3) := by decide +kernel
theorem dX0_doStep_145 : decode cX0_doStep 145 = .ok (.aload_n 2, 1) := by decide +kernel
theorem dX0_doStep_146 : decode cX0_doStep 146 = .ok (.getfield 122, 3) := by decide +kernel
theorem dX0_doStep_149 : decode cX0_doStep 149 = .ok (.aconst_null, 1) := by decide +kernel
theorem dX0_doStep_150 : decode cX0_doStep 150 = .ok (.invokespecial 125, 3) := by decide +kernel
theorem dX0_doStep_153 : decode cX0_doStep 153 = .ok (.invokevirtual 128, 3) := by decide +kernel
theorem dX0_doStep_156 : decode cX0_doStep 156 = .ok (.ireturn, 1) := by decide +kernel
theorem dX0_doStep_157 : decode cX0_doStep 157 = .ok (.aload_n 3, 1) := by decide +kernel
theorem dX0_doStep_158 : decode cX0_doStep 158 = .ok (.ifnonnull 7, 3) := by decide +kernel
theorem dX0_doStep_161 : decode cX0_doStep 161 = .ok (.iconst 0, 1) := by decide +kernel
theorem dX0_doStep_162 : decode cX0_doStep 162 = .ok (.goto 9, 3) := by decide +kernel
theorem dX0_doStep_165 : decode cX0_doStep 165 = .ok (.aload_n 0, 1) := by decide +kernel
theorem dX0_doStep_166 : decode cX0_doStep 166 = .ok (.aload_n 2, 1) := by decide +kernel
theorem dX0_doStep_167 : decode cX0_doStep 167 = .ok (.aload_n 3, 1) := by decide +kernel
theorem dX0_doStep_168 : decode cX0_doStep 168 = .ok (.invokevirtual 132, 3) := by decide +kernel
theorem dX0_doStep_171 : decode cX0_doStep 171 = .ok (.ireturn, 1) := by decide +kernel
theorem dX0_doStep_172 : decode cX0_doStep 172 = .ok (.aload_n 0, 1) := by decide +kernel
theorem dX0_doStep_173 : decode cX0_doStep 173 = .ok (.aload_n 0, 1) := by decide +kernel
theorem dX0_doStep_174 : decode cX0_doStep 174 = .ok (.aload_n 2, 1) := by decide +kernel
theorem dX0_doStep_175 : decode cX0_doStep 175 = .ok (.invokevirtual 136, 3) := by decide +kernel
theorem dX0_doStep_178 : decode cX0_doStep 178 = .ok (.aload_n 2, 1) := by decide +kernel
theorem dX0_doStep_179 : decode cX0_doStep 179 = .ok (.invokevirtual 95, 3) := by decide +kernel
theorem dX0_doStep_182 : decode cX0_doStep 182 = .ok (.ireturn, 1) := by decide +kernel
theorem dX0_isCounted_0 : decode cX0_isCounted 0 = .ok (.aload_n 0, 1) := by decide +kernel
theorem dX0_isCounted_1 : decode cX0_isCounted 1 = .ok (.getfield 46, 3) := by decide +kernel
theorem dX0_isCounted_4 : decode cX0_isCounted 4 = .ok (.sipush 200, 3) := by decide +kernel
theorem dX0_isCounted_7 : decode cX0_isCounted 7 = .ok (.if_icmp .lt 5, 3) := by decide +kernel
theorem dX0_isCounted_10 : decode cX0_isCounted 10 = .ok (.iconst 0, 1) := by decide +kernel
theorem dX0_isCounted_11 : decode cX0_isCounted 11 = .ok (.ireturn, 1) := by decide +kernel
theorem dX0_isCounted_12 : decode cX0_isCounted 12 = .ok (.aload_n 0, 1) := by decide +kernel
theorem dX0_isCounted_13 : decode cX0_isCounted 13 = .ok (.dup, 1) := by decide +kernel
theorem dX0_isCounted_14 : decode cX0_isCounted 14 = .ok (.getfield 46, 3) := by decide +kernel
theorem dX0_isCounted_17 : decode cX0_isCounted 17 = .ok (.iconst 1, 1) := by decide +kernel
theorem dX0_isCounted_18 : decode cX0_isCounted 18 = .ok (.iadd, 1) := by decide +kernel
theorem dX0_isCounted_19 : decode cX0_isCounted 19 = .ok (.putfield 46, 3) := by decide +kernel
theorem dX0_isCounted_22 : decode cX0_isCounted 22 = .ok (.iconst 1, 1) := by decide +kernel
theorem dX0_isCounted_23 : decode cX0_isCounted 23 = .ok (.ireturn, 1) := by decide +kernel
theorem dX0_throwNew_0 : decode cX0_throwNew 0 = .ok (.iload_n 1, 1) := by decide +kernel
theorem dX0_throwNew_1 : decode cX0_throwNew 1 = .ok (.ifCond .ne 7, 3) := by decide +kernel
theorem dX0_throwNew_4 : decode cX0_throwNew 4 = .ok (.iconst 0, 1) := by decide +kernel
theorem dX0_throwNew_5 : decode cX0_throwNew 5 = .ok (.goto 21, 3) := by decide +kernel
theorem dX0_throwNew_8 : decode cX0_throwNew 8 = .ok (.aload_n 0, 1) := by decide +kernel
theorem dX0_throwNew_9 : decode cX0_throwNew 9 = .ok (.new 68, 3) := by decide +kernel
theorem dX0_throwNew_12 : decode cX0_throwNew 12 = .ok (.dup, 1) := by decide +kernel
theorem dX0_throwNew_13 : decode cX0_throwNew 13 = .ok (.iload_n 1, 1) := by decide +kernel
theorem dX0_throwNew_14 : decode cX0_throwNew 14 = .ok (.aload_n 2, 1) := by decide +kernel
theorem dX0_throwNew_15 : decode cX0_throwNew 15 = .ok (.getfield 119, 3) := by decide +kernel
theorem dX0_throwNew_18 : decode cX0_throwNew 18 = .ok (.iconst 0, 1) := by decide +kernel
theorem dX0_throwNew_19 : decode cX0_throwNew 19 = .ok (.aconst_null, 1) := by decide +kernel
theorem dX0_throwNew_20 : decode cX0_throwNew 20 = .ok (.invokespecial 125, 3) := by decide +kernel
theorem dX0_throwNew_23 : decode cX0_throwNew 23 = .ok (.invokevirtual 128, 3) := by decide +kernel
theorem dX0_throwNew_26 : decode cX0_throwNew 26 = .ok (.ireturn, 1) := by decide +kernel
theorem dX0_leaveBy_0 : decode cX0_leaveBy 0 = .ok (.aload_n 0, 1) := by decide +kernel
theorem dX0_leaveBy_1 : decode cX0_leaveBy 1 = .ok (.aload_n 1, 1) := by decide +kernel
theorem dX0_leaveBy_2 : decode cX0_leaveBy 2 = .ok (.putfield 56, 3) := by decide +kernel
theorem dX0_leaveBy_5 : decode cX0_leaveBy 5 = .ok (.iconst 3, 1) := by decide +kernel
theorem dX0_leaveBy_6 : decode cX0_leaveBy 6 = .ok (.ireturn, 1) := by decide +kernel
theorem dX0_doPart_0 : decode cX0_doPart 0 = .ok (.aload_n 0, 1) := by decide +kernel
theorem dX0_doPart_1 : decode cX0_doPart 1 = .ok (.aload_n 1, 1) := by decide +kernel
theorem dX0_doPart_2 : decode cX0_doPart 2 = .ok (.aload_n 2, 1) := by decide +kernel
theorem dX0_doPart_3 : decode cX0_doPart 3 = .ok (.getfield 140, 3) := by decide +kernel
theorem dX0_doPart_6 : decode cX0_doPart 6 = .ok (.iconst 1, 1) := by decide +kernel
theorem dX0_doPart_7 : decode cX0_doPart 7 = .ok (.iadd, 1) := by decide +kernel
theorem dX0_doPart_8 : decode cX0_doPart 8 = .ok (.aload_n 2, 1) := by decide +kernel
theorem dX0_doPart_9 : decode cX0_doPart 9 = .ok (.invokevirtual 143, 3) := by decide +kernel
theorem dX0_doPart_12 : decode cX0_doPart 12 = .ok (.aload_n 3, 1) := by decide +kernel
theorem dX0_doPart_13 : decode cX0_doPart 13 = .ok (.iload 4, 2) := by decide +kernel
theorem dX0_doPart_15 : decode cX0_doPart 15 = .ok (.invokevirtual 63, 3) := by decide +kernel
theorem dX0_doPart_18 : decode cX0_doPart 18 = .ok (.ireturn, 1) := by decide +kernel
theorem dX0_doTry_0 : decode cX0_doTry 0 = .ok (.aload_n 0, 1) := by decide +kernel
theorem dX0_doTry_1 : decode cX0_doTry 1 = .ok (.aload_n 1, 1) := by decide +kernel
theorem dX0_doTry_2 : decode cX0_doTry 2 = .ok (.aload_n 2, 1) := by decide +kernel
theorem dX0_doTry_3 : decode cX0_doTry 3 = .ok (.aload_n 3, 1) := by decide +kernel
theorem dX0_doTry_4 : decode cX0_doTry 4 = .ok (.iload 4, 2) := by decide +kernel
theorem dX0_doTry_6 : decode cX0_doTry 6 = .ok (.invokevirtual 112, 3) := by decide +kernel
theorem dX0_doTry_9 : decode cX0_doTry 9 = .ok (.istore 5, 2) := by decide +kernel
theorem dX0_doTry_11 : decode cX0_doTry 11 = .ok (.aload_n 0, 1) := by decide +kernel
theorem dX0_doTry_12 : decode cX0_doTry 12 = .ok (.getfield 56, 3) := by decide +kernel
theorem dX0_doTry_15 : decode cX0_doTry 15 = .ok (.astore 6, 2) := by decide +kernel
theorem dX0_doTry_17 : decode cX0_doTry 17 = .ok (.aload 6, 2) := by decide +kernel
theorem dX0_doTry_19 : decode cX0_doTry 19 = .ok (.ifnonnull 7, 3) := by decide +kernel
theorem dX0_doTry_22 : decode cX0_doTry 22 = .ok (.aconst_null, 1) := by decide +kernel
theorem dX0_doTry_23 : decode cX0_doTry 23 = .ok (.goto 12, 3) := by decide +kernel
theorem dX0_doTry_26 : decode cX0_doTry 26 = .ok (.aload_n 2, 1) := by decide +kernel
theorem dX0_doTry_27 : decode cX0_doTry 27 = .ok (.aload 6, 2) := by decide +kernel
theorem dX0_doTry_29 : decode cX0_doTry 29 = .ok (.getfield 67, 3) := by decide +kernel
theorem dX0_doTry_32 : decode cX0_doTry 32 = .ok (.invokevirtual 147, 3) := by decide +kernel
theorem dX0_doTry_35 : decode cX0_doTry 35 = .ok (.astore 7, 2) := by decide +kernel
theorem dX0_doTry_37 : decode cX0_doTry 37 = .ok (.aload 7, 2) := by decide +kernel
theorem dX0_doTry_39 : decode cX0_doTry 39 = .ok (.ifnull 31, 3) := by decide +kernel
theorem dX0_doTry_42 : decode cX0_doTry 42 = .ok (.aload_n 0, 1) := by decide +kernel
theorem dX0_doTry_43 : decode cX0_doTry 43 = .ok (.aconst_null, 1) := by decide +kernel
theorem dX0_doTry_44 : decode cX0_doTry 44 = .ok (.putfield 56, 3) := by decide +kernel
theorem dX0_doTry_47 : decode cX0_doTry 47 = .ok (.aload_n 0, 1) := by decide +kernel
theorem dX0_doTry_48 : decode cX0_doTry 48 = .ok (.dup, 1) := by decide +kernel
theorem dX0_doTry_49 : decode cX0_doTry 49 = .ok (.getfield 50, 3) := by decide +kernel
theorem dX0_doTry_52 : decode cX0_doTry 52 = .ok (.iconst 1, 1) := by decide +kernel
theorem dX0_doTry_53 : decode cX0_doTry 53 = .ok (.iadd, 1) := by decide +kernel
theorem dX0_doTry_54 : decode cX0_doTry 54 = .ok (.putfield 50, 3) := by decide +kernel
theorem dX0_doTry_57 : decode cX0_doTry 57 = .ok (.aload_n 0, 1) := by decide +kernel
theorem dX0_doTry_58 : decode cX0_doTry 58 = .ok (.aload_n 1, 1) := by decide +kernel
theorem dX0_doTry_59 : decode cX0_doTry 59 = .ok (.aload 7, 2) := by decide +kernel
theorem dX0_doTry_61 : decode cX0_doTry 61 = .ok (.aload 6, 2) := by decide +kernel
theorem dX0_doTry_63 : decode cX0_doTry 63 = .ok (.iload 4, 2) := by decide +kernel
theorem dX0_doTry_65 : decode cX0_doTry 65 = .ok (.invokevirtual 112, 3) := by decide +kernel
theorem dX0_doTry_68 : decode cX0_doTry 68 = .ok (.istore 5, 2) := by decide +kernel
theorem dX0_doTry_70 : decode cX0_doTry 70 = .ok (.aload_n 2, 1) := by decide +kernel
theorem dX0_doTry_71 : decode cX0_doTry 71 = .ok (.invokevirtual 150, 3) := by decide +kernel
theorem dX0_doTry_74 : decode cX0_doTry 74 = .ok (.astore 8, 2) := by decide +kernel
theorem dX0_doTry_76 : decode cX0_doTry 76 = .ok (.aload 8, 2) := by decide +kernel
theorem dX0_doTry_78 : decode cX0_doTry 78 = .ok (.ifnonnull 8, 3) := by decide +kernel
theorem dX0_doTry_81 : decode cX0_doTry 81 = .ok (.iload 5, 2) := by decide +kernel
theorem dX0_doTry_83 : decode cX0_doTry 83 = .ok (.goto 15, 3) := by decide +kernel
theorem dX0_doTry_86 : decode cX0_doTry 86 = .ok (.aload_n 0, 1) := by decide +kernel
theorem dX0_doTry_87 : decode cX0_doTry 87 = .ok (.aload_n 1, 1) := by decide +kernel
theorem dX0_doTry_88 : decode cX0_doTry 88 = .ok (.aload 8, 2) := by decide +kernel
theorem dX0_doTry_90 : decode cX0_doTry 90 = .ok (.iload 5, 2) := by decide +kernel
theorem dX0_doTry_92 : decode cX0_doTry 92 = .ok (.aload_n 3, 1) := by decide +kernel
theorem dX0_doTry_93 : decode cX0_doTry 93 = .ok (.iload 4, 2) := by decide +kernel
theorem dX0_doTry_95 : decode cX0_doTry 95 = .ok (.invokevirtual 154, 3) := by decide +kernel
theorem dX0_doTry_98 : decode cX0_doTry 98 = .ok (.ireturn, 1) := by decide +kernel
theorem dX0_doFinally_0 : decode cX0_doFinally 0 = .ok (.aload_n 0, 1) := by decide +kernel
theorem dX0_doFinally_1 : decode cX0_doFinally 1 = .ok (.getfield 56, 3) := by decide +kernel
theorem dX0_doFinally_4 : decode cX0_doFinally 4 = .ok (.astore 6, 2) := by decide +kernel
theorem dX0_doFinally_6 : decode cX0_doFinally 6 = .ok (.aload_n 0, 1) := by decide +kernel
theorem dX0_doFinally_7 : decode cX0_doFinally 7 = .ok (.aconst_null, 1) := by decide +kernel
theorem dX0_doFinally_8 : decode cX0_doFinally 8 = .ok (.putfield 56, 3) := by decide +kernel
theorem dX0_doFinally_11 : decode cX0_doFinally 11 = .ok (.aload_n 0, 1) := by decide +kernel
theorem dX0_doFinally_12 : decode cX0_doFinally 12 = .ok (.dup, 1) := by decide +kernel
theorem dX0_doFinally_13 : decode cX0_doFinally 13 = .ok (.getfield 53, 3) := by decide +kernel
theorem dX0_doFinally_16 : decode cX0_doFinally 16 = .ok (.iconst 1, 1) := by decide +kernel
theorem dX0_doFinally_17 : decode cX0_doFinally 17 = .ok (.iadd, 1) := by decide +kernel
theorem dX0_doFinally_18 : decode cX0_doFinally 18 = .ok (.putfield 53, 3) := by decide +kernel
theorem dX0_doFinally_21 : decode cX0_doFinally 21 = .ok (.aload_n 0, 1) := by decide +kernel
theorem dX0_doFinally_22 : decode cX0_doFinally 22 = .ok (.aload_n 1, 1) := by decide +kernel
theorem dX0_doFinally_23 : decode cX0_doFinally 23 = .ok (.aload_n 2, 1) := by decide +kernel
theorem dX0_doFinally_24 : decode cX0_doFinally 24 = .ok (.aload 4, 2) := by decide +kernel
theorem dX0_doFinally_26 : decode cX0_doFinally 26 = .ok (.iload 5, 2) := by decide +kernel
theorem dX0_doFinally_28 : decode cX0_doFinally 28 = .ok (.invokevirtual 112, 3) := by decide +kernel
theorem dX0_doFinally_31 : decode cX0_doFinally 31 = .ok (.istore 7, 2) := by decide +kernel
theorem dX0_doFinally_33 : decode cX0_doFinally 33 = .ok (.iload 7, 2) := by decide +kernel
theorem dX0_doFinally_35 : decode cX0_doFinally 35 = .ok (.ifCond .eq 6, 3) := by decide +kernel
theorem dX0_doFinally_38 : decode cX0_doFinally 38 = .ok (.iload 7, 2) := by decide +kernel
theorem dX0_doFinally_40 : decode cX0_doFinally 40 = .ok (.ireturn, 1) := by decide +kernel
theorem dX0_doFinally_41 : decode cX0_doFinally 41 = .ok (.aload_n 0, 1) := by decide +kernel
theorem dX0_doFinally_42 : decode cX0_doFinally 42 = .ok (.aload 6, 2) := by decide +kernel
theorem dX0_doFinally_44 : decode cX0_doFinally 44 = .ok (.putfield 56, 3) := by decide +kernel
theorem dX0_doFinally_47 : decode cX0_doFinally 47 = .ok (.iload_n 3, 1) := by decide +kernel
theorem dX0_doFinally_48 : decode cX0_doFinally 48 = .ok (.ireturn, 1) := by decide +kernel
theorem dX0_doLoop_0 : decode cX0_doLoop 0 = .ok (.iconst 0, 1) := by decide +kernel
theorem dX0_doLoop_1 : decode cX0_doLoop 1 = .ok (.istore 5, 2) := by decide +kernel
theorem dX0_doLoop_3 : decode cX0_doLoop 3 = .ok (.iload 5, 2) := by decide +kernel
theorem dX0_doLoop_5 : decode cX0_doLoop 5 = .ok (.aload_n 2, 1) := by decide +kernel
theorem dX0_doLoop_6 : decode cX0_doLoop 6 = .ok (.getfield 122, 3) := by decide +kernel
theorem dX0_doLoop_9 : decode cX0_doLoop 9 = .ok (.if_icmp .ge 53, 3) := by decide +kernel
theorem dX0_doLoop_12 : decode cX0_doLoop 12 = .ok (.aload_n 0, 1) := by decide +kernel
theorem dX0_doLoop_13 : decode cX0_doLoop 13 = .ok (.invokevirtual 91, 3) := by decide +kernel
theorem dX0_doLoop_16 : decode cX0_doLoop 16 = .ok (.ifCond .ne 11, 3) := by decide +kernel
theorem dX0_doLoop_19 : decode cX0_doLoop 19 = .ok (.aload_n 0, 1) := by decide +kernel
theorem dX0_doLoop_20 : decode cX0_doLoop 20 = .ok (.bipush 10, 2) := by decide +kernel
theorem dX0_doLoop_22 : decode cX0_doLoop 22 = .ok (.aload_n 2, 1) := by decide +kernel
theorem dX0_doLoop_23 : decode cX0_doLoop 23 = .ok (.invokevirtual 95, 3) := by decide +kernel
theorem dX0_doLoop_26 : decode cX0_doLoop 26 = .ok (.ireturn, 1) := by decide +kernel
theorem dX0_doLoop_27 : decode cX0_doLoop 27 = .ok (.aload_n 0, 1) := by decide +kernel
theorem dX0_doLoop_28 : decode cX0_doLoop 28 = .ok (.aload_n 1, 1) := by decide +kernel
theorem dX0_doLoop_29 : decode cX0_doLoop 29 = .ok (.aload_n 2, 1) := by decide +kernel
theorem dX0_doLoop_30 : decode cX0_doLoop 30 = .ok (.aload_n 3, 1) := by decide +kernel
theorem dX0_doLoop_31 : decode cX0_doLoop 31 = .ok (.iload 4, 2) := by decide +kernel
theorem dX0_doLoop_33 : decode cX0_doLoop 33 = .ok (.invokevirtual 112, 3) := by decide +kernel
theorem dX0_doLoop_36 : decode cX0_doLoop 36 = .ok (.istore 6, 2) := by decide +kernel
theorem dX0_doLoop_38 : decode cX0_doLoop 38 = .ok (.iload 6, 2) := by decide +kernel
theorem dX0_doLoop_40 : decode cX0_doLoop 40 = .ok (.ifCond .eq 16, 3) := by decide +kernel
theorem dX0_doLoop_43 : decode cX0_doLoop 43 = .ok (.iload 6, 2) := by decide +kernel
theorem dX0_doLoop_45 : decode cX0_doLoop 45 = .ok (.iconst 1, 1) := by decide +kernel
theorem dX0_doLoop_46 : decode cX0_doLoop 46 = .ok (.if_icmp .ne 7, 3) := by decide +kernel
theorem dX0_doLoop_49 : decode cX0_doLoop 49 = .ok (.iconst 0, 1) := by decide +kernel
theorem dX0_doLoop_50 : decode cX0_doLoop 50 = .ok (.goto 5, 3) := by decide +kernel
theorem dX0_doLoop_53 : decode cX0_doLoop 53 = .ok (.iload 6, 2) := by decide +kernel
theorem dX0_doLoop_55 : decode cX0_doLoop 55 = .ok (.ireturn, 1) := by decide +kernel
theorem dX0_doLoop_56 : decode cX0_doLoop 56 = .ok (.iinc 5 1, 3) := by decide +kernel
theorem dX0_doLoop_59 : decode cX0_doLoop 59 = .ok (.goto (-56), 3) := by decide +kernel
theorem dX0_doLoop_62 : decode cX0_doLoop 62 = .ok (.iconst 0, 1) := by decide +kernel
theorem dX0_doLoop_63 : decode cX0_doLoop 63 = .ok (.ireturn, 1) := by decide +kernel
theorem dX0_doCall_0 : decode cX0_doCall 0 = .ok (.aload_n 0, 1) := by decide +kernel
theorem dX0_doCall_1 : decode cX0_doCall 1 = .ok (.aload_n 1, 1) := by decide +kernel
theorem dX0_doCall_2 : decode cX0_doCall 2 = .ok (.getfield 122, 3) := by decide +kernel
theorem dX0_doCall_5 : decode cX0_doCall 5 = .ok (.invokevirtual 158, 3) := by decide +kernel
theorem dX0_doCall_8 : decode cX0_doCall 8 = .ok (.astore_n 3, 1) := by decide +kernel
theorem dX0_doCall_9 : decode cX0_doCall 9 = .ok (.aload_n 3, 1) := by decide +kernel
theorem dX0_doCall_10 : decode cX0_doCall 10 = .ok (.ifnull 15, 3) := by decide +kernel
theorem dX0_doCall_13 : decode cX0_doCall 13 = .ok (.aload_n 3, 1) := by decide +kernel
theorem dX0_doCall_14 : decode cX0_doCall 14 = .ok (.getfield 162, 3) := by decide +kernel
theorem dX0_doCall_17 : decode cX0_doCall 17 = .ok (.ifCond .gt 8, 3) := by decide +kernel
theorem dX0_doCall_20 : decode cX0_doCall 20 = .ok (.iload_n 2, 1) := by decide +kernel
theorem dX0_doCall_21 : decode cX0_doCall 21 = .ok (.iconst 4, 1) := by decide +kernel
theorem dX0_doCall_22 : decode cX0_doCall 22 = .ok (.if_icmp .lt 11, 3) := by decide +kernel
theorem dX0_doCall_25 : decode cX0_doCall 25 = .ok (.aload_n 0, 1) := by decide +kernel
theorem dX0_doCall_26 : decode cX0_doCall 26 = .ok (.bipush 10, 2) := by decide +kernel
theorem dX0_doCall_28 : decode cX0_doCall 28 = .ok (.aload_n 1, 1) := by decide +kernel
theorem dX0_doCall_29 : decode cX0_doCall 29 = .ok (.invokevirtual 95, 3) := by decide +kernel
theorem dX0_doCall_32 : decode cX0_doCall 32 = .ok (.ireturn, 1) := by decide +kernel
theorem dX0_doCall_33 : decode cX0_doCall 33 = .ok (.aload_n 0, 1) := by decide +kernel
theorem dX0_doCall_34 : decode cX0_doCall 34 = .ok (.aload_n 3, 1) := by decide +kernel
theorem dX0_doCall_35 : decode cX0_doCall 35 = .ok (.iconst 0, 1) := by decide +kernel
theorem dX0_doCall_36 : decode cX0_doCall 36 = .ok (.aload_n 3, 1) := by decide +kernel
theorem dX0_doCall_37 : decode cX0_doCall 37 = .ok (.getfield 60, 3) := by decide +kernel
theorem dX0_doCall_40 : decode cX0_doCall 40 = .ok (.aconst_null, 1) := by decide +kernel
theorem dX0_doCall_41 : decode cX0_doCall 41 = .ok (.iload_n 2, 1) := by decide +kernel
theorem dX0_doCall_42 : decode cX0_doCall 42 = .ok (.iconst 1, 1) := by decide +kernel
theorem dX0_doCall_43 : decode cX0_doCall 43 = .ok (.iadd, 1) := by decide +kernel
theorem dX0_doCall_44 : decode cX0_doCall 44 = .ok (.invokevirtual 63, 3) := by decide +kernel
theorem dX0_doCall_47 : decode cX0_doCall 47 = .ok (.istore 4, 2) := by decide +kernel
theorem dX0_doCall_49 : decode cX0_doCall 49 = .ok (.iload 4, 2) := by decide +kernel
theorem dX0_doCall_51 : decode cX0_doCall 51 = .ok (.iconst 3, 1) := by decide +kernel
theorem dX0_doCall_52 : decode cX0_doCall 52 = .ok (.if_icmp .ne 7, 3) := by decide +kernel
theorem dX0_doCall_55 : decode cX0_doCall 55 = .ok (.iconst 3, 1) := by decide +kernel
theorem dX0_doCall_56 : decode cX0_doCall 56 = .ok (.goto 4, 3) := by decide +kernel
theorem dX0_doCall_59 : decode cX0_doCall 59 = .ok (.iconst 0, 1) := by decide +kernel
theorem dX0_doCall_60 : decode cX0_doCall 60 = .ok (.ireturn, 1) := by decide +kernel
theorem dX0_isSo_0 : decode cX0_isSo 0 = .ok (.aload_n 0, 1) := by decide +kernel
theorem dX0_isSo_1 : decode cX0_isSo 1 = .ok (.getfield 32, 3) := by decide +kernel
theorem dX0_isSo_4 : decode cX0_isSo 4 = .ok (.aload_n 1, 1) := by decide +kernel
theorem dX0_isSo_5 : decode cX0_isSo 5 = .ok (.getfield 122, 3) := by decide +kernel
theorem dX0_isSo_8 : decode cX0_isSo 8 = .ok (.invokevirtual 165, 3) := by decide +kernel
theorem dX0_isSo_11 : decode cX0_isSo 11 = .ok (.dstore_n 2, 1) := by decide +kernel
theorem dX0_isSo_12 : decode cX0_isSo 12 = .ok (.aload_n 0, 1) := by decide +kernel
theorem dX0_isSo_13 : decode cX0_isSo 13 = .ok (.getfield 32, 3) := by decide +kernel
theorem dX0_isSo_16 : decode cX0_isSo 16 = .ok (.aload_n 1, 1) := by decide +kernel
theorem dX0_isSo_17 : decode cX0_isSo 17 = .ok (.getfield 169, 3) := by decide +kernel
theorem dX0_isSo_20 : decode cX0_isSo 20 = .ok (.invokevirtual 165, 3) := by decide +kernel
theorem dX0_isSo_23 : decode cX0_isSo 23 = .ok (.dstore 4, 2) := by decide +kernel
theorem dX0_isSo_25 : decode cX0_isSo 25 = .ok (.aload_n 1, 1) := by decide +kernel
theorem dX0_isSo_26 : decode cX0_isSo 26 = .ok (.getfield 172, 3) := by decide +kernel
theorem dX0_isSo_29 : decode cX0_isSo 29 = .ok (.tableswitch 66 0 2 #[27, 40, 53], 27) := by decide +kernel
theorem dX0_isSo_56 : decode cX0_isSo 56 = .ok (.dload_n 2, 1) := by decide +kernel
theorem dX0_isSo_57 : decode cX0_isSo 57 = .ok (.dload 4, 2) := by decide +kernel
theorem dX0_isSo_59 : decode cX0_isSo 59 = .ok (.dcmp .g, 1) := by decide +kernel
theorem dX0_isSo_60 : decode cX0_isSo 60 = .ok (.ifCond .ge 7, 3) := by decide +kernel
theorem dX0_isSo_63 : decode cX0_isSo 63 = .ok (.iconst 1, 1) := by decide +kernel
theorem dX0_isSo_64 : decode cX0_isSo 64 = .ok (.goto 4, 3) := by decide +kernel
theorem dX0_isSo_67 : decode cX0_isSo 67 = .ok (.iconst 0, 1) := by decide +kernel
theorem dX0_isSo_68 : decode cX0_isSo 68 = .ok (.ireturn, 1) := by decide +kernel
theorem dX0_isSo_69 : decode cX0_isSo 69 = .ok (.dload_n 2, 1) := by decide +kernel
theorem dX0_isSo_70 : decode cX0_isSo 70 = .ok (.dload 4, 2) := by decide +kernel
theorem dX0_isSo_72 : decode cX0_isSo 72 = .ok (.dcmp .l, 1) := by decide +kernel
theorem dX0_isSo_73 : decode cX0_isSo 73 = .ok (.ifCond .ne 7, 3) := by decide +kernel
theorem dX0_isSo_76 : decode cX0_isSo 76 = .ok (.iconst 1, 1) := by decide +kernel
theorem dX0_isSo_77 : decode cX0_isSo 77 = .ok (.goto 4, 3) := by decide +kernel
theorem dX0_isSo_80 : decode cX0_isSo 80 = .ok (.iconst 0, 1) := by decide +kernel
theorem dX0_isSo_81 : decode cX0_isSo 81 = .ok (.ireturn, 1) := by decide +kernel
theorem dX0_isSo_82 : decode cX0_isSo 82 = .ok (.dload_n 2, 1) := by decide +kernel
theorem dX0_isSo_83 : decode cX0_isSo 83 = .ok (.dload 4, 2) := by decide +kernel
theorem dX0_isSo_85 : decode cX0_isSo 85 = .ok (.dcmp .l, 1) := by decide +kernel
theorem dX0_isSo_86 : decode cX0_isSo 86 = .ok (.ifCond .eq 7, 3) := by decide +kernel
theorem dX0_isSo_89 : decode cX0_isSo 89 = .ok (.iconst 1, 1) := by decide +kernel
theorem dX0_isSo_90 : decode cX0_isSo 90 = .ok (.goto 4, 3) := by decide +kernel
theorem dX0_isSo_93 : decode cX0_isSo 93 = .ok (.iconst 0, 1) := by decide +kernel
theorem dX0_isSo_94 : decode cX0_isSo 94 = .ok (.ireturn, 1) := by decide +kernel
theorem dX0_isSo_95 : decode cX0_isSo 95 = .ok (.dload_n 2, 1) := by decide +kernel
theorem dX0_isSo_96 : decode cX0_isSo 96 = .ok (.dload 4, 2) := by decide +kernel
theorem dX0_isSo_98 : decode cX0_isSo 98 = .ok (.dcmp .l, 1) := by decide +kernel
theorem dX0_isSo_99 : decode cX0_isSo 99 = .ok (.ifCond .lt 7, 3) := by decide +kernel
theorem dX0_isSo_102 : decode cX0_isSo 102 = .ok (.iconst 1, 1) := by decide +kernel
theorem dX0_isSo_103 : decode cX0_isSo 103 = .ok (.goto 4, 3) := by decide +kernel
theorem dX0_isSo_106 : decode cX0_isSo 106 = .ok (.iconst 0, 1) := by decide +kernel
theorem dX0_isSo_107 : decode cX0_isSo 107 = .ok (.ireturn, 1) := by decide +kernel
theorem dX0_useCaught_0 : decode cX0_useCaught 0 = .ok (.aload_n 1, 1) := by decide +kernel
theorem dX0_useCaught_1 : decode cX0_useCaught 1 = .ok (.getfield 99, 3) := by decide +kernel
theorem dX0_useCaught_4 : decode cX0_useCaught 4 = .ok (.lookupswitch 75 #[(8, 28), (9, 34)], 28) := by decide +kernel
theorem dX0_useCaught_32 : decode cX0_useCaught 32 = .ok (.aload_n 0, 1) := by decide +kernel
theorem dX0_useCaught_33 : decode cX0_useCaught 33 = .ok (.aload_n 2, 1) := by decide +kernel
theorem dX0_useCaught_34 : decode cX0_useCaught 34 = .ok (.invokevirtual 128, 3) := by decide +kernel
theorem dX0_useCaught_37 : decode cX0_useCaught 37 = .ok (.ireturn, 1) := by decide +kernel
theorem dX0_useCaught_38 : decode cX0_useCaught 38 = .ok (.aload_n 2, 1) := by decide +kernel
theorem dX0_useCaught_39 : decode cX0_useCaught 39 = .ok (.getfield 175, 3) := by decide +kernel
theorem dX0_useCaught_42 : decode cX0_useCaught 42 = .ok (.iconst 5, 1) := by decide +kernel
theorem dX0_useCaught_43 : decode cX0_useCaught 43 = .ok (.if_icmp .lt 13, 3) := by decide +kernel
theorem dX0_useCaught_46 : decode cX0_useCaught 46 = .ok (.aload_n 0, 1) := by decide +kernel
theorem dX0_useCaught_47 : decode cX0_useCaught 47 = .ok (.bipush 10, 2) := by decide +kernel
theorem dX0_useCaught_49 : decode cX0_useCaught 49 = .ok (.aload_n 1, 1) := by decide +kernel
theorem dX0_useCaught_50 : decode cX0_useCaught 50 = .ok (.invokevirtual 95, 3) := by decide +kernel
theorem dX0_useCaught_53 : decode cX0_useCaught 53 = .ok (.goto 25, 3) := by decide +kernel
theorem dX0_useCaught_56 : decode cX0_useCaught 56 = .ok (.aload_n 0, 1) := by decide +kernel
theorem dX0_useCaught_57 : decode cX0_useCaught 57 = .ok (.new 68, 3) := by decide +kernel
theorem dX0_useCaught_60 : decode cX0_useCaught 60 = .ok (.dup, 1) := by decide +kernel
theorem dX0_useCaught_61 : decode cX0_useCaught 61 = .ok (.bipush 11, 2) := by decide +kernel
theorem dX0_useCaught_63 : decode cX0_useCaught 63 = .ok (.aload_n 1, 1) := by decide +kernel
theorem dX0_useCaught_64 : decode cX0_useCaught 64 = .ok (.getfield 119, 3) := by decide +kernel
theorem dX0_useCaught_67 : decode cX0_useCaught 67 = .ok (.aload_n 1, 1) := by decide +kernel
theorem dX0_useCaught_68 : decode cX0_useCaught 68 = .ok (.getfield 122, 3) := by decide +kernel
theorem dX0_useCaught_71 : decode cX0_useCaught 71 = .ok (.aload_n 2, 1) := by decide +kernel
theorem dX0_useCaught_72 : decode cX0_useCaught 72 = .ok (.invokespecial 125, 3) := by decide +kernel
theorem dX0_useCaught_75 : decode cX0_useCaught 75 = .ok (.invokevirtual 128, 3) := by decide +kernel
theorem dX0_useCaught_78 : decode cX0_useCaught 78 = .ok (.ireturn, 1) := by decide +kernel
theorem dX0_useCaught_79 : decode cX0_useCaught 79 = .ok (.aload_n 0, 1) := by decide +kernel
theorem dX0_useCaught_80 : decode cX0_useCaught 80 = .ok (.getfield 39, 3) := by decide +kernel
theorem dX0_useCaught_83 : decode cX0_useCaught 83 = .ok (.aload_n 2, 1) := by decide +kernel
theorem dX0_useCaught_84 : decode cX0_useCaught 84 = .ok (.getfield 67, 3) := by decide +kernel
theorem dX0_useCaught_87 : decode cX0_useCaught 87 = .ok (.i2d, 1) := by decide +kernel
theorem dX0_useCaught_88 : decode cX0_useCaught 88 = .ok (.invokevirtual 178, 3) := by decide +kernel
theorem dX0_useCaught_91 : decode cX0_useCaught 91 = .ok (.aload_n 0, 1) := by decide +kernel
theorem dX0_useCaught_92 : decode cX0_useCaught 92 = .ok (.getfield 39, 3) := by decide +kernel
theorem dX0_useCaught_95 : decode cX0_useCaught 95 = .ok (.aload_n 2, 1) := by decide +kernel
theorem dX0_useCaught_96 : decode cX0_useCaught 96 = .ok (.getfield 182, 3) := by decide +kernel
theorem dX0_useCaught_99 : decode cX0_useCaught 99 = .ok (.i2d, 1) := by decide +kernel
theorem dX0_useCaught_100 : decode cX0_useCaught 100 = .ok (.invokevirtual 178, 3) := by decide +kernel
theorem dX0_useCaught_103 : decode cX0_useCaught 103 = .ok (.aload_n 0, 1) := by decide +kernel
theorem dX0_useCaught_104 : decode cX0_useCaught 104 = .ok (.getfield 39, 3) := by decide +kernel
theorem dX0_useCaught_107 : decode cX0_useCaught 107 = .ok (.aload_n 2, 1) := by decide +kernel
theorem dX0_useCaught_108 : decode cX0_useCaught 108 = .ok (.getfield 183, 3) := by decide +kernel
theorem dX0_useCaught_111 : decode cX0_useCaught 111 = .ok (.i2d, 1) := by decide +kernel
theorem dX0_useCaught_112 : decode cX0_useCaught 112 = .ok (.invokevirtual 178, 3) := by decide +kernel
theorem dX0_useCaught_115 : decode cX0_useCaught 115 = .ok (.aload_n 0, 1) := by decide +kernel
theorem dX0_useCaught_116 : decode cX0_useCaught 116 = .ok (.getfield 39, 3) := by decide +kernel
theorem dX0_useCaught_119 : decode cX0_useCaught 119 = .ok (.aload_n 2, 1) := by decide +kernel
theorem dX0_useCaught_120 : decode cX0_useCaught 120 = .ok (.getfield 175, 3) := by decide +kernel
theorem dX0_useCaught_123 : decode cX0_useCaught 123 = .ok (.i2d, 1) := by decide +kernel
theorem dX0_useCaught_124 : decode cX0_useCaught 124 = .ok (.invokevirtual 178, 3) := by decide +kernel
theorem dX0_useCaught_127 : decode cX0_useCaught 127 = .ok (.iconst 0, 1) := by decide +kernel
theorem dX0_useCaught_128 : decode cX0_useCaught 128 = .ok (.ireturn, 1) := by decide +kernel
theorem dX0_work_0 : decode cX0_work 0 = .ok (.aload_n 1, 1) := by decide +kernel
theorem dX0_work_1 : decode cX0_work 1 = .ok (.getfield 99, 3) := by decide +kernel
theorem dX0_work_4 : decode cX0_work 4 = .ok (.tableswitch 105 19 24 #[40, 61, 67, 73, 79, 85], 40) := by decide +kernel
theorem dX0_work_44 : decode cX0_work 44 = .ok (.aload_n 0, 1) := by decide +kernel
theorem dX0_work_45 : decode cX0_work 45 = .ok (.getfield 32, 3) := by decide +kernel
theorem dX0_work_48 : decode cX0_work 48 = .ok (.aload_n 1, 1) := by decide +kernel
theorem dX0_work_49 : decode cX0_work 49 = .ok (.getfield 122, 3) := by decide +kernel
theorem dX0_work_52 : decode cX0_work 52 = .ok (.aload_n 1, 1) := by decide +kernel
theorem dX0_work_53 : decode cX0_work 53 = .ok (.getfield 172, 3) := by decide +kernel
theorem dX0_work_56 : decode cX0_work 56 = .ok (.i2d, 1) := by decide +kernel
theorem dX0_work_57 : decode cX0_work 57 = .ok (.ldc2_w 186, 3) := by decide +kernel
theorem dX0_work_60 : decode cX0_work 60 = .ok (.ddiv, 1) := by decide +kernel
theorem dX0_work_61 : decode cX0_work 61 = .ok (.invokevirtual 188, 3) := by decide +kernel
theorem dX0_work_64 : decode cX0_work 64 = .ok (.ireturn, 1) := by decide +kernel
theorem dX0_work_65 : decode cX0_work 65 = .ok (.aload_n 0, 1) := by decide +kernel
theorem dX0_work_66 : decode cX0_work 66 = .ok (.aload_n 1, 1) := by decide +kernel
theorem dX0_work_67 : decode cX0_work 67 = .ok (.invokevirtual 192, 3) := by decide +kernel
theorem dX0_work_70 : decode cX0_work 70 = .ok (.ireturn, 1) := by decide +kernel
theorem dX0_work_71 : decode cX0_work 71 = .ok (.aload_n 0, 1) := by decide +kernel
theorem dX0_work_72 : decode cX0_work 72 = .ok (.aload_n 1, 1) := by decide +kernel
theorem dX0_work_73 : decode cX0_work 73 = .ok (.invokevirtual 195, 3) := by decide +kernel
theorem dX0_work_76 : decode cX0_work 76 = .ok (.ireturn, 1) := by decide +kernel
theorem dX0_work_77 : decode cX0_work 77 = .ok (.aload_n 0, 1) := by decide +kernel
theorem dX0_work_78 : decode cX0_work 78 = .ok (.aload_n 1, 1) := by decide +kernel
theorem dX0_work_79 : decode cX0_work 79 = .ok (.invokevirtual 198, 3) := by decide +kernel
theorem dX0_work_82 : decode cX0_work 82 = .ok (.ireturn, 1) := by decide +kernel
theorem dX0_work_83 : decode cX0_work 83 = .ok (.aload_n 0, 1) := by decide +kernel
theorem dX0_work_84 : decode cX0_work 84 = .ok (.aload_n 1, 1) := by decide +kernel
theorem dX0_work_85 : decode cX0_work 85 = .ok (.invokevirtual 201, 3) := by decide +kernel
theorem dX0_work_88 : decode cX0_work 88 = .ok (.ireturn, 1) := by decide +kernel
theorem dX0_work_89 : decode cX0_work 89 = .ok (.aload_n 0, 1) := by decide +kernel
theorem dX0_work_90 : decode cX0_work 90 = .ok (.getfield 39, 3) := by decide +kernel
theorem dX0_work_93 : decode cX0_work 93 = .ok (.aload_n 0, 1) := by decide +kernel
theorem dX0_work_94 : decode cX0_work 94 = .ok (.getfield 32, 3) := by decide +kernel
theorem dX0_work_97 : decode cX0_work 97 = .ok (.aload_n 1, 1) := by decide +kernel
theorem dX0_work_98 : decode cX0_work 98 = .ok (.getfield 122, 3) := by decide +kernel
theorem dX0_work_101 : decode cX0_work 101 = .ok (.invokevirtual 165, 3) := by decide +kernel
theorem dX0_work_104 : decode cX0_work 104 = .ok (.invokevirtual 178, 3) := by decide +kernel
theorem dX0_work_107 : decode cX0_work 107 = .ok (.iconst 0, 1) := by decide +kernel
theorem dX0_work_108 : decode cX0_work 108 = .ok (.ireturn, 1) := by decide +kernel
theorem dX0_work_109 : decode cX0_work 109 = .ok (.aload_n 0, 1) := by decide +kernel
theorem dX0_work_110 : decode cX0_work 110 = .ok (.aload_n 1, 1) := by decide +kernel
theorem dX0_work_111 : decode cX0_work 111 = .ok (.aload_n 0, 1) := by decide +kernel
theorem dX0_work_112 : decode cX0_work 112 = .ok (.aload_n 1, 1) := by decide +kernel
theorem dX0_work_113 : decode cX0_work 113 = .ok (.getfield 122, 3) := by decide +kernel
theorem dX0_work_116 : decode cX0_work 116 = .ok (.invokevirtual 204, 3) := by decide +kernel
theorem dX0_work_119 : decode cX0_work 119 = .ok (.invokevirtual 208, 3) := by decide +kernel
theorem dX0_work_122 : decode cX0_work 122 = .ok (.ireturn, 1) := by decide +kernel
theorem dX0_workWithRow_0 : decode cX0_workWithRow 0 = .ok (.aload_n 2, 1) := by decide +kernel
theorem dX0_workWithRow_1 : decode cX0_workWithRow 1 = .ok (.ifnonnull 5, 3) := by decide +kernel
theorem dX0_workWithRow_4 : decode cX0_workWithRow 4 = .ok (.iconst 3, 1) := by decide +kernel
theorem dX0_workWithRow_5 : decode cX0_workWithRow 5 = .ok (.ireturn, 1) := by decide +kernel
theorem dX0_workWithRow_6 : decode cX0_workWithRow 6 = .ok (.aload_n 0, 1) := by decide +kernel
theorem dX0_workWithRow_7 : decode cX0_workWithRow 7 = .ok (.getfield 32, 3) := by decide +kernel
theorem dX0_workWithRow_10 : decode cX0_workWithRow 10 = .ok (.aload_n 1, 1) := by decide +kernel
theorem dX0_workWithRow_11 : decode cX0_workWithRow 11 = .ok (.getfield 172, 3) := by decide +kernel
theorem dX0_workWithRow_14 : decode cX0_workWithRow 14 = .ok (.invokevirtual 212, 3) := by decide +kernel
theorem dX0_workWithRow_17 : decode cX0_workWithRow 17 = .ok (.istore_n 3, 1) := by decide +kernel
theorem dX0_workWithRow_18 : decode cX0_workWithRow 18 = .ok (.aload_n 1, 1) := by decide +kernel
theorem dX0_workWithRow_19 : decode cX0_workWithRow 19 = .ok (.getfield 99, 3) := by decide +kernel
theorem dX0_workWithRow_22 : decode cX0_workWithRow 22 = .ok (.tableswitch 102 13 17 #[34, 40, 46, 74, 85], 34) := by decide +kernel
theorem dX0_workWithRow_56 : decode cX0_workWithRow 56 = .ok (.aload_n 2, 1) := by decide +kernel
theorem dX0_workWithRow_57 : decode cX0_workWithRow 57 = .ok (.iload_n 3, 1) := by decide +kernel
theorem dX0_workWithRow_58 : decode cX0_workWithRow 58 = .ok (.invokevirtual 216, 3) := by decide +kernel
theorem dX0_workWithRow_61 : decode cX0_workWithRow 61 = .ok (.ireturn, 1) := by decide +kernel
theorem dX0_workWithRow_62 : decode cX0_workWithRow 62 = .ok (.aload_n 2, 1) := by decide +kernel
theorem dX0_workWithRow_63 : decode cX0_workWithRow 63 = .ok (.invokevirtual 219, 3) := by decide +kernel
theorem dX0_workWithRow_66 : decode cX0_workWithRow 66 = .ok (.iconst 0, 1) := by decide +kernel
theorem dX0_workWithRow_67 : decode cX0_workWithRow 67 = .ok (.ireturn, 1) := by decide +kernel
theorem dX0_workWithRow_68 : decode cX0_workWithRow 68 = .ok (.aload_n 2, 1) := by decide +kernel
theorem dX0_workWithRow_69 : decode cX0_workWithRow 69 = .ok (.getfield 222, 3) := by decide +kernel
theorem dX0_workWithRow_72 : decode cX0_workWithRow 72 = .ok (.ifCond .ge 7, 3) := by decide +kernel
theorem dX0_workWithRow_75 : decode cX0_workWithRow 75 = .ok (.iconst 3, 1) := by decide +kernel
theorem dX0_workWithRow_76 : decode cX0_workWithRow 76 = .ok (.goto 19, 3) := by decide +kernel
theorem dX0_workWithRow_79 : decode cX0_workWithRow 79 = .ok (.aload_n 0, 1) := by decide +kernel
theorem dX0_workWithRow_80 : decode cX0_workWithRow 80 = .ok (.getfield 32, 3) := by decide +kernel
theorem dX0_workWithRow_83 : decode cX0_workWithRow 83 = .ok (.aload_n 1, 1) := by decide +kernel
theorem dX0_workWithRow_84 : decode cX0_workWithRow 84 = .ok (.getfield 172, 3) := by decide +kernel
theorem dX0_workWithRow_87 : decode cX0_workWithRow 87 = .ok (.aload_n 2, 1) := by decide +kernel
theorem dX0_workWithRow_88 : decode cX0_workWithRow 88 = .ok (.getfield 222, 3) := by decide +kernel
theorem dX0_workWithRow_91 : decode cX0_workWithRow 91 = .ok (.i2d, 1) := by decide +kernel
theorem dX0_workWithRow_92 : decode cX0_workWithRow 92 = .ok (.invokevirtual 188, 3) := by decide +kernel
theorem dX0_workWithRow_95 : decode cX0_workWithRow 95 = .ok (.ireturn, 1) := by decide +kernel
theorem dX0_workWithRow_96 : decode cX0_workWithRow 96 = .ok (.aload_n 0, 1) := by decide +kernel
theorem dX0_workWithRow_97 : decode cX0_workWithRow 97 = .ok (.aload_n 1, 1) := by decide +kernel
theorem dX0_workWithRow_98 : decode cX0_workWithRow 98 = .ok (.getfield 169, 3) := by decide +kernel
theorem dX0_workWithRow_101 : decode cX0_workWithRow 101 = .ok (.aload_n 2, 1) := by decide +kernel
theorem dX0_workWithRow_102 : decode cX0_workWithRow 102 = .ok (.iload_n 3, 1) := by decide +kernel
theorem dX0_workWithRow_103 : decode cX0_workWithRow 103 = .ok (.invokevirtual 225, 3) := by decide +kernel
theorem dX0_workWithRow_106 : decode cX0_workWithRow 106 = .ok (.ireturn, 1) := by decide +kernel
theorem dX0_workWithRow_107 : decode cX0_workWithRow 107 = .ok (.aload_n 2, 1) := by decide +kernel
theorem dX0_workWithRow_108 : decode cX0_workWithRow 108 = .ok (.iload_n 3, 1) := by decide +kernel
theorem dX0_workWithRow_109 : decode cX0_workWithRow 109 = .ok (.aload_n 0, 1) := by decide +kernel
theorem dX0_workWithRow_110 : decode cX0_workWithRow 110 = .ok (.getfield 32, 3) := by decide +kernel
theorem dX0_workWithRow_113 : decode cX0_workWithRow 113 = .ok (.aload_n 1, 1) := by decide +kernel
theorem dX0_workWithRow_114 : decode cX0_workWithRow 114 = .ok (.getfield 169, 3) := by decide +kernel
theorem dX0_workWithRow_117 : decode cX0_workWithRow 117 = .ok (.invokevirtual 165, 3) := by decide +kernel
theorem dX0_workWithRow_120 : decode cX0_workWithRow 120 = .ok (.invokevirtual 229, 3) := by decide +kernel
theorem dX0_workWithRow_123 : decode cX0_workWithRow 123 = .ok (.ireturn, 1) := by decide +kernel
theorem dX0_workWithRow_124 : decode cX0_workWithRow 124 = .ok (.aload_n 2, 1) := by decide +kernel
theorem dX0_workWithRow_125 : decode cX0_workWithRow 125 = .ok (.iload_n 3, 1) := by decide +kernel
theorem dX0_workWithRow_126 : decode cX0_workWithRow 126 = .ok (.invokevirtual 232, 3) := by decide +kernel
theorem dX0_workWithRow_129 : decode cX0_workWithRow 129 = .ok (.ireturn, 1) := by decide +kernel
theorem dX0_getInto_0 : decode cX0_getInto 0 = .ok (.aload_n 2, 1) := by decide +kernel
theorem dX0_getInto_1 : decode cX0_getInto 1 = .ok (.iload_n 3, 1) := by decide +kernel
theorem dX0_getInto_2 : decode cX0_getInto 2 = .ok (.invokevirtual 235, 3) := by decide +kernel
theorem dX0_getInto_5 : decode cX0_getInto 5 = .ok (.istore 4, 2) := by decide +kernel
theorem dX0_getInto_7 : decode cX0_getInto 7 = .ok (.iload 4, 2) := by decide +kernel
theorem dX0_getInto_9 : decode cX0_getInto 9 = .ok (.ifCond .ne 19, 3) := by decide +kernel
theorem dX0_getInto_12 : decode cX0_getInto 12 = .ok (.aload_n 0, 1) := by decide +kernel
theorem dX0_getInto_13 : decode cX0_getInto 13 = .ok (.getfield 32, 3) := by decide +kernel
theorem dX0_getInto_16 : decode cX0_getInto 16 = .ok (.iload_n 1, 1) := by decide +kernel
theorem dX0_getInto_17 : decode cX0_getInto 17 = .ok (.aload_n 2, 1) := by decide +kernel
theorem dX0_getInto_18 : decode cX0_getInto 18 = .ok (.iload_n 3, 1) := by decide +kernel
theorem dX0_getInto_19 : decode cX0_getInto 19 = .ok (.invokevirtual 238, 3) := by decide +kernel
theorem dX0_getInto_22 : decode cX0_getInto 22 = .ok (.invokevirtual 188, 3) := by decide +kernel
theorem dX0_getInto_25 : decode cX0_getInto 25 = .ok (.goto 5, 3) := by decide +kernel
theorem dX0_getInto_28 : decode cX0_getInto 28 = .ok (.iload 4, 2) := by decide +kernel
theorem dX0_getInto_30 : decode cX0_getInto 30 = .ok (.ireturn, 1) := by decide +kernel
theorem dX0_doFine_0 : decode cX0_doFine 0 = .ok (.aload_n 0, 1) := by decide +kernel
theorem dX0_doFine_1 : decode cX0_doFine 1 = .ok (.getfield 32, 3) := by decide +kernel
theorem dX0_doFine_4 : decode cX0_doFine 4 = .ok (.aload_n 1, 1) := by decide +kernel
theorem dX0_doFine_5 : decode cX0_doFine 5 = .ok (.getfield 172, 3) := by decide +kernel
theorem dX0_doFine_8 : decode cX0_doFine 8 = .ok (.invokevirtual 165, 3) := by decide +kernel
theorem dX0_doFine_11 : decode cX0_doFine 11 = .ok (.dstore_n 2, 1) := by decide +kernel
theorem dX0_doFine_12 : decode cX0_doFine 12 = .ok (.aload_n 0, 1) := by decide +kernel
theorem dX0_doFine_13 : decode cX0_doFine 13 = .ok (.getfield 32, 3) := by decide +kernel
theorem dX0_doFine_16 : decode cX0_doFine 16 = .ok (.aload_n 1, 1) := by decide +kernel
theorem dX0_doFine_17 : decode cX0_doFine 17 = .ok (.getfield 169, 3) := by decide +kernel
theorem dX0_doFine_20 : decode cX0_doFine 20 = .ok (.invokevirtual 165, 3) := by decide +kernel
theorem dX0_doFine_23 : decode cX0_doFine 23 = .ok (.dstore 4, 2) := by decide +kernel
theorem dX0_doFine_25 : decode cX0_doFine 25 = .ok (.aload_n 1, 1) := by decide +kernel
theorem dX0_doFine_26 : decode cX0_doFine 26 = .ok (.getfield 122, 3) := by decide +kernel
theorem dX0_doFine_29 : decode cX0_doFine 29 = .ok (.invokestatic 241, 3) := by decide +kernel
theorem dX0_doFine_32 : decode cX0_doFine 32 = .ok (.ifCond .eq 13, 3) := by decide +kernel
theorem dX0_doFine_35 : decode cX0_doFine 35 = .ok (.dload 4, 2) := by decide +kernel
theorem dX0_doFine_37 : decode cX0_doFine 37 = .ok (.dconst 0, 1) := by decide +kernel
theorem dX0_doFine_38 : decode cX0_doFine 38 = .ok (.dcmp .l, 1) := by decide +kernel
theorem dX0_doFine_39 : decode cX0_doFine 39 = .ok (.ifCond .ne 6, 3) := by decide +kernel
theorem dX0_doFine_42 : decode cX0_doFine 42 = .ok (.bipush 7, 2) := by decide +kernel
theorem dX0_doFine_44 : decode cX0_doFine 44 = .ok (.ireturn, 1) := by decide +kernel
theorem dX0_doFine_45 : decode cX0_doFine 45 = .ok (.aload_n 0, 1) := by decide +kernel
theorem dX0_doFine_46 : decode cX0_doFine 46 = .ok (.getfield 32, 3) := by decide +kernel
theorem dX0_doFine_49 : decode cX0_doFine 49 = .ok (.aload_n 1, 1) := by decide +kernel
theorem dX0_doFine_50 : decode cX0_doFine 50 = .ok (.getfield 172, 3) := by decide +kernel
theorem dX0_doFine_53 : decode cX0_doFine 53 = .ok (.aload_n 1, 1) := by decide +kernel
theorem dX0_doFine_54 : decode cX0_doFine 54 = .ok (.getfield 122, 3) := by decide +kernel
theorem dX0_doFine_57 : decode cX0_doFine 57 = .ok (.dload_n 2, 1) := by decide +kernel
theorem dX0_doFine_58 : decode cX0_doFine 58 = .ok (.dload 4, 2) := by decide +kernel
theorem dX0_doFine_60 : decode cX0_doFine 60 = .ok (.invokestatic 247, 3) := by decide +kernel
theorem dX0_doFine_63 : decode cX0_doFine 63 = .ok (.invokevirtual 188, 3) := by decide +kernel
theorem dX0_doFine_66 : decode cX0_doFine 66 = .ok (.ireturn, 1) := by decide +kernel
theorem dX0_doRough_0 : decode cX0_doRough 0 = .ok (.aload_n 0, 1) := by decide +kernel
theorem dX0_doRough_1 : decode cX0_doRough 1 = .ok (.getfield 32, 3) := by decide +kernel
theorem dX0_doRough_4 : decode cX0_doRough 4 = .ok (.aload_n 1, 1) := by decide +kernel
theorem dX0_doRough_5 : decode cX0_doRough 5 = .ok (.getfield 172, 3) := by decide +kernel
theorem dX0_doRough_8 : decode cX0_doRough 8 = .ok (.invokevirtual 165, 3) := by decide +kernel
theorem dX0_doRough_11 : decode cX0_doRough 11 = .ok (.d2f, 1) := by decide +kernel
theorem dX0_doRough_12 : decode cX0_doRough 12 = .ok (.fstore_n 2, 1) := by decide +kernel
theorem dX0_doRough_13 : decode cX0_doRough 13 = .ok (.aload_n 0, 1) := by decide +kernel
theorem dX0_doRough_14 : decode cX0_doRough 14 = .ok (.getfield 32, 3) := by decide +kernel
theorem dX0_doRough_17 : decode cX0_doRough 17 = .ok (.aload_n 1, 1) := by decide +kernel
theorem dX0_doRough_18 : decode cX0_doRough 18 = .ok (.getfield 169, 3) := by decide +kernel
theorem dX0_doRough_21 : decode cX0_doRough 21 = .ok (.invokevirtual 165, 3) := by decide +kernel
theorem dX0_doRough_24 : decode cX0_doRough 24 = .ok (.d2f, 1) := by decide +kernel
theorem dX0_doRough_25 : decode cX0_doRough 25 = .ok (.fstore_n 3, 1) := by decide +kernel
theorem dX0_doRough_26 : decode cX0_doRough 26 = .ok (.aload_n 1, 1) := by decide +kernel
theorem dX0_doRough_27 : decode cX0_doRough 27 = .ok (.getfield 122, 3) := by decide +kernel
theorem dX0_doRough_30 : decode cX0_doRough 30 = .ok (.invokestatic 241, 3) := by decide +kernel
theorem dX0_doRough_33 : decode cX0_doRough 33 = .ok (.ifCond .eq 12, 3) := by decide +kernel
theorem dX0_doRough_36 : decode cX0_doRough 36 = .ok (.fload_n 3, 1) := by decide +kernel
theorem dX0_doRough_37 : decode cX0_doRough 37 = .ok (.fconst 0, 1) := by decide +kernel
theorem dX0_doRough_38 : decode cX0_doRough 38 = .ok (.fcmp .l, 1) := by decide +kernel
theorem dX0_doRough_39 : decode cX0_doRough 39 = .ok (.ifCond .ne 6, 3) := by decide +kernel
theorem dX0_doRough_42 : decode cX0_doRough 42 = .ok (.bipush 7, 2) := by decide +kernel
theorem dX0_doRough_44 : decode cX0_doRough 44 = .ok (.ireturn, 1) := by decide +kernel
theorem dX0_doRough_45 : decode cX0_doRough 45 = .ok (.aload_n 0, 1) := by decide +kernel
theorem dX0_doRough_46 : decode cX0_doRough 46 = .ok (.getfield 32, 3) := by decide +kernel
theorem dX0_doRough_49 : decode cX0_doRough 49 = .ok (.aload_n 1, 1) := by decide +kernel
theorem dX0_doRough_50 : decode cX0_doRough 50 = .ok (.getfield 172, 3) := by decide +kernel
theorem dX0_doRough_53 : decode cX0_doRough 53 = .ok (.aload_n 1, 1) := by decide +kernel
theorem dX0_doRough_54 : decode cX0_doRough 54 = .ok (.getfield 122, 3) := by decide +kernel
theorem dX0_doRough_57 : decode cX0_doRough 57 = .ok (.fload_n 2, 1) := by decide +kernel
theorem dX0_doRough_58 : decode cX0_doRough 58 = .ok (.fload_n 3, 1) := by decide +kernel
theorem dX0_doRough_59 : decode cX0_doRough 59 = .ok (.invokestatic 251, 3) := by decide +kernel
theorem dX0_doRough_62 : decode cX0_doRough 62 = .ok (.invokevirtual 188, 3) := by decide +kernel
theorem dX0_doRough_65 : decode cX0_doRough 65 = .ok (.ireturn, 1) := by decide +kernel
theorem dX0_doWhole_0 : decode cX0_doWhole 0 = .ok (.aload_n 0, 1) := by decide +kernel
theorem dX0_doWhole_1 : decode cX0_doWhole 1 = .ok (.getfield 32, 3) := by decide +kernel
theorem dX0_doWhole_4 : decode cX0_doWhole 4 = .ok (.aload_n 1, 1) := by decide +kernel
theorem dX0_doWhole_5 : decode cX0_doWhole 5 = .ok (.getfield 172, 3) := by decide +kernel
theorem dX0_doWhole_8 : decode cX0_doWhole 8 = .ok (.invokevirtual 212, 3) := by decide +kernel
theorem dX0_doWhole_11 : decode cX0_doWhole 11 = .ok (.istore_n 2, 1) := by decide +kernel
theorem dX0_doWhole_12 : decode cX0_doWhole 12 = .ok (.aload_n 0, 1) := by decide +kernel
theorem dX0_doWhole_13 : decode cX0_doWhole 13 = .ok (.getfield 32, 3) := by decide +kernel
theorem dX0_doWhole_16 : decode cX0_doWhole 16 = .ok (.aload_n 1, 1) := by decide +kernel
theorem dX0_doWhole_17 : decode cX0_doWhole 17 = .ok (.getfield 169, 3) := by decide +kernel
theorem dX0_doWhole_20 : decode cX0_doWhole 20 = .ok (.invokevirtual 212, 3) := by decide +kernel
theorem dX0_doWhole_23 : decode cX0_doWhole 23 = .ok (.istore_n 3, 1) := by decide +kernel
theorem dX0_doWhole_24 : decode cX0_doWhole 24 = .ok (.aload_n 1, 1) := by decide +kernel
theorem dX0_doWhole_25 : decode cX0_doWhole 25 = .ok (.getfield 122, 3) := by decide +kernel
theorem dX0_doWhole_28 : decode cX0_doWhole 28 = .ok (.invokestatic 241, 3) := by decide +kernel
theorem dX0_doWhole_31 : decode cX0_doWhole 31 = .ok (.ifCond .eq 10, 3) := by decide +kernel
theorem dX0_doWhole_34 : decode cX0_doWhole 34 = .ok (.iload_n 3, 1) := by decide +kernel
theorem dX0_doWhole_35 : decode cX0_doWhole 35 = .ok (.ifCond .ne 6, 3) := by decide +kernel
theorem dX0_doWhole_38 : decode cX0_doWhole 38 = .ok (.bipush 7, 2) := by decide +kernel
theorem dX0_doWhole_40 : decode cX0_doWhole 40 = .ok (.ireturn, 1) := by decide +kernel
theorem dX0_doWhole_41 : decode cX0_doWhole 41 = .ok (.aload_n 0, 1) := by decide +kernel
theorem dX0_doWhole_42 : decode cX0_doWhole 42 = .ok (.getfield 32, 3) := by decide +kernel
theorem dX0_doWhole_45 : decode cX0_doWhole 45 = .ok (.aload_n 1, 1) := by decide +kernel
theorem dX0_doWhole_46 : decode cX0_doWhole 46 = .ok (.getfield 172, 3) := by decide +kernel
theorem dX0_doWhole_49 : decode cX0_doWhole 49 = .ok (.aload_n 1, 1) := by decide +kernel
theorem dX0_doWhole_50 : decode cX0_doWhole 50 = .ok (.getfield 122, 3) := by decide +kernel
theorem dX0_doWhole_53 : decode cX0_doWhole 53 = .ok (.iload_n 2, 1) := by decide +kernel
theorem dX0_doWhole_54 : decode cX0_doWhole 54 = .ok (.iload_n 3, 1) := by decide +kernel
theorem dX0_doWhole_55 : decode cX0_doWhole 55 = .ok (.invokestatic 255, 3) := by decide +kernel
theorem dX0_doWhole_58 : decode cX0_doWhole 58 = .ok (.i2d, 1) := by decide +kernel
theorem dX0_doWhole_59 : decode cX0_doWhole 59 = .ok (.invokevirtual 188, 3) := by decide +kernel
theorem dX0_doWhole_62 : decode cX0_doWhole 62 = .ok (.ireturn, 1) := by decide +kernel
theorem dX0_doWide_0 : decode cX0_doWide 0 = .ok (.aload_n 0, 1) := by decide +kernel
theorem dX0_doWide_1 : decode cX0_doWide 1 = .ok (.getfield 32, 3) := by decide +kernel
theorem dX0_doWide_4 : decode cX0_doWide 4 = .ok (.aload_n 1, 1) := by decide +kernel
theorem dX0_doWide_5 : decode cX0_doWide 5 = .ok (.getfield 172, 3) := by decide +kernel
theorem dX0_doWide_8 : decode cX0_doWide 8 = .ok (.invokevirtual 165, 3) := by decide +kernel
theorem dX0_doWide_11 : decode cX0_doWide 11 = .ok (.d2l, 1) := by decide +kernel
theorem dX0_doWide_12 : decode cX0_doWide 12 = .ok (.lstore_n 2, 1) := by decide +kernel
theorem dX0_doWide_13 : decode cX0_doWide 13 = .ok (.aload_n 0, 1) := by decide +kernel
theorem dX0_doWide_14 : decode cX0_doWide 14 = .ok (.getfield 32, 3) := by decide +kernel
theorem dX0_doWide_17 : decode cX0_doWide 17 = .ok (.aload_n 1, 1) := by decide +kernel
theorem dX0_doWide_18 : decode cX0_doWide 18 = .ok (.getfield 169, 3) := by decide +kernel
theorem dX0_doWide_21 : decode cX0_doWide 21 = .ok (.invokevirtual 165, 3) := by decide +kernel
theorem dX0_doWide_24 : decode cX0_doWide 24 = .ok (.d2l, 1) := by decide +kernel
theorem dX0_doWide_25 : decode cX0_doWide 25 = .ok (.lstore 4, 2) := by decide +kernel
theorem dX0_doWide_27 : decode cX0_doWide 27 = .ok (.aload_n 1, 1) := by decide +kernel
theorem dX0_doWide_28 : decode cX0_doWide 28 = .ok (.getfield 122, 3) := by decide +kernel
theorem dX0_doWide_31 : decode cX0_doWide 31 = .ok (.invokestatic 241, 3) := by decide +kernel
theorem dX0_doWide_34 : decode cX0_doWide 34 = .ok (.ifCond .eq 13, 3) := by decide +kernel
theorem dX0_doWide_37 : decode cX0_doWide 37 = .ok (.lload 4, 2) := by decide +kernel
theorem dX0_doWide_39 : decode cX0_doWide 39 = .ok (.lconst 0, 1) := by decide +kernel
theorem dX0_doWide_40 : decode cX0_doWide 40 = .ok (.lcmp, 1) := by decide +kernel
theorem dX0_doWide_41 : decode cX0_doWide 41 = .ok (.ifCond .ne 6, 3) := by decide +kernel
theorem dX0_doWide_44 : decode cX0_doWide 44 = .ok (.bipush 7, 2) := by decide +kernel
theorem dX0_doWide_46 : decode cX0_doWide 46 = .ok (.ireturn, 1) := by decide +kernel
theorem dX0_doWide_47 : decode cX0_doWide 47 = .ok (.aload_n 0, 1) := by decide +kernel
theorem dX0_doWide_48 : decode cX0_doWide 48 = .ok (.getfield 32, 3) := by decide +kernel
theorem dX0_doWide_51 : decode cX0_doWide 51 = .ok (.aload_n 1, 1) := by decide +kernel
theorem dX0_doWide_52 : decode cX0_doWide 52 = .ok (.getfield 172, 3) := by decide +kernel
theorem dX0_doWide_55 : decode cX0_doWide 55 = .ok (.aload_n 1, 1) := by decide +kernel
theorem dX0_doWide_56 : decode cX0_doWide 56 = .ok (.getfield 122, 3) := by decide +kernel
theorem dX0_doWide_59 : decode cX0_doWide 59 = .ok (.lload_n 2, 1) := by decide +kernel
theorem dX0_doWide_60 : decode cX0_doWide 60 = .ok (.lload 4, 2) := by decide +kernel
theorem dX0_doWide_62 : decode cX0_doWide 62 = .ok (.invokestatic 259, 3) := by decide +kernel
theorem dX0_doWide_65 : decode cX0_doWide 65 = .ok (.l2d, 1) := by decide +kernel
theorem dX0_doWide_66 : decode cX0_doWide 66 = .ok (.invokevirtual 188, 3) := by decide +kernel
theorem dX0_doWide_69 : decode cX0_doWide 69 = .ok (.ireturn, 1) := by decide +kernel
theorem dX1_init_0 : decode cX1_init 0 = .ok (.aload_n 0, 1) := by decide +kernel
theorem dX1_init_1 : decode cX1_init 1 = .ok (.invokespecial 1, 3) := by decide +kernel
theorem dX1_init_4 : decode cX1_init 4 = .ok (.aload_n 0, 1) := by decide +kernel
theorem dX1_init_5 : decode cX1_init 5 = .ok (.aload_n 1, 1) := by decide +kernel
theorem dX1_init_6 : decode cX1_init 6 = .ok (.putfield 7, 3) := by decide +kernel
theorem dX1_init_9 : decode cX1_init 9 = .ok (.aload_n 0, 1) := by decide +kernel
theorem dX1_init_10 : decode cX1_init 10 = .ok (.aload_n 2, 1) := by decide +kernel
theorem dX1_init_11 : decode cX1_init 11 = .ok (.putfield 13, 3) := by decide +kernel
theorem dX1_init_14 : decode cX1_init 14 = .ok (.aload_n 0, 1) := by decide +kernel
theorem dX1_init_15 : decode cX1_init 15 = .ok (.aload_n 1, 1) := by decide +kernel
theorem dX1_init_16 : decode cX1_init 16 = .ok (.putfield 17, 3) := by decide +kernel
theorem dX1_init_19 : decode cX1_init 19 = .ok (.return_, 1) := by decide +kernel
theorem dX1_beginPart_0 : decode cX1_beginPart 0 = .ok (.aload_n 0, 1) := by decide +kernel
theorem dX1_beginPart_1 : decode cX1_beginPart 1 = .ok (.getfield 17, 3) := by decide +kernel
theorem dX1_beginPart_4 : decode cX1_beginPart 4 = .ok (.aload_n 1, 1) := by decide +kernel
theorem dX1_beginPart_5 : decode cX1_beginPart 5 = .ok (.putfield 20, 3) := by decide +kernel
theorem dX1_beginPart_8 : decode cX1_beginPart 8 = .ok (.aload_n 0, 1) := by decide +kernel
theorem dX1_beginPart_9 : decode cX1_beginPart 9 = .ok (.aload_n 1, 1) := by decide +kernel
theorem dX1_beginPart_10 : decode cX1_beginPart 10 = .ok (.putfield 17, 3) := by decide +kernel
theorem dX1_beginPart_13 : decode cX1_beginPart 13 = .ok (.aload_n 1, 1) := by decide +kernel
theorem dX1_beginPart_14 : decode cX1_beginPart 14 = .ok (.getfield 25, 3) := by decide +kernel
theorem dX1_beginPart_17 : decode cX1_beginPart 17 = .ok (.iconst 2, 1) := by decide +kernel
theorem dX1_beginPart_18 : decode cX1_beginPart 18 = .ok (.if_icmp .ne 13, 3) := by decide +kernel
theorem dX1_beginPart_21 : decode cX1_beginPart 21 = .ok (.aload_n 0, 1) := by decide +kernel
theorem dX1_beginPart_22 : decode cX1_beginPart 22 = .ok (.dup, 1) := by decide +kernel
theorem dX1_beginPart_23 : decode cX1_beginPart 23 = .ok (.getfield 29, 3) := by decide +kernel
theorem dX1_beginPart_26 : decode cX1_beginPart 26 = .ok (.iconst 1, 1) := by decide +kernel
theorem dX1_beginPart_27 : decode cX1_beginPart 27 = .ok (.iadd, 1) := by decide +kernel
theorem dX1_beginPart_28 : decode cX1_beginPart 28 = .ok (.putfield 29, 3) := by decide +kernel
theorem dX1_beginPart_31 : decode cX1_beginPart 31 = .ok (.return_, 1) := by decide +kernel
theorem dX1_takesPart_0 : decode cX1_takesPart 0 = .ok (.aload_n 0, 1) := by decide +kernel
theorem dX1_takesPart_1 : decode cX1_takesPart 1 = .ok (.getfield 7, 3) := by decide +kernel
theorem dX1_takesPart_4 : decode cX1_takesPart 4 = .ok (.getfield 25, 3) := by decide +kernel
theorem dX1_takesPart_7 : decode cX1_takesPart 7 = .ok (.iconst 1, 1) := by decide +kernel
theorem dX1_takesPart_8 : decode cX1_takesPart 8 = .ok (.if_icmp .ne 31, 3) := by decide +kernel
theorem dX1_takesPart_11 : decode cX1_takesPart 11 = .ok (.aload_n 0, 1) := by decide +kernel
theorem dX1_takesPart_12 : decode cX1_takesPart 12 = .ok (.getfield 17, 3) := by decide +kernel
theorem dX1_takesPart_15 : decode cX1_takesPart 15 = .ok (.getfield 25, 3) := by decide +kernel
theorem dX1_takesPart_18 : decode cX1_takesPart 18 = .ok (.iconst 3, 1) := by decide +kernel
theorem dX1_takesPart_19 : decode cX1_takesPart 19 = .ok (.if_icmp .eq 20, 3) := by decide +kernel
theorem dX1_takesPart_22 : decode cX1_takesPart 22 = .ok (.iload_n 1, 1) := by decide +kernel
theorem dX1_takesPart_23 : decode cX1_takesPart 23 = .ok (.iconst 2, 1) := by decide +kernel
theorem dX1_takesPart_24 : decode cX1_takesPart 24 = .ok (.if_icmp .ne 11, 3) := by decide +kernel
theorem dX1_takesPart_27 : decode cX1_takesPart 27 = .ok (.aload_n 0, 1) := by decide +kernel
theorem dX1_takesPart_28 : decode cX1_takesPart 28 = .ok (.getfield 29, 3) := by decide +kernel
theorem dX1_takesPart_31 : decode cX1_takesPart 31 = .ok (.iconst 3, 1) := by decide +kernel
theorem dX1_takesPart_32 : decode cX1_takesPart 32 = .ok (.if_icmp .ge 7, 3) := by decide +kernel
theorem dX1_takesPart_35 : decode cX1_takesPart 35 = .ok (.iconst 1, 1) := by decide +kernel
theorem dX1_takesPart_36 : decode cX1_takesPart 36 = .ok (.goto 4, 3) := by decide +kernel
theorem dX1_takesPart_39 : decode cX1_takesPart 39 = .ok (.iconst 0, 1) := by decide +kernel
theorem dX1_takesPart_40 : decode cX1_takesPart 40 = .ok (.ireturn, 1) := by decide +kernel
theorem dX2_init_0 : decode cX2_init 0 = .ok (.aload_n 0, 1) := by decide +kernel
theorem dX2_init_1 : decode cX2_init 1 = .ok (.invokespecial 1, 3) := by decide +kernel
theorem dX2_init_4 : decode cX2_init 4 = .ok (.aload_n 0, 1) := by decide +kernel
theorem dX2_init_5 : decode cX2_init 5 = .ok (.bipush 8, 2) := by decide +kernel
theorem dX2_init_7 : decode cX2_init 7 = .ok (.newarray .double, 2) := by decide +kernel
theorem dX2_init_9 : decode cX2_init 9 = .ok (.putfield 9, 3) := by decide +kernel
theorem dX2_init_12 : decode cX2_init 12 = .ok (.return_, 1) := by decide +kernel
theorem dX2_at_0 : decode cX2_at 0 = .ok (.iload_n 1, 1) := by decide +kernel
theorem dX2_at_1 : decode cX2_at 1 = .ok (.ifCond .lt 18, 3) := by decide +kernel
theorem dX2_at_4 : decode cX2_at 4 = .ok (.iload_n 1, 1) := by decide +kernel
theorem dX2_at_5 : decode cX2_at 5 = .ok (.bipush 8, 2) := by decide +kernel
theorem dX2_at_7 : decode cX2_at 7 = .ok (.if_icmp .ge 12, 3) := by decide +kernel
theorem dX2_at_10 : decode cX2_at 10 = .ok (.aload_n 0, 1) := by decide +kernel
theorem dX2_at_11 : decode cX2_at 11 = .ok (.getfield 9, 3) := by decide +kernel
theorem dX2_at_14 : decode cX2_at 14 = .ok (.iload_n 1, 1) := by decide +kernel
theorem dX2_at_15 : decode cX2_at 15 = .ok (.daload, 1) := by decide +kernel
theorem dX2_at_16 : decode cX2_at 16 = .ok (.goto 4, 3) := by decide +kernel
theorem dX2_at_19 : decode cX2_at 19 = .ok (.dconst 0, 1) := by decide +kernel
theorem dX2_at_20 : decode cX2_at 20 = .ok (.dreturn, 1) := by decide +kernel
theorem dX2_wholeAt_0 : decode cX2_wholeAt 0 = .ok (.aload_n 0, 1) := by decide +kernel
theorem dX2_wholeAt_1 : decode cX2_wholeAt 1 = .ok (.iload_n 1, 1) := by decide +kernel
theorem dX2_wholeAt_2 : decode cX2_wholeAt 2 = .ok (.invokevirtual 13, 3) := by decide +kernel
theorem dX2_wholeAt_5 : decode cX2_wholeAt 5 = .ok (.d2i, 1) := by decide +kernel
theorem dX2_wholeAt_6 : decode cX2_wholeAt 6 = .ok (.ireturn, 1) := by decide +kernel
theorem dX2_turn_0 : decode cX2_turn 0 = .ok (.dload_n 2, 1) := by decide +kernel
theorem dX2_turn_1 : decode cX2_turn 1 = .ok (.ldc2_w 17, 3) := by decide +kernel
theorem dX2_turn_4 : decode cX2_turn 4 = .ok (.dcmp .l, 1) := by decide +kernel
theorem dX2_turn_5 : decode cX2_turn 5 = .ok (.ifCond .gt 11, 3) := by decide +kernel
theorem dX2_turn_8 : decode cX2_turn 8 = .ok (.dload_n 2, 1) := by decide +kernel
theorem dX2_turn_9 : decode cX2_turn 9 = .ok (.ldc2_w 19, 3) := by decide +kernel
theorem dX2_turn_12 : decode cX2_turn 12 = .ok (.dcmp .g, 1) := by decide +kernel
theorem dX2_turn_13 : decode cX2_turn 13 = .ok (.ifCond .ge 6, 3) := by decide +kernel
theorem dX2_turn_16 : decode cX2_turn 16 = .ok (.bipush 8, 2) := by decide +kernel
theorem dX2_turn_18 : decode cX2_turn 18 = .ok (.ireturn, 1) := by decide +kernel
theorem dX2_turn_19 : decode cX2_turn 19 = .ok (.iload_n 1, 1) := by decide +kernel
theorem dX2_turn_20 : decode cX2_turn 20 = .ok (.ifCond .lt 16, 3) := by decide +kernel
theorem dX2_turn_23 : decode cX2_turn 23 = .ok (.iload_n 1, 1) := by decide +kernel
theorem dX2_turn_24 : decode cX2_turn 24 = .ok (.bipush 8, 2) := by decide +kernel
theorem dX2_turn_26 : decode cX2_turn 26 = .ok (.if_icmp .ge 10, 3) := by decide +kernel
theorem dX2_turn_29 : decode cX2_turn 29 = .ok (.aload_n 0, 1) := by decide +kernel
theorem dX2_turn_30 : decode cX2_turn 30 = .ok (.getfield 9, 3) := by decide +kernel
theorem dX2_turn_33 : decode cX2_turn 33 = .ok (.iload_n 1, 1) := by decide +kernel
theorem dX2_turn_34 : decode cX2_turn 34 = .ok (.dload_n 2, 1) := by decide +kernel
theorem dX2_turn_35 : decode cX2_turn 35 = .ok (.dastore, 1) := by decide +kernel
theorem dX2_turn_36 : decode cX2_turn 36 = .ok (.iconst 0, 1) := by decide +kernel
theorem dX2_turn_37 : decode cX2_turn 37 = .ok (.ireturn, 1) := by decide +kernel
theorem dX3_init_0 : decode cX3_init 0 = .ok (.aload_n 0, 1) := by decide +kernel
theorem dX3_init_1 : decode cX3_init 1 = .ok (.invokespecial 1, 3) := by decide +kernel
theorem dX3_init_4 : decode cX3_init 4 = .ok (.aload_n 0, 1) := by decide +kernel
theorem dX3_init_5 : decode cX3_init 5 = .ok (.iload_n 1, 1) := by decide +kernel
theorem dX3_init_6 : decode cX3_init 6 = .ok (.putfield 7, 3) := by decide +kernel
theorem dX3_init_9 : decode cX3_init 9 = .ok (.aload_n 0, 1) := by decide +kernel
theorem dX3_init_10 : decode cX3_init 10 = .ok (.iload_n 2, 1) := by decide +kernel
theorem dX3_init_11 : decode cX3_init 11 = .ok (.putfield 13, 3) := by decide +kernel
theorem dX3_init_14 : decode cX3_init 14 = .ok (.aload_n 0, 1) := by decide +kernel
theorem dX3_init_15 : decode cX3_init 15 = .ok (.iload_n 3, 1) := by decide +kernel
theorem dX3_init_16 : decode cX3_init 16 = .ok (.putfield 16, 3) := by decide +kernel
theorem dX3_init_19 : decode cX3_init 19 = .ok (.aload_n 0, 1) := by decide +kernel
theorem dX3_init_20 : decode cX3_init 20 = .ok (.aload 4, 2) := by decide +kernel
theorem dX3_init_22 : decode cX3_init 22 = .ok (.ifnonnull 7, 3) := by decide +kernel
theorem dX3_init_25 : decode cX3_init 25 = .ok (.iconst 0, 1) := by decide +kernel
theorem dX3_init_26 : decode cX3_init 26 = .ok (.goto 10, 3) := by decide +kernel
end
section
theorem dX3_init_29 : decode cX3_init 29 = .ok (.aload 4, 2) := by decide +kernel
theorem dX3_init_31 : decode cX3_init 31 = .ok (.getfield 19, 3) := by decide +kernel
theorem dX3_init_34 : decode cX3_init 34 = .ok (.iconst 1, 1) := by decide +kernel
theorem dX3_init_35 : decode cX3_init 35 = .ok (.iadd, 1) := by decide +kernel
theorem dX3_init_36 : decode cX3_init 36 = .ok (.putfield 19, 3) := by decide +kernel
theorem dX3_init_39 : decode cX3_init 39 = .ok (.aload_n 0, 1) := by decide +kernel
theorem dX3_init_40 : decode cX3_init 40 = .ok (.aload 4, 2) := by decide +kernel
theorem dX3_init_42 : decode cX3_init 42 = .ok (.ifnonnull 7, 3) := by decide +kernel
theorem dX3_init_45 : decode cX3_init 45 = .ok (.iload_n 2, 1) := by decide +kernel
theorem dX3_init_46 : decode cX3_init 46 = .ok (.goto 8, 3) := by decide +kernel
theorem dX3_init_49 : decode cX3_init 49 = .ok (.aload 4, 2) := by decide +kernel
theorem dX3_init_51 : decode cX3_init 51 = .ok (.getfield 22, 3) := by decide +kernel
theorem dX3_init_54 : decode cX3_init 54 = .ok (.putfield 22, 3) := by decide +kernel
theorem dX3_init_57 : decode cX3_init 57 = .ok (.aload_n 0, 1) := by decide +kernel
theorem dX3_init_58 : decode cX3_init 58 = .ok (.iload_n 1, 1) := by decide +kernel
theorem dX3_init_59 : decode cX3_init 59 = .ok (.iload_n 3, 1) := by decide +kernel
theorem dX3_init_60 : decode cX3_init 60 = .ok (.aload 4, 2) := by decide +kernel
theorem dX3_init_62 : decode cX3_init 62 = .ok (.ifnonnull 7, 3) := by decide +kernel
theorem dX3_init_65 : decode cX3_init 65 = .ok (.iconst 1, 1) := by decide +kernel
theorem dX3_init_66 : decode cX3_init 66 = .ok (.goto 10, 3) := by decide +kernel
theorem dX3_init_69 : decode cX3_init 69 = .ok (.iconst 1, 1) := by decide +kernel
theorem dX3_init_70 : decode cX3_init 70 = .ok (.aload 4, 2) := by decide +kernel
theorem dX3_init_72 : decode cX3_init 72 = .ok (.getfield 25, 3) := by decide +kernel
theorem dX3_init_75 : decode cX3_init 75 = .ok (.iadd, 1) := by decide +kernel
theorem dX3_init_76 : decode cX3_init 76 = .ok (.invokestatic 28, 3) := by decide +kernel
theorem dX3_init_79 : decode cX3_init 79 = .ok (.putfield 25, 3) := by decide +kernel
theorem dX3_init_82 : decode cX3_init 82 = .ok (.return_, 1) := by decide +kernel
theorem dX3_weightOf_0 : decode cX3_weightOf 0 = .ok (.iload_n 0, 1) := by decide +kernel
theorem dX3_weightOf_1 : decode cX3_weightOf 1 = .ok (.tableswitch 80 3 11 #[51, 80, 56, 80, 60, 65, 70, 80, 74], 51) := by decide +kernel
theorem dX3_weightOf_52 : decode cX3_weightOf 52 = .ok (.iload_n 2, 1) := by decide +kernel
theorem dX3_weightOf_53 : decode cX3_weightOf 53 = .ok (.bipush 10, 2) := by decide +kernel
theorem dX3_weightOf_55 : decode cX3_weightOf 55 = .ok (.iadd, 1) := by decide +kernel
theorem dX3_weightOf_56 : decode cX3_weightOf 56 = .ok (.ireturn, 1) := by decide +kernel
theorem dX3_weightOf_57 : decode cX3_weightOf 57 = .ok (.iconst 3, 1) := by decide +kernel
theorem dX3_weightOf_58 : decode cX3_weightOf 58 = .ok (.iload_n 2, 1) := by decide +kernel
theorem dX3_weightOf_59 : decode cX3_weightOf 59 = .ok (.imul, 1) := by decide +kernel
theorem dX3_weightOf_60 : decode cX3_weightOf 60 = .ok (.ireturn, 1) := by decide +kernel
theorem dX3_weightOf_61 : decode cX3_weightOf 61 = .ok (.iload_n 2, 1) := by decide +kernel
theorem dX3_weightOf_62 : decode cX3_weightOf 62 = .ok (.bipush 100, 2) := by decide +kernel
theorem dX3_weightOf_64 : decode cX3_weightOf 64 = .ok (.iadd, 1) := by decide +kernel
theorem dX3_weightOf_65 : decode cX3_weightOf 65 = .ok (.ireturn, 1) := by decide +kernel
theorem dX3_weightOf_66 : decode cX3_weightOf 66 = .ok (.iload_n 2, 1) := by decide +kernel
theorem dX3_weightOf_67 : decode cX3_weightOf 67 = .ok (.bipush 105, 2) := by decide +kernel
theorem dX3_weightOf_69 : decode cX3_weightOf 69 = .ok (.iadd, 1) := by decide +kernel
theorem dX3_weightOf_70 : decode cX3_weightOf 70 = .ok (.ireturn, 1) := by decide +kernel
theorem dX3_weightOf_71 : decode cX3_weightOf 71 = .ok (.iload_n 2, 1) := by decide +kernel
theorem dX3_weightOf_72 : decode cX3_weightOf 72 = .ok (.iload_n 1, 1) := by decide +kernel
theorem dX3_weightOf_73 : decode cX3_weightOf 73 = .ok (.iadd, 1) := by decide +kernel
theorem dX3_weightOf_74 : decode cX3_weightOf 74 = .ok (.ireturn, 1) := by decide +kernel
theorem dX3_weightOf_75 : decode cX3_weightOf 75 = .ok (.iconst 2, 1) := by decide +kernel
theorem dX3_weightOf_76 : decode cX3_weightOf 76 = .ok (.iload_n 2, 1) := by decide +kernel
theorem dX3_weightOf_77 : decode cX3_weightOf 77 = .ok (.iload_n 1, 1) := by decide +kernel
theorem dX3_weightOf_78 : decode cX3_weightOf 78 = .ok (.iadd, 1) := by decide +kernel
theorem dX3_weightOf_79 : decode cX3_weightOf 79 = .ok (.imul, 1) := by decide +kernel
theorem dX3_weightOf_80 : decode cX3_weightOf 80 = .ok (.ireturn, 1) := by decide +kernel
theorem dX3_weightOf_81 : decode cX3_weightOf 81 = .ok (.iload_n 2, 1) := by decide +kernel
theorem dX3_weightOf_82 : decode cX3_weightOf 82 = .ok (.ireturn, 1) := by decide +kernel
theorem dX3_isUnder_0 : decode cX3_isUnder 0 = .ok (.iload_n 0, 1) := by decide +kernel
theorem dX3_isUnder_1 : decode cX3_isUnder 1 = .ok (.istore_n 2, 1) := by decide +kernel
theorem dX3_isUnder_2 : decode cX3_isUnder 2 = .ok (.iconst 0, 1) := by decide +kernel
theorem dX3_isUnder_3 : decode cX3_isUnder 3 = .ok (.istore_n 3, 1) := by decide +kernel
theorem dX3_isUnder_4 : decode cX3_isUnder 4 = .ok (.iload_n 3, 1) := by decide +kernel
theorem dX3_isUnder_5 : decode cX3_isUnder 5 = .ok (.getstatic 32, 3) := by decide +kernel
theorem dX3_isUnder_8 : decode cX3_isUnder 8 = .ok (.arraylength, 1) := by decide +kernel
theorem dX3_isUnder_9 : decode cX3_isUnder 9 = .ok (.if_icmp .ge 34, 3) := by decide +kernel
theorem dX3_isUnder_12 : decode cX3_isUnder 12 = .ok (.iload_n 2, 1) := by decide +kernel
theorem dX3_isUnder_13 : decode cX3_isUnder 13 = .ok (.ifCond .le 30, 3) := by decide +kernel
theorem dX3_isUnder_16 : decode cX3_isUnder 16 = .ok (.iload_n 2, 1) := by decide +kernel
theorem dX3_isUnder_17 : decode cX3_isUnder 17 = .ok (.getstatic 32, 3) := by decide +kernel
theorem dX3_isUnder_20 : decode cX3_isUnder 20 = .ok (.arraylength, 1) := by decide +kernel
theorem dX3_isUnder_21 : decode cX3_isUnder 21 = .ok (.if_icmp .ge 22, 3) := by decide +kernel
theorem dX3_isUnder_24 : decode cX3_isUnder 24 = .ok (.iload_n 2, 1) := by decide +kernel
theorem dX3_isUnder_25 : decode cX3_isUnder 25 = .ok (.iload_n 1, 1) := by decide +kernel
theorem dX3_isUnder_26 : decode cX3_isUnder 26 = .ok (.if_icmp .ne 5, 3) := by decide +kernel
theorem dX3_isUnder_29 : decode cX3_isUnder 29 = .ok (.iconst 1, 1) := by decide +kernel
theorem dX3_isUnder_30 : decode cX3_isUnder 30 = .ok (.ireturn, 1) := by decide +kernel
theorem dX3_isUnder_31 : decode cX3_isUnder 31 = .ok (.getstatic 32, 3) := by decide +kernel
theorem dX3_isUnder_34 : decode cX3_isUnder 34 = .ok (.iload_n 2, 1) := by decide +kernel
theorem dX3_isUnder_35 : decode cX3_isUnder 35 = .ok (.iaload, 1) := by decide +kernel
theorem dX3_isUnder_36 : decode cX3_isUnder 36 = .ok (.istore_n 2, 1) := by decide +kernel
theorem dX3_isUnder_37 : decode cX3_isUnder 37 = .ok (.iinc 3 1, 3) := by decide +kernel
theorem dX3_isUnder_40 : decode cX3_isUnder 40 = .ok (.goto (-36), 3) := by decide +kernel
theorem dX3_isUnder_43 : decode cX3_isUnder 43 = .ok (.iconst 0, 1) := by decide +kernel
theorem dX3_isUnder_44 : decode cX3_isUnder 44 = .ok (.ireturn, 1) := by decide +kernel
theorem dX4_init_0 : decode cX4_init 0 = .ok (.aload_n 0, 1) := by decide +kernel
theorem dX4_init_1 : decode cX4_init 1 = .ok (.invokespecial 3, 3) := by decide +kernel
theorem dX4_init_4 : decode cX4_init 4 = .ok (.aload_n 0, 1) := by decide +kernel
theorem dX4_init_5 : decode cX4_init 5 = .ok (.sipush 800, 3) := by decide +kernel
theorem dX4_init_8 : decode cX4_init 8 = .ok (.newarray .double, 2) := by decide +kernel
theorem dX4_init_10 : decode cX4_init 10 = .ok (.putfield 11, 3) := by decide +kernel
theorem dX4_init_13 : decode cX4_init 13 = .ok (.return_, 1) := by decide +kernel
theorem dX4_empty_0 : decode cX4_empty 0 = .ok (.aload_n 0, 1) := by decide +kernel
theorem dX4_empty_1 : decode cX4_empty 1 = .ok (.iconst 0, 1) := by decide +kernel
theorem dX4_empty_2 : decode cX4_empty 2 = .ok (.putfield 15, 3) := by decide +kernel
theorem dX4_empty_5 : decode cX4_empty 5 = .ok (.return_, 1) := by decide +kernel
theorem dX4_append_0 : decode cX4_append 0 = .ok (.aload_n 0, 1) := by decide +kernel
theorem dX4_append_1 : decode cX4_append 1 = .ok (.getfield 15, 3) := by decide +kernel
theorem dX4_append_4 : decode cX4_append 4 = .ok (.ifCond .lt 33, 3) := by decide +kernel
theorem dX4_append_7 : decode cX4_append 7 = .ok (.aload_n 0, 1) := by decide +kernel
theorem dX4_append_8 : decode cX4_append 8 = .ok (.getfield 15, 3) := by decide +kernel
theorem dX4_append_11 : decode cX4_append 11 = .ok (.sipush 800, 3) := by decide +kernel
theorem dX4_append_14 : decode cX4_append 14 = .ok (.if_icmp .ge 23, 3) := by decide +kernel
theorem dX4_append_17 : decode cX4_append 17 = .ok (.aload_n 0, 1) := by decide +kernel
theorem dX4_append_18 : decode cX4_append 18 = .ok (.getfield 11, 3) := by decide +kernel
theorem dX4_append_21 : decode cX4_append 21 = .ok (.aload_n 0, 1) := by decide +kernel
theorem dX4_append_22 : decode cX4_append 22 = .ok (.getfield 15, 3) := by decide +kernel
theorem dX4_append_25 : decode cX4_append 25 = .ok (.dload_n 1, 1) := by decide +kernel
theorem dX4_append_26 : decode cX4_append 26 = .ok (.dastore, 1) := by decide +kernel
theorem dX4_append_27 : decode cX4_append 27 = .ok (.aload_n 0, 1) := by decide +kernel
theorem dX4_append_28 : decode cX4_append 28 = .ok (.dup, 1) := by decide +kernel
theorem dX4_append_29 : decode cX4_append 29 = .ok (.getfield 15, 3) := by decide +kernel
theorem dX4_append_32 : decode cX4_append 32 = .ok (.iconst 1, 1) := by decide +kernel
theorem dX4_append_33 : decode cX4_append 33 = .ok (.iadd, 1) := by decide +kernel
theorem dX4_append_34 : decode cX4_append 34 = .ok (.putfield 15, 3) := by decide +kernel
theorem dX4_append_37 : decode cX4_append 37 = .ok (.return_, 1) := by decide +kernel
theorem dX4_at_0 : decode cX4_at 0 = .ok (.iload_n 1, 1) := by decide +kernel
theorem dX4_at_1 : decode cX4_at 1 = .ok (.ifCond .lt 27, 3) := by decide +kernel
theorem dX4_at_4 : decode cX4_at 4 = .ok (.iload_n 1, 1) := by decide +kernel
theorem dX4_at_5 : decode cX4_at 5 = .ok (.aload_n 0, 1) := by decide +kernel
theorem dX4_at_6 : decode cX4_at 6 = .ok (.getfield 15, 3) := by decide +kernel
theorem dX4_at_9 : decode cX4_at 9 = .ok (.if_icmp .ge 19, 3) := by decide +kernel
theorem dX4_at_12 : decode cX4_at 12 = .ok (.iload_n 1, 1) := by decide +kernel
theorem dX4_at_13 : decode cX4_at 13 = .ok (.sipush 800, 3) := by decide +kernel
theorem dX4_at_16 : decode cX4_at 16 = .ok (.if_icmp .ge 12, 3) := by decide +kernel
theorem dX4_at_19 : decode cX4_at 19 = .ok (.aload_n 0, 1) := by decide +kernel
theorem dX4_at_20 : decode cX4_at 20 = .ok (.getfield 11, 3) := by decide +kernel
theorem dX4_at_23 : decode cX4_at 23 = .ok (.iload_n 1, 1) := by decide +kernel
theorem dX4_at_24 : decode cX4_at 24 = .ok (.daload, 1) := by decide +kernel
theorem dX4_at_25 : decode cX4_at 25 = .ok (.goto 4, 3) := by decide +kernel
theorem dX4_at_28 : decode cX4_at 28 = .ok (.dconst 0, 1) := by decide +kernel
theorem dX4_at_29 : decode cX4_at 29 = .ok (.dreturn, 1) := by decide +kernel
theorem dX5_init_0 : decode cX5_init 0 = .ok (.aload_n 0, 1) := by decide +kernel
theorem dX5_init_1 : decode cX5_init 1 = .ok (.invokespecial 1, 3) := by decide +kernel
theorem dX5_init_4 : decode cX5_init 4 = .ok (.aload_n 0, 1) := by decide +kernel
theorem dX5_init_5 : decode cX5_init 5 = .ok (.iload_n 1, 1) := by decide +kernel
theorem dX5_init_6 : decode cX5_init 6 = .ok (.putfield 7, 3) := by decide +kernel
theorem dX5_init_9 : decode cX5_init 9 = .ok (.aload_n 0, 1) := by decide +kernel
theorem dX5_init_10 : decode cX5_init 10 = .ok (.bipush 40, 2) := by decide +kernel
theorem dX5_init_12 : decode cX5_init 12 = .ok (.anewarray 13, 3) := by decide +kernel
theorem dX5_init_15 : decode cX5_init 15 = .ok (.putfield 15, 3) := by decide +kernel
theorem dX5_init_18 : decode cX5_init 18 = .ok (.return_, 1) := by decide +kernel
theorem dX5_stepAt_0 : decode cX5_stepAt 0 = .ok (.iload_n 1, 1) := by decide +kernel
theorem dX5_stepAt_1 : decode cX5_stepAt 1 = .ok (.ifCond .lt 26, 3) := by decide +kernel
theorem dX5_stepAt_4 : decode cX5_stepAt 4 = .ok (.iload_n 1, 1) := by decide +kernel
theorem dX5_stepAt_5 : decode cX5_stepAt 5 = .ok (.aload_n 0, 1) := by decide +kernel
theorem dX5_stepAt_6 : decode cX5_stepAt 6 = .ok (.getfield 19, 3) := by decide +kernel
theorem dX5_stepAt_9 : decode cX5_stepAt 9 = .ok (.if_icmp .ge 18, 3) := by decide +kernel
theorem dX5_stepAt_12 : decode cX5_stepAt 12 = .ok (.iload_n 1, 1) := by decide +kernel
theorem dX5_stepAt_13 : decode cX5_stepAt 13 = .ok (.bipush 40, 2) := by decide +kernel
theorem dX5_stepAt_15 : decode cX5_stepAt 15 = .ok (.if_icmp .ge 12, 3) := by decide +kernel
theorem dX5_stepAt_18 : decode cX5_stepAt 18 = .ok (.aload_n 0, 1) := by decide +kernel
theorem dX5_stepAt_19 : decode cX5_stepAt 19 = .ok (.getfield 15, 3) := by decide +kernel
theorem dX5_stepAt_22 : decode cX5_stepAt 22 = .ok (.iload_n 1, 1) := by decide +kernel
theorem dX5_stepAt_23 : decode cX5_stepAt 23 = .ok (.aaload, 1) := by decide +kernel
theorem dX5_stepAt_24 : decode cX5_stepAt 24 = .ok (.goto 4, 3) := by decide +kernel
theorem dX5_stepAt_27 : decode cX5_stepAt 27 = .ok (.aconst_null, 1) := by decide +kernel
theorem dX5_stepAt_28 : decode cX5_stepAt 28 = .ok (.areturn, 1) := by decide +kernel
theorem dX5_forget_0 : decode cX5_forget 0 = .ok (.aload_n 0, 1) := by decide +kernel
theorem dX5_forget_1 : decode cX5_forget 1 = .ok (.getfield 19, 3) := by decide +kernel
theorem dX5_forget_4 : decode cX5_forget 4 = .ok (.istore_n 1, 1) := by decide +kernel
theorem dX5_forget_5 : decode cX5_forget 5 = .ok (.aload_n 0, 1) := by decide +kernel
theorem dX5_forget_6 : decode cX5_forget 6 = .ok (.iconst 0, 1) := by decide +kernel
theorem dX5_forget_7 : decode cX5_forget 7 = .ok (.putfield 19, 3) := by decide +kernel
theorem dX5_forget_10 : decode cX5_forget 10 = .ok (.aload_n 0, 1) := by decide +kernel
theorem dX5_forget_11 : decode cX5_forget 11 = .ok (.iconst 0, 1) := by decide +kernel
theorem dX5_forget_12 : decode cX5_forget 12 = .ok (.putfield 22, 3) := by decide +kernel
theorem dX5_forget_15 : decode cX5_forget 15 = .ok (.aload_n 0, 1) := by decide +kernel
theorem dX5_forget_16 : decode cX5_forget 16 = .ok (.aconst_null, 1) := by decide +kernel
theorem dX5_forget_17 : decode cX5_forget 17 = .ok (.putfield 25, 3) := by decide +kernel
theorem dX5_forget_20 : decode cX5_forget 20 = .ok (.iload_n 1, 1) := by decide +kernel
theorem dX5_forget_21 : decode cX5_forget 21 = .ok (.ireturn, 1) := by decide +kernel
theorem dX5_append_0 : decode cX5_append 0 = .ok (.aload_n 0, 1) := by decide +kernel
theorem dX5_append_1 : decode cX5_append 1 = .ok (.iload_n 1, 1) := by decide +kernel
theorem dX5_append_2 : decode cX5_append 2 = .ok (.invokevirtual 29, 3) := by decide +kernel
theorem dX5_append_5 : decode cX5_append 5 = .ok (.ifCond .ne 6, 3) := by decide +kernel
theorem dX5_append_8 : decode cX5_append 8 = .ok (.bipush (-2), 2) := by decide +kernel
theorem dX5_append_10 : decode cX5_append 10 = .ok (.ireturn, 1) := by decide +kernel
theorem dX5_append_11 : decode cX5_append 11 = .ok (.aload_n 0, 1) := by decide +kernel
theorem dX5_append_12 : decode cX5_append 12 = .ok (.getfield 19, 3) := by decide +kernel
theorem dX5_append_15 : decode cX5_append 15 = .ok (.ifCond .lt 12, 3) := by decide +kernel
theorem dX5_append_18 : decode cX5_append 18 = .ok (.aload_n 0, 1) := by decide +kernel
theorem dX5_append_19 : decode cX5_append 19 = .ok (.getfield 19, 3) := by decide +kernel
theorem dX5_append_22 : decode cX5_append 22 = .ok (.bipush 40, 2) := by decide +kernel
theorem dX5_append_24 : decode cX5_append 24 = .ok (.if_icmp .lt 6, 3) := by decide +kernel
theorem dX5_append_27 : decode cX5_append 27 = .ok (.bipush (-3), 2) := by decide +kernel
theorem dX5_append_29 : decode cX5_append 29 = .ok (.ireturn, 1) := by decide +kernel
theorem dX5_append_30 : decode cX5_append 30 = .ok (.new 13, 3) := by decide +kernel
theorem dX5_append_33 : decode cX5_append 33 = .ok (.dup, 1) := by decide +kernel
theorem dX5_append_34 : decode cX5_append 34 = .ok (.iload_n 1, 1) := by decide +kernel
theorem dX5_append_35 : decode cX5_append 35 = .ok (.iload_n 2, 1) := by decide +kernel
theorem dX5_append_36 : decode cX5_append 36 = .ok (.iload_n 3, 1) := by decide +kernel
theorem dX5_append_37 : decode cX5_append 37 = .ok (.iload 4, 2) := by decide +kernel
theorem dX5_append_39 : decode cX5_append 39 = .ok (.aload_n 0, 1) := by decide +kernel
theorem dX5_append_40 : decode cX5_append 40 = .ok (.getfield 19, 3) := by decide +kernel
theorem dX5_append_43 : decode cX5_append 43 = .ok (.bipush 40, 2) := by decide +kernel
theorem dX5_append_45 : decode cX5_append 45 = .ok (.aload_n 0, 1) := by decide +kernel
theorem dX5_append_46 : decode cX5_append 46 = .ok (.getfield 7, 3) := by decide +kernel
theorem dX5_append_49 : decode cX5_append 49 = .ok (.imul, 1) := by decide +kernel
theorem dX5_append_50 : decode cX5_append 50 = .ok (.aload_n 0, 1) := by decide +kernel
theorem dX5_append_51 : decode cX5_append 51 = .ok (.getfield 19, 3) := by decide +kernel
theorem dX5_append_54 : decode cX5_append 54 = .ok (.iadd, 1) := by decide +kernel
theorem dX5_append_55 : decode cX5_append 55 = .ok (.invokespecial 33, 3) := by decide +kernel
theorem dX5_append_58 : decode cX5_append 58 = .ok (.astore 5, 2) := by decide +kernel
theorem dX5_append_60 : decode cX5_append 60 = .ok (.aload_n 0, 1) := by decide +kernel
theorem dX5_append_61 : decode cX5_append 61 = .ok (.getfield 15, 3) := by decide +kernel
theorem dX5_append_64 : decode cX5_append 64 = .ok (.aload_n 0, 1) := by decide +kernel
theorem dX5_append_65 : decode cX5_append 65 = .ok (.getfield 19, 3) := by decide +kernel
theorem dX5_append_68 : decode cX5_append 68 = .ok (.aload 5, 2) := by decide +kernel
theorem dX5_append_70 : decode cX5_append 70 = .ok (.aastore, 1) := by decide +kernel
theorem dX5_append_71 : decode cX5_append 71 = .ok (.aload_n 0, 1) := by decide +kernel
theorem dX5_append_72 : decode cX5_append 72 = .ok (.dup, 1) := by decide +kernel
theorem dX5_append_73 : decode cX5_append 73 = .ok (.getfield 19, 3) := by decide +kernel
theorem dX5_append_76 : decode cX5_append 76 = .ok (.iconst 1, 1) := by decide +kernel
theorem dX5_append_77 : decode cX5_append 77 = .ok (.iadd, 1) := by decide +kernel
theorem dX5_append_78 : decode cX5_append 78 = .ok (.putfield 19, 3) := by decide +kernel
theorem dX5_append_81 : decode cX5_append 81 = .ok (.aload_n 0, 1) := by decide +kernel
theorem dX5_append_82 : decode cX5_append 82 = .ok (.aload 5, 2) := by decide +kernel
theorem dX5_append_84 : decode cX5_append 84 = .ok (.invokevirtual 36, 3) := by decide +kernel
theorem dX5_append_87 : decode cX5_append 87 = .ok (.aload_n 0, 1) := by decide +kernel
theorem dX5_append_88 : decode cX5_append 88 = .ok (.getfield 19, 3) := by decide +kernel
theorem dX5_append_91 : decode cX5_append 91 = .ok (.ireturn, 1) := by decide +kernel
theorem dX5_mayStandHere_0 : decode cX5_mayStandHere 0 = .ok (.iload_n 1, 1) := by decide +kernel
theorem dX5_mayStandHere_1 : decode cX5_mayStandHere 1 = .ok (.tableswitch 140 0 11 #[63, 125, 76, 76, 125, 100, 105, 140, 119, 119, 119, 125], 63) := by decide +kernel
theorem dX5_mayStandHere_64 : decode cX5_mayStandHere 64 = .ok (.aload_n 0, 1) := by decide +kernel
theorem dX5_mayStandHere_65 : decode cX5_mayStandHere 65 = .ok (.getfield 25, 3) := by decide +kernel
theorem dX5_mayStandHere_68 : decode cX5_mayStandHere 68 = .ok (.ifnull 7, 3) := by decide +kernel
theorem dX5_mayStandHere_71 : decode cX5_mayStandHere 71 = .ok (.iconst 1, 1) := by decide +kernel
theorem dX5_mayStandHere_72 : decode cX5_mayStandHere 72 = .ok (.goto 4, 3) := by decide +kernel
theorem dX5_mayStandHere_75 : decode cX5_mayStandHere 75 = .ok (.iconst 0, 1) := by decide +kernel
theorem dX5_mayStandHere_76 : decode cX5_mayStandHere 76 = .ok (.ireturn, 1) := by decide +kernel
theorem dX5_mayStandHere_77 : decode cX5_mayStandHere 77 = .ok (.aload_n 0, 1) := by decide +kernel
theorem dX5_mayStandHere_78 : decode cX5_mayStandHere 78 = .ok (.getfield 25, 3) := by decide +kernel
theorem dX5_mayStandHere_81 : decode cX5_mayStandHere 81 = .ok (.ifnull 18, 3) := by decide +kernel
theorem dX5_mayStandHere_84 : decode cX5_mayStandHere 84 = .ok (.aload_n 0, 1) := by decide +kernel
theorem dX5_mayStandHere_85 : decode cX5_mayStandHere 85 = .ok (.getfield 25, 3) := by decide +kernel
theorem dX5_mayStandHere_88 : decode cX5_mayStandHere 88 = .ok (.iload_n 1, 1) := by decide +kernel
theorem dX5_mayStandHere_89 : decode cX5_mayStandHere 89 = .ok (.invokevirtual 40, 3) := by decide +kernel
theorem dX5_mayStandHere_92 : decode cX5_mayStandHere 92 = .ok (.ifCond .eq 7, 3) := by decide +kernel
theorem dX5_mayStandHere_95 : decode cX5_mayStandHere 95 = .ok (.iconst 1, 1) := by decide +kernel
theorem dX5_mayStandHere_96 : decode cX5_mayStandHere 96 = .ok (.goto 4, 3) := by decide +kernel
theorem dX5_mayStandHere_99 : decode cX5_mayStandHere 99 = .ok (.iconst 0, 1) := by decide +kernel
theorem dX5_mayStandHere_100 : decode cX5_mayStandHere 100 = .ok (.ireturn, 1) := by decide +kernel
theorem dX5_mayStandHere_101 : decode cX5_mayStandHere 101 = .ok (.aload_n 0, 1) := by decide +kernel
theorem dX5_mayStandHere_102 : decode cX5_mayStandHere 102 = .ok (.invokevirtual 45, 3) := by decide +kernel
theorem dX5_mayStandHere_105 : decode cX5_mayStandHere 105 = .ok (.ireturn, 1) := by decide +kernel
theorem dX5_mayStandHere_106 : decode cX5_mayStandHere 106 = .ok (.aload_n 0, 1) := by decide +kernel
theorem dX5_mayStandHere_107 : decode cX5_mayStandHere 107 = .ok (.iconst 3, 1) := by decide +kernel
theorem dX5_mayStandHere_108 : decode cX5_mayStandHere 108 = .ok (.invokevirtual 49, 3) := by decide +kernel
theorem dX5_mayStandHere_111 : decode cX5_mayStandHere 111 = .ok (.ifCond .ne 7, 3) := by decide +kernel
theorem dX5_mayStandHere_114 : decode cX5_mayStandHere 114 = .ok (.iconst 1, 1) := by decide +kernel
theorem dX5_mayStandHere_115 : decode cX5_mayStandHere 115 = .ok (.goto 4, 3) := by decide +kernel
theorem dX5_mayStandHere_118 : decode cX5_mayStandHere 118 = .ok (.iconst 0, 1) := by decide +kernel
theorem dX5_mayStandHere_119 : decode cX5_mayStandHere 119 = .ok (.ireturn, 1) := by decide +kernel
theorem dX5_mayStandHere_120 : decode cX5_mayStandHere 120 = .ok (.aload_n 0, 1) := by decide +kernel
theorem dX5_mayStandHere_121 : decode cX5_mayStandHere 121 = .ok (.iconst 2, 1) := by decide +kernel
theorem dX5_mayStandHere_122 : decode cX5_mayStandHere 122 = .ok (.invokevirtual 49, 3) := by decide +kernel
theorem dX5_mayStandHere_125 : decode cX5_mayStandHere 125 = .ok (.ireturn, 1) := by decide +kernel
theorem dX5_mayStandHere_126 : decode cX5_mayStandHere 126 = .ok (.aload_n 0, 1) := by decide +kernel
theorem dX5_mayStandHere_127 : decode cX5_mayStandHere 127 = .ok (.getfield 22, 3) := by decide +kernel
theorem dX5_mayStandHere_130 : decode cX5_mayStandHere 130 = .ok (.bipush 6, 2) := by decide +kernel
theorem dX5_mayStandHere_132 : decode cX5_mayStandHere 132 = .ok (.if_icmp .ge 7, 3) := by decide +kernel
theorem dX5_mayStandHere_135 : decode cX5_mayStandHere 135 = .ok (.iconst 1, 1) := by decide +kernel
theorem dX5_mayStandHere_136 : decode cX5_mayStandHere 136 = .ok (.goto 4, 3) := by decide +kernel
theorem dX5_mayStandHere_139 : decode cX5_mayStandHere 139 = .ok (.iconst 0, 1) := by decide +kernel
theorem dX5_mayStandHere_140 : decode cX5_mayStandHere 140 = .ok (.ireturn, 1) := by decide +kernel
theorem dX5_mayStandHere_141 : decode cX5_mayStandHere 141 = .ok (.iconst 1, 1) := by decide +kernel
theorem dX5_mayStandHere_142 : decode cX5_mayStandHere 142 = .ok (.ireturn, 1) := by decide +kernel
theorem dX5_mayLeave_0 : decode cX5_mayLeave 0 = .ok (.aload_n 0, 1) := by decide +kernel
theorem dX5_mayLeave_1 : decode cX5_mayLeave 1 = .ok (.getfield 25, 3) := by decide +kernel
theorem dX5_mayLeave_4 : decode cX5_mayLeave 4 = .ok (.astore_n 1, 1) := by decide +kernel
theorem dX5_mayLeave_5 : decode cX5_mayLeave 5 = .ok (.aload_n 1, 1) := by decide +kernel
theorem dX5_mayLeave_6 : decode cX5_mayLeave 6 = .ok (.ifnull 37, 3) := by decide +kernel
theorem dX5_mayLeave_9 : decode cX5_mayLeave 9 = .ok (.aload_n 1, 1) := by decide +kernel
theorem dX5_mayLeave_10 : decode cX5_mayLeave 10 = .ok (.getfield 52, 3) := by decide +kernel
theorem dX5_mayLeave_13 : decode cX5_mayLeave 13 = .ok (.getfield 56, 3) := by decide +kernel
theorem dX5_mayLeave_16 : decode cX5_mayLeave 16 = .ok (.iconst 4, 1) := by decide +kernel
theorem dX5_mayLeave_17 : decode cX5_mayLeave 17 = .ok (.if_icmp .ne 5, 3) := by decide +kernel
theorem dX5_mayLeave_20 : decode cX5_mayLeave 20 = .ok (.iconst 1, 1) := by decide +kernel
theorem dX5_mayLeave_21 : decode cX5_mayLeave 21 = .ok (.ireturn, 1) := by decide +kernel
theorem dX5_mayLeave_22 : decode cX5_mayLeave 22 = .ok (.aload_n 1, 1) := by decide +kernel
theorem dX5_mayLeave_23 : decode cX5_mayLeave 23 = .ok (.getfield 59, 3) := by decide +kernel
theorem dX5_mayLeave_26 : decode cX5_mayLeave 26 = .ok (.getfield 56, 3) := by decide +kernel
theorem dX5_mayLeave_29 : decode cX5_mayLeave 29 = .ok (.iconst 3, 1) := by decide +kernel
theorem dX5_mayLeave_30 : decode cX5_mayLeave 30 = .ok (.if_icmp .ne 5, 3) := by decide +kernel
theorem dX5_mayLeave_33 : decode cX5_mayLeave 33 = .ok (.iconst 0, 1) := by decide +kernel
theorem dX5_mayLeave_34 : decode cX5_mayLeave 34 = .ok (.ireturn, 1) := by decide +kernel
theorem dX5_mayLeave_35 : decode cX5_mayLeave 35 = .ok (.aload_n 1, 1) := by decide +kernel
theorem dX5_mayLeave_36 : decode cX5_mayLeave 36 = .ok (.getfield 62, 3) := by decide +kernel
theorem dX5_mayLeave_39 : decode cX5_mayLeave 39 = .ok (.astore_n 1, 1) := by decide +kernel
theorem dX5_mayLeave_40 : decode cX5_mayLeave 40 = .ok (.goto (-35), 3) := by decide +kernel
theorem dX5_mayLeave_43 : decode cX5_mayLeave 43 = .ok (.iconst 0, 1) := by decide +kernel
theorem dX5_mayLeave_44 : decode cX5_mayLeave 44 = .ok (.ireturn, 1) := by decide +kernel
theorem dX5_isPartOpen_0 : decode cX5_isPartOpen 0 = .ok (.aload_n 0, 1) := by decide +kernel
theorem dX5_isPartOpen_1 : decode cX5_isPartOpen 1 = .ok (.getfield 25, 3) := by decide +kernel
theorem dX5_isPartOpen_4 : decode cX5_isPartOpen 4 = .ok (.astore_n 2, 1) := by decide +kernel
theorem dX5_isPartOpen_5 : decode cX5_isPartOpen 5 = .ok (.aload_n 2, 1) := by decide +kernel
theorem dX5_isPartOpen_6 : decode cX5_isPartOpen 6 = .ok (.ifnull 24, 3) := by decide +kernel
theorem dX5_isPartOpen_9 : decode cX5_isPartOpen 9 = .ok (.aload_n 2, 1) := by decide +kernel
theorem dX5_isPartOpen_10 : decode cX5_isPartOpen 10 = .ok (.getfield 59, 3) := by decide +kernel
theorem dX5_isPartOpen_13 : decode cX5_isPartOpen 13 = .ok (.getfield 56, 3) := by decide +kernel
theorem dX5_isPartOpen_16 : decode cX5_isPartOpen 16 = .ok (.iload_n 1, 1) := by decide +kernel
theorem dX5_isPartOpen_17 : decode cX5_isPartOpen 17 = .ok (.if_icmp .ne 5, 3) := by decide +kernel
theorem dX5_isPartOpen_20 : decode cX5_isPartOpen 20 = .ok (.iconst 1, 1) := by decide +kernel
theorem dX5_isPartOpen_21 : decode cX5_isPartOpen 21 = .ok (.ireturn, 1) := by decide +kernel
theorem dX5_isPartOpen_22 : decode cX5_isPartOpen 22 = .ok (.aload_n 2, 1) := by decide +kernel
theorem dX5_isPartOpen_23 : decode cX5_isPartOpen 23 = .ok (.getfield 62, 3) := by decide +kernel
theorem dX5_isPartOpen_26 : decode cX5_isPartOpen 26 = .ok (.astore_n 2, 1) := by decide +kernel
theorem dX5_isPartOpen_27 : decode cX5_isPartOpen 27 = .ok (.goto (-22), 3) := by decide +kernel
theorem dX5_isPartOpen_30 : decode cX5_isPartOpen 30 = .ok (.iconst 0, 1) := by decide +kernel
theorem dX5_isPartOpen_31 : decode cX5_isPartOpen 31 = .ok (.ireturn, 1) := by decide +kernel
theorem dX5_tieToBlocks_0 : decode cX5_tieToBlocks 0 = .ok (.aload_n 1, 1) := by decide +kernel
theorem dX5_tieToBlocks_1 : decode cX5_tieToBlocks 1 = .ok (.getfield 56, 3) := by decide +kernel
theorem dX5_tieToBlocks_4 : decode cX5_tieToBlocks 4 = .ok (.tableswitch 119 0 11 #[111, 64, 93, 93, 64, 119, 119, 119, 119, 119, 119, 64], 64) := by decide +kernel
theorem dX5_tieToBlocks_68 : decode cX5_tieToBlocks 68 = .ok (.aload_n 0, 1) := by decide +kernel
theorem dX5_tieToBlocks_69 : decode cX5_tieToBlocks 69 = .ok (.new 41, 3) := by decide +kernel
theorem dX5_tieToBlocks_72 : decode cX5_tieToBlocks 72 = .ok (.dup, 1) := by decide +kernel
theorem dX5_tieToBlocks_73 : decode cX5_tieToBlocks 73 = .ok (.aload_n 1, 1) := by decide +kernel
theorem dX5_tieToBlocks_74 : decode cX5_tieToBlocks 74 = .ok (.aload_n 0, 1) := by decide +kernel
theorem dX5_tieToBlocks_75 : decode cX5_tieToBlocks 75 = .ok (.getfield 25, 3) := by decide +kernel
theorem dX5_tieToBlocks_78 : decode cX5_tieToBlocks 78 = .ok (.invokespecial 65, 3) := by decide +kernel
theorem dX5_tieToBlocks_81 : decode cX5_tieToBlocks 81 = .ok (.putfield 25, 3) := by decide +kernel
theorem dX5_tieToBlocks_84 : decode cX5_tieToBlocks 84 = .ok (.aload_n 0, 1) := by decide +kernel
theorem dX5_tieToBlocks_85 : decode cX5_tieToBlocks 85 = .ok (.dup, 1) := by decide +kernel
theorem dX5_tieToBlocks_86 : decode cX5_tieToBlocks 86 = .ok (.getfield 22, 3) := by decide +kernel
theorem dX5_tieToBlocks_89 : decode cX5_tieToBlocks 89 = .ok (.iconst 1, 1) := by decide +kernel
theorem dX5_tieToBlocks_90 : decode cX5_tieToBlocks 90 = .ok (.iadd, 1) := by decide +kernel
theorem dX5_tieToBlocks_91 : decode cX5_tieToBlocks 91 = .ok (.putfield 22, 3) := by decide +kernel
theorem dX5_tieToBlocks_94 : decode cX5_tieToBlocks 94 = .ok (.goto 29, 3) := by decide +kernel
theorem dX5_tieToBlocks_97 : decode cX5_tieToBlocks 97 = .ok (.aload_n 0, 1) := by decide +kernel
theorem dX5_tieToBlocks_98 : decode cX5_tieToBlocks 98 = .ok (.getfield 25, 3) := by decide +kernel
theorem dX5_tieToBlocks_101 : decode cX5_tieToBlocks 101 = .ok (.ifnull 22, 3) := by decide +kernel
theorem dX5_tieToBlocks_104 : decode cX5_tieToBlocks 104 = .ok (.aload_n 0, 1) := by decide +kernel
theorem dX5_tieToBlocks_105 : decode cX5_tieToBlocks 105 = .ok (.getfield 25, 3) := by decide +kernel
theorem dX5_tieToBlocks_108 : decode cX5_tieToBlocks 108 = .ok (.aload_n 1, 1) := by decide +kernel
theorem dX5_tieToBlocks_109 : decode cX5_tieToBlocks 109 = .ok (.invokevirtual 68, 3) := by decide +kernel
theorem dX5_tieToBlocks_112 : decode cX5_tieToBlocks 112 = .ok (.goto 11, 3) := by decide +kernel
theorem dX5_tieToBlocks_115 : decode cX5_tieToBlocks 115 = .ok (.aload_n 0, 1) := by decide +kernel
theorem dX5_tieToBlocks_116 : decode cX5_tieToBlocks 116 = .ok (.aload_n 1, 1) := by decide +kernel
theorem dX5_tieToBlocks_117 : decode cX5_tieToBlocks 117 = .ok (.invokevirtual 71, 3) := by decide +kernel
theorem dX5_tieToBlocks_120 : decode cX5_tieToBlocks 120 = .ok (.goto 3, 3) := by decide +kernel
theorem dX5_tieToBlocks_123 : decode cX5_tieToBlocks 123 = .ok (.return_, 1) := by decide +kernel
theorem dX5_closeInnermost_0 : decode cX5_closeInnermost 0 = .ok (.aload_n 0, 1) := by decide +kernel
theorem dX5_closeInnermost_1 : decode cX5_closeInnermost 1 = .ok (.getfield 25, 3) := by decide +kernel
theorem dX5_closeInnermost_4 : decode cX5_closeInnermost 4 = .ok (.ifnull 46, 3) := by decide +kernel
theorem dX5_closeInnermost_7 : decode cX5_closeInnermost 7 = .ok (.aload_n 0, 1) := by decide +kernel
theorem dX5_closeInnermost_8 : decode cX5_closeInnermost 8 = .ok (.getfield 25, 3) := by decide +kernel
theorem dX5_closeInnermost_11 : decode cX5_closeInnermost 11 = .ok (.aload_n 1, 1) := by decide +kernel
theorem dX5_closeInnermost_12 : decode cX5_closeInnermost 12 = .ok (.invokevirtual 68, 3) := by decide +kernel
theorem dX5_closeInnermost_15 : decode cX5_closeInnermost 15 = .ok (.aload_n 0, 1) := by decide +kernel
theorem dX5_closeInnermost_16 : decode cX5_closeInnermost 16 = .ok (.getfield 25, 3) := by decide +kernel
theorem dX5_closeInnermost_19 : decode cX5_closeInnermost 19 = .ok (.getfield 52, 3) := by decide +kernel
theorem dX5_closeInnermost_22 : decode cX5_closeInnermost 22 = .ok (.aload_n 1, 1) := by decide +kernel
theorem dX5_closeInnermost_23 : decode cX5_closeInnermost 23 = .ok (.getfield 74, 3) := by decide +kernel
theorem dX5_closeInnermost_26 : decode cX5_closeInnermost 26 = .ok (.putfield 75, 3) := by decide +kernel
theorem dX5_closeInnermost_29 : decode cX5_closeInnermost 29 = .ok (.aload_n 0, 1) := by decide +kernel
theorem dX5_closeInnermost_30 : decode cX5_closeInnermost 30 = .ok (.aload_n 0, 1) := by decide +kernel
theorem dX5_closeInnermost_31 : decode cX5_closeInnermost 31 = .ok (.getfield 25, 3) := by decide +kernel
theorem dX5_closeInnermost_34 : decode cX5_closeInnermost 34 = .ok (.getfield 62, 3) := by decide +kernel
theorem dX5_closeInnermost_37 : decode cX5_closeInnermost 37 = .ok (.putfield 25, 3) := by decide +kernel
theorem dX5_closeInnermost_40 : decode cX5_closeInnermost 40 = .ok (.aload_n 0, 1) := by decide +kernel
theorem dX5_closeInnermost_41 : decode cX5_closeInnermost 41 = .ok (.dup, 1) := by decide +kernel
theorem dX5_closeInnermost_42 : decode cX5_closeInnermost 42 = .ok (.getfield 22, 3) := by decide +kernel
theorem dX5_closeInnermost_45 : decode cX5_closeInnermost 45 = .ok (.iconst 1, 1) := by decide +kernel
theorem dX5_closeInnermost_46 : decode cX5_closeInnermost 46 = .ok (.isub, 1) := by decide +kernel
theorem dX5_closeInnermost_47 : decode cX5_closeInnermost 47 = .ok (.putfield 22, 3) := by decide +kernel
theorem dX5_closeInnermost_50 : decode cX5_closeInnermost 50 = .ok (.return_, 1) := by decide +kernel
theorem dX6_init_0 : decode cX6_init 0 = .ok (.aload_n 0, 1) := by decide +kernel
theorem dX6_init_1 : decode cX6_init 1 = .ok (.invokespecial 1, 3) := by decide +kernel
theorem dX6_init_4 : decode cX6_init 4 = .ok (.aload_n 0, 1) := by decide +kernel
theorem dX6_init_5 : decode cX6_init 5 = .ok (.iload_n 1, 1) := by decide +kernel
theorem dX6_init_6 : decode cX6_init 6 = .ok (.putfield 7, 3) := by decide +kernel
theorem dX6_init_9 : decode cX6_init 9 = .ok (.aload_n 0, 1) := by decide +kernel
theorem dX6_init_10 : decode cX6_init 10 = .ok (.bipush 16, 2) := by decide +kernel
theorem dX6_init_12 : decode cX6_init 12 = .ok (.newarray .double, 2) := by decide +kernel
theorem dX6_init_14 : decode cX6_init 14 = .ok (.putfield 13, 3) := by decide +kernel
theorem dX6_init_17 : decode cX6_init 17 = .ok (.aload_n 0, 1) := by decide +kernel
theorem dX6_init_18 : decode cX6_init 18 = .ok (.bipush 16, 2) := by decide +kernel
theorem dX6_init_20 : decode cX6_init 20 = .ok (.newarray .boolean, 2) := by decide +kernel
theorem dX6_init_22 : decode cX6_init 22 = .ok (.putfield 17, 3) := by decide +kernel
theorem dX6_init_25 : decode cX6_init 25 = .ok (.aload_n 0, 1) := by decide +kernel
theorem dX6_init_26 : decode cX6_init 26 = .ok (.iconst (-1), 1) := by decide +kernel
theorem dX6_init_27 : decode cX6_init 27 = .ok (.putfield 21, 3) := by decide +kernel
theorem dX6_init_30 : decode cX6_init 30 = .ok (.return_, 1) := by decide +kernel
theorem dX6_make_0 : decode cX6_make 0 = .ok (.iload_n 1, 1) := by decide +kernel
theorem dX6_make_1 : decode cX6_make 1 = .ok (.bipush 16, 2) := by decide +kernel
theorem dX6_make_3 : decode cX6_make 3 = .ok (.if_icmp .le 6, 3) := by decide +kernel
theorem dX6_make_6 : decode cX6_make 6 = .ok (.bipush 8, 2) := by decide +kernel
theorem dX6_make_8 : decode cX6_make 8 = .ok (.ireturn, 1) := by decide +kernel
theorem dX6_make_9 : decode cX6_make 9 = .ok (.iload_n 1, 1) := by decide +kernel
theorem dX6_make_10 : decode cX6_make 10 = .ok (.ifCond .ge 5, 3) := by decide +kernel
theorem dX6_make_13 : decode cX6_make 13 = .ok (.iconst 5, 1) := by decide +kernel
theorem dX6_make_14 : decode cX6_make 14 = .ok (.ireturn, 1) := by decide +kernel
theorem dX6_make_15 : decode cX6_make 15 = .ok (.iconst 0, 1) := by decide +kernel
theorem dX6_make_16 : decode cX6_make 16 = .ok (.istore_n 2, 1) := by decide +kernel
theorem dX6_make_17 : decode cX6_make 17 = .ok (.iload_n 2, 1) := by decide +kernel
theorem dX6_make_18 : decode cX6_make 18 = .ok (.iload_n 1, 1) := by decide +kernel
theorem dX6_make_19 : decode cX6_make 19 = .ok (.if_icmp .ge 36, 3) := by decide +kernel
theorem dX6_make_22 : decode cX6_make 22 = .ok (.aload_n 0, 1) := by decide +kernel
theorem dX6_make_23 : decode cX6_make 23 = .ok (.getfield 13, 3) := by decide +kernel
theorem dX6_make_26 : decode cX6_make 26 = .ok (.iload_n 2, 1) := by decide +kernel
theorem dX6_make_27 : decode cX6_make 27 = .ok (.dconst 0, 1) := by decide +kernel
theorem dX6_make_28 : decode cX6_make 28 = .ok (.dastore, 1) := by decide +kernel
theorem dX6_make_29 : decode cX6_make 29 = .ok (.aload_n 0, 1) := by decide +kernel
theorem dX6_make_30 : decode cX6_make 30 = .ok (.getfield 17, 3) := by decide +kernel
theorem dX6_make_33 : decode cX6_make 33 = .ok (.iload_n 2, 1) := by decide +kernel
theorem dX6_make_34 : decode cX6_make 34 = .ok (.aload_n 0, 1) := by decide +kernel
theorem dX6_make_35 : decode cX6_make 35 = .ok (.getfield 7, 3) := by decide +kernel
theorem dX6_make_38 : decode cX6_make 38 = .ok (.bipush 8, 2) := by decide +kernel
theorem dX6_make_40 : decode cX6_make 40 = .ok (.if_icmp .eq 7, 3) := by decide +kernel
theorem dX6_make_43 : decode cX6_make 43 = .ok (.iconst 1, 1) := by decide +kernel
theorem dX6_make_44 : decode cX6_make 44 = .ok (.goto 4, 3) := by decide +kernel
theorem dX6_make_47 : decode cX6_make 47 = .ok (.iconst 0, 1) := by decide +kernel
theorem dX6_make_48 : decode cX6_make 48 = .ok (.bastore, 1) := by decide +kernel
theorem dX6_make_49 : decode cX6_make 49 = .ok (.iinc 2 1, 3) := by decide +kernel
theorem dX6_make_52 : decode cX6_make 52 = .ok (.goto (-35), 3) := by decide +kernel
theorem dX6_make_55 : decode cX6_make 55 = .ok (.aload_n 0, 1) := by decide +kernel
theorem dX6_make_56 : decode cX6_make 56 = .ok (.iload_n 1, 1) := by decide +kernel
theorem dX6_make_57 : decode cX6_make 57 = .ok (.putfield 21, 3) := by decide +kernel
theorem dX6_make_60 : decode cX6_make 60 = .ok (.iconst 0, 1) := by decide +kernel
theorem dX6_make_61 : decode cX6_make 61 = .ok (.ireturn, 1) := by decide +kernel
theorem dX6_drop_0 : decode cX6_drop 0 = .ok (.aload_n 0, 1) := by decide +kernel
theorem dX6_drop_1 : decode cX6_drop 1 = .ok (.iconst (-1), 1) := by decide +kernel
theorem dX6_drop_2 : decode cX6_drop 2 = .ok (.putfield 21, 3) := by decide +kernel
theorem dX6_drop_5 : decode cX6_drop 5 = .ok (.return_, 1) := by decide +kernel
theorem dX6_faultAt_0 : decode cX6_faultAt 0 = .ok (.aload_n 0, 1) := by decide +kernel
theorem dX6_faultAt_1 : decode cX6_faultAt 1 = .ok (.getfield 21, 3) := by decide +kernel
theorem dX6_faultAt_4 : decode cX6_faultAt 4 = .ok (.ifCond .ge 5, 3) := by decide +kernel
theorem dX6_faultAt_7 : decode cX6_faultAt 7 = .ok (.iconst 3, 1) := by decide +kernel
theorem dX6_faultAt_8 : decode cX6_faultAt 8 = .ok (.ireturn, 1) := by decide +kernel
theorem dX6_faultAt_9 : decode cX6_faultAt 9 = .ok (.iload_n 1, 1) := by decide +kernel
theorem dX6_faultAt_10 : decode cX6_faultAt 10 = .ok (.ifCond .lt 21, 3) := by decide +kernel
theorem dX6_faultAt_13 : decode cX6_faultAt 13 = .ok (.iload_n 1, 1) := by decide +kernel
theorem dX6_faultAt_14 : decode cX6_faultAt 14 = .ok (.aload_n 0, 1) := by decide +kernel
theorem dX6_faultAt_15 : decode cX6_faultAt 15 = .ok (.getfield 21, 3) := by decide +kernel
theorem dX6_faultAt_18 : decode cX6_faultAt 18 = .ok (.if_icmp .ge 13, 3) := by decide +kernel
theorem dX6_faultAt_21 : decode cX6_faultAt 21 = .ok (.iload_n 1, 1) := by decide +kernel
theorem dX6_faultAt_22 : decode cX6_faultAt 22 = .ok (.bipush 16, 2) := by decide +kernel
theorem dX6_faultAt_24 : decode cX6_faultAt 24 = .ok (.if_icmp .ge 7, 3) := by decide +kernel
theorem dX6_faultAt_27 : decode cX6_faultAt 27 = .ok (.iconst 0, 1) := by decide +kernel
theorem dX6_faultAt_28 : decode cX6_faultAt 28 = .ok (.goto 4, 3) := by decide +kernel
theorem dX6_faultAt_31 : decode cX6_faultAt 31 = .ok (.iconst 4, 1) := by decide +kernel
theorem dX6_faultAt_32 : decode cX6_faultAt 32 = .ok (.ireturn, 1) := by decide +kernel
theorem dX6_faultOfUse_0 : decode cX6_faultOfUse 0 = .ok (.aload_n 0, 1) := by decide +kernel
theorem dX6_faultOfUse_1 : decode cX6_faultOfUse 1 = .ok (.iload_n 1, 1) := by decide +kernel
theorem dX6_faultOfUse_2 : decode cX6_faultOfUse 2 = .ok (.invokevirtual 26, 3) := by decide +kernel
theorem dX6_faultOfUse_5 : decode cX6_faultOfUse 5 = .ok (.istore_n 2, 1) := by decide +kernel
theorem dX6_faultOfUse_6 : decode cX6_faultOfUse 6 = .ok (.iload_n 2, 1) := by decide +kernel
theorem dX6_faultOfUse_7 : decode cX6_faultOfUse 7 = .ok (.ifCond .eq 5, 3) := by decide +kernel
theorem dX6_faultOfUse_10 : decode cX6_faultOfUse 10 = .ok (.iload_n 2, 1) := by decide +kernel
theorem dX6_faultOfUse_11 : decode cX6_faultOfUse 11 = .ok (.ireturn, 1) := by decide +kernel
theorem dX6_faultOfUse_12 : decode cX6_faultOfUse 12 = .ok (.aload_n 0, 1) := by decide +kernel
theorem dX6_faultOfUse_13 : decode cX6_faultOfUse 13 = .ok (.getfield 17, 3) := by decide +kernel
theorem dX6_faultOfUse_16 : decode cX6_faultOfUse 16 = .ok (.iload_n 1, 1) := by decide +kernel
theorem dX6_faultOfUse_17 : decode cX6_faultOfUse 17 = .ok (.baload, 1) := by decide +kernel
theorem dX6_faultOfUse_18 : decode cX6_faultOfUse 18 = .ok (.ifCond .eq 7, 3) := by decide +kernel
theorem dX6_faultOfUse_21 : decode cX6_faultOfUse 21 = .ok (.iconst 0, 1) := by decide +kernel
theorem dX6_faultOfUse_22 : decode cX6_faultOfUse 22 = .ok (.goto 4, 3) := by decide +kernel
theorem dX6_faultOfUse_25 : decode cX6_faultOfUse 25 = .ok (.iconst 3, 1) := by decide +kernel
theorem dX6_faultOfUse_26 : decode cX6_faultOfUse 26 = .ok (.ireturn, 1) := by decide +kernel
theorem dX6_got_0 : decode cX6_got 0 = .ok (.aload_n 0, 1) := by decide +kernel
theorem dX6_got_1 : decode cX6_got 1 = .ok (.iload_n 1, 1) := by decide +kernel
theorem dX6_got_2 : decode cX6_got 2 = .ok (.invokevirtual 30, 3) := by decide +kernel
theorem dX6_got_5 : decode cX6_got 5 = .ok (.ifCond .ne 12, 3) := by decide +kernel
theorem dX6_got_8 : decode cX6_got 8 = .ok (.aload_n 0, 1) := by decide +kernel
theorem dX6_got_9 : decode cX6_got 9 = .ok (.getfield 13, 3) := by decide +kernel
theorem dX6_got_12 : decode cX6_got 12 = .ok (.iload_n 1, 1) := by decide +kernel
theorem dX6_got_13 : decode cX6_got 13 = .ok (.daload, 1) := by decide +kernel
theorem dX6_got_14 : decode cX6_got 14 = .ok (.goto 4, 3) := by decide +kernel
theorem dX6_got_17 : decode cX6_got 17 = .ok (.dconst 0, 1) := by decide +kernel
theorem dX6_got_18 : decode cX6_got 18 = .ok (.dreturn, 1) := by decide +kernel
theorem dX6_put_0 : decode cX6_put 0 = .ok (.aload_n 0, 1) := by decide +kernel
theorem dX6_put_1 : decode cX6_put 1 = .ok (.iload_n 1, 1) := by decide +kernel
theorem dX6_put_2 : decode cX6_put 2 = .ok (.invokevirtual 30, 3) := by decide +kernel
theorem dX6_put_5 : decode cX6_put 5 = .ok (.istore 4, 2) := by decide +kernel
theorem dX6_put_7 : decode cX6_put 7 = .ok (.iload 4, 2) := by decide +kernel
theorem dX6_put_9 : decode cX6_put 9 = .ok (.ifCond .ne 14, 3) := by decide +kernel
theorem dX6_put_12 : decode cX6_put 12 = .ok (.aload_n 0, 1) := by decide +kernel
theorem dX6_put_13 : decode cX6_put 13 = .ok (.getfield 13, 3) := by decide +kernel
theorem dX6_put_16 : decode cX6_put 16 = .ok (.iload_n 1, 1) := by decide +kernel
theorem dX6_put_17 : decode cX6_put 17 = .ok (.aload_n 0, 1) := by decide +kernel
theorem dX6_put_18 : decode cX6_put 18 = .ok (.dload_n 2, 1) := by decide +kernel
theorem dX6_put_19 : decode cX6_put 19 = .ok (.invokevirtual 33, 3) := by decide +kernel
theorem dX6_put_22 : decode cX6_put 22 = .ok (.dastore, 1) := by decide +kernel
theorem dX6_put_23 : decode cX6_put 23 = .ok (.iload 4, 2) := by decide +kernel
theorem dX6_put_25 : decode cX6_put 25 = .ok (.ireturn, 1) := by decide +kernel
theorem dX6_fit_0 : decode cX6_fit 0 = .ok (.aload_n 0, 1) := by decide +kernel
theorem dX6_fit_1 : decode cX6_fit 1 = .ok (.iload_n 1, 1) := by decide +kernel
theorem dX6_fit_2 : decode cX6_fit 2 = .ok (.invokevirtual 26, 3) := by decide +kernel
theorem dX6_fit_5 : decode cX6_fit 5 = .ok (.istore_n 2, 1) := by decide +kernel
theorem dX6_fit_6 : decode cX6_fit 6 = .ok (.iload_n 2, 1) := by decide +kernel
theorem dX6_fit_7 : decode cX6_fit 7 = .ok (.ifCond .ne 17, 3) := by decide +kernel
theorem dX6_fit_10 : decode cX6_fit 10 = .ok (.aload_n 0, 1) := by decide +kernel
theorem dX6_fit_11 : decode cX6_fit 11 = .ok (.getfield 13, 3) := by decide +kernel
theorem dX6_fit_14 : decode cX6_fit 14 = .ok (.iload_n 1, 1) := by decide +kernel
theorem dX6_fit_15 : decode cX6_fit 15 = .ok (.dconst 0, 1) := by decide +kernel
theorem dX6_fit_16 : decode cX6_fit 16 = .ok (.dastore, 1) := by decide +kernel
theorem dX6_fit_17 : decode cX6_fit 17 = .ok (.aload_n 0, 1) := by decide +kernel
theorem dX6_fit_18 : decode cX6_fit 18 = .ok (.getfield 17, 3) := by decide +kernel
theorem dX6_fit_21 : decode cX6_fit 21 = .ok (.iload_n 1, 1) := by decide +kernel
theorem dX6_fit_22 : decode cX6_fit 22 = .ok (.iconst 1, 1) := by decide +kernel
theorem dX6_fit_23 : decode cX6_fit 23 = .ok (.bastore, 1) := by decide +kernel
theorem dX6_fit_24 : decode cX6_fit 24 = .ok (.iload_n 2, 1) := by decide +kernel
theorem dX6_fit_25 : decode cX6_fit 25 = .ok (.ireturn, 1) := by decide +kernel
theorem dX6_holdsProbe_0 : decode cX6_holdsProbe 0 = .ok (.aload_n 0, 1) := by decide +kernel
theorem dX6_holdsProbe_1 : decode cX6_holdsProbe 1 = .ok (.getfield 7, 3) := by decide +kernel
theorem dX6_holdsProbe_4 : decode cX6_holdsProbe 4 = .ok (.bipush 8, 2) := by decide +kernel
theorem dX6_holdsProbe_6 : decode cX6_holdsProbe 6 = .ok (.if_icmp .ne 15, 3) := by decide +kernel
theorem dX6_holdsProbe_9 : decode cX6_holdsProbe 9 = .ok (.aload_n 0, 1) := by decide +kernel
theorem dX6_holdsProbe_10 : decode cX6_holdsProbe 10 = .ok (.iload_n 1, 1) := by decide +kernel
theorem dX6_holdsProbe_11 : decode cX6_holdsProbe 11 = .ok (.invokevirtual 30, 3) := by decide +kernel
theorem dX6_holdsProbe_14 : decode cX6_holdsProbe 14 = .ok (.ifCond .ne 7, 3) := by decide +kernel
theorem dX6_holdsProbe_17 : decode cX6_holdsProbe 17 = .ok (.iconst 1, 1) := by decide +kernel
theorem dX6_holdsProbe_18 : decode cX6_holdsProbe 18 = .ok (.goto 4, 3) := by decide +kernel
theorem dX6_holdsProbe_21 : decode cX6_holdsProbe 21 = .ok (.iconst 0, 1) := by decide +kernel
theorem dX6_holdsProbe_22 : decode cX6_holdsProbe 22 = .ok (.ireturn, 1) := by decide +kernel
theorem dX6_asHeld_0 : decode cX6_asHeld 0 = .ok (.aload_n 0, 1) := by decide +kernel
theorem dX6_asHeld_1 : decode cX6_asHeld 1 = .ok (.getfield 7, 3) := by decide +kernel
theorem dX6_asHeld_4 : decode cX6_asHeld 4 = .ok (.tableswitch 83 0 6 #[44, 56, 61, 66, 71, 75, 79], 44) := by decide +kernel
theorem dX6_asHeld_48 : decode cX6_asHeld 48 = .ok (.dload_n 1, 1) := by decide +kernel
theorem dX6_asHeld_49 : decode cX6_asHeld 49 = .ok (.dconst 0, 1) := by decide +kernel
theorem dX6_asHeld_50 : decode cX6_asHeld 50 = .ok (.dcmp .l, 1) := by decide +kernel
theorem dX6_asHeld_51 : decode cX6_asHeld 51 = .ok (.ifCond .eq 7, 3) := by decide +kernel
theorem dX6_asHeld_54 : decode cX6_asHeld 54 = .ok (.dconst 1, 1) := by decide +kernel
theorem dX6_asHeld_55 : decode cX6_asHeld 55 = .ok (.goto 4, 3) := by decide +kernel
theorem dX6_asHeld_58 : decode cX6_asHeld 58 = .ok (.dconst 0, 1) := by decide +kernel
theorem dX6_asHeld_59 : decode cX6_asHeld 59 = .ok (.dreturn, 1) := by decide +kernel
theorem dX6_asHeld_60 : decode cX6_asHeld 60 = .ok (.dload_n 1, 1) := by decide +kernel
theorem dX6_asHeld_61 : decode cX6_asHeld 61 = .ok (.d2i, 1) := by decide +kernel
theorem dX6_asHeld_62 : decode cX6_asHeld 62 = .ok (.i2b, 1) := by decide +kernel
theorem dX6_asHeld_63 : decode cX6_asHeld 63 = .ok (.i2d, 1) := by decide +kernel
theorem dX6_asHeld_64 : decode cX6_asHeld 64 = .ok (.dreturn, 1) := by decide +kernel
theorem dX6_asHeld_65 : decode cX6_asHeld 65 = .ok (.dload_n 1, 1) := by decide +kernel
theorem dX6_asHeld_66 : decode cX6_asHeld 66 = .ok (.d2i, 1) := by decide +kernel
theorem dX6_asHeld_67 : decode cX6_asHeld 67 = .ok (.i2c, 1) := by decide +kernel
theorem dX6_asHeld_68 : decode cX6_asHeld 68 = .ok (.i2d, 1) := by decide +kernel
theorem dX6_asHeld_69 : decode cX6_asHeld 69 = .ok (.dreturn, 1) := by decide +kernel
theorem dX6_asHeld_70 : decode cX6_asHeld 70 = .ok (.dload_n 1, 1) := by decide +kernel
theorem dX6_asHeld_71 : decode cX6_asHeld 71 = .ok (.d2i, 1) := by decide +kernel
theorem dX6_asHeld_72 : decode cX6_asHeld 72 = .ok (.i2s, 1) := by decide +kernel
theorem dX6_asHeld_73 : decode cX6_asHeld 73 = .ok (.i2d, 1) := by decide +kernel
theorem dX6_asHeld_74 : decode cX6_asHeld 74 = .ok (.dreturn, 1) := by decide +kernel
theorem dX6_asHeld_75 : decode cX6_asHeld 75 = .ok (.dload_n 1, 1) := by decide +kernel
theorem dX6_asHeld_76 : decode cX6_asHeld 76 = .ok (.d2i, 1) := by decide +kernel
theorem dX6_asHeld_77 : decode cX6_asHeld 77 = .ok (.i2d, 1) := by decide +kernel
theorem dX6_asHeld_78 : decode cX6_asHeld 78 = .ok (.dreturn, 1) := by decide +kernel
theorem dX6_asHeld_79 : decode cX6_asHeld 79 = .ok (.dload_n 1, 1) := by decide +kernel
theorem dX6_asHeld_80 : decode cX6_asHeld 80 = .ok (.d2l, 1) := by decide +kernel
theorem dX6_asHeld_81 : decode cX6_asHeld 81 = .ok (.l2d, 1) := by decide +kernel
theorem dX6_asHeld_82 : decode cX6_asHeld 82 = .ok (.dreturn, 1) := by decide +kernel
theorem dX6_asHeld_83 : decode cX6_asHeld 83 = .ok (.dload_n 1, 1) := by decide +kernel
theorem dX6_asHeld_84 : decode cX6_asHeld 84 = .ok (.d2f, 1) := by decide +kernel
theorem dX6_asHeld_85 : decode cX6_asHeld 85 = .ok (.f2d, 1) := by decide +kernel
theorem dX6_asHeld_86 : decode cX6_asHeld 86 = .ok (.dreturn, 1) := by decide +kernel
theorem dX6_asHeld_87 : decode cX6_asHeld 87 = .ok (.dload_n 1, 1) := by decide +kernel
theorem dX6_asHeld_88 : decode cX6_asHeld 88 = .ok (.dreturn, 1) := by decide +kernel
theorem dX7_init_0 : decode cX7_init 0 = .ok (.aload_n 0, 1) := by decide +kernel
theorem dX7_init_1 : decode cX7_init 1 = .ok (.invokespecial 1, 3) := by decide +kernel
theorem dX7_init_4 : decode cX7_init 4 = .ok (.aload_n 0, 1) := by decide +kernel
theorem dX7_init_5 : decode cX7_init 5 = .ok (.iload_n 1, 1) := by decide +kernel
theorem dX7_init_6 : decode cX7_init 6 = .ok (.putfield 7, 3) := by decide +kernel
theorem dX7_init_9 : decode cX7_init 9 = .ok (.aload_n 0, 1) := by decide +kernel
theorem dX7_init_10 : decode cX7_init 10 = .ok (.iload_n 2, 1) := by decide +kernel
theorem dX7_init_11 : decode cX7_init 11 = .ok (.putfield 13, 3) := by decide +kernel
theorem dX7_init_14 : decode cX7_init 14 = .ok (.aload_n 0, 1) := by decide +kernel
theorem dX7_init_15 : decode cX7_init 15 = .ok (.iload_n 3, 1) := by decide +kernel
theorem dX7_init_16 : decode cX7_init 16 = .ok (.putfield 16, 3) := by decide +kernel
theorem dX7_init_19 : decode cX7_init 19 = .ok (.aload_n 0, 1) := by decide +kernel
theorem dX7_init_20 : decode cX7_init 20 = .ok (.iload 4, 2) := by decide +kernel
theorem dX7_init_22 : decode cX7_init 22 = .ok (.putfield 19, 3) := by decide +kernel
theorem dX7_init_25 : decode cX7_init 25 = .ok (.aload_n 0, 1) := by decide +kernel
theorem dX7_init_26 : decode cX7_init 26 = .ok (.iload 5, 2) := by decide +kernel
theorem dX7_init_28 : decode cX7_init 28 = .ok (.putfield 22, 3) := by decide +kernel
theorem dX7_init_31 : decode cX7_init 31 = .ok (.aload_n 0, 1) := by decide +kernel
theorem dX7_init_32 : decode cX7_init 32 = .ok (.iload 6, 2) := by decide +kernel
theorem dX7_init_34 : decode cX7_init 34 = .ok (.putfield 25, 3) := by decide +kernel
theorem dX7_init_37 : decode cX7_init 37 = .ok (.aload_n 0, 1) := by decide +kernel
theorem dX7_init_38 : decode cX7_init 38 = .ok (.iload 5, 2) := by decide +kernel
theorem dX7_init_40 : decode cX7_init 40 = .ok (.putfield 28, 3) := by decide +kernel
theorem dX7_init_43 : decode cX7_init 43 = .ok (.return_, 1) := by decide +kernel
theorem dX7_isTold_0 : decode cX7_isTold 0 = .ok (.iload_n 0, 1) := by decide +kernel
theorem dX7_isTold_1 : decode cX7_isTold 1 = .ok (.ifCond .lt 56, 3) := by decide +kernel
theorem dX7_isTold_4 : decode cX7_isTold 4 = .ok (.iload_n 0, 1) := by decide +kernel
theorem dX7_isTold_5 : decode cX7_isTold 5 = .ok (.bipush 24, 2) := by decide +kernel
theorem dX7_isTold_7 : decode cX7_isTold 7 = .ok (.if_icmp .gt 50, 3) := by decide +kernel
theorem dX7_isTold_10 : decode cX7_isTold 10 = .ok (.iload_n 1, 1) := by decide +kernel
theorem dX7_isTold_11 : decode cX7_isTold 11 = .ok (.getstatic 31, 3) := by decide +kernel
theorem dX7_isTold_14 : decode cX7_isTold 14 = .ok (.iload_n 0, 1) := by decide +kernel
theorem dX7_isTold_15 : decode cX7_isTold 15 = .ok (.iaload, 1) := by decide +kernel
theorem dX7_isTold_16 : decode cX7_isTold 16 = .ok (.getstatic 35, 3) := by decide +kernel
theorem dX7_isTold_19 : decode cX7_isTold 19 = .ok (.iload_n 0, 1) := by decide +kernel
theorem dX7_isTold_20 : decode cX7_isTold 20 = .ok (.iaload, 1) := by decide +kernel
theorem dX7_isTold_21 : decode cX7_isTold 21 = .ok (.invokestatic 38, 3) := by decide +kernel
theorem dX7_isTold_24 : decode cX7_isTold 24 = .ok (.ifCond .eq 33, 3) := by decide +kernel
theorem dX7_isTold_27 : decode cX7_isTold 27 = .ok (.iload_n 2, 1) := by decide +kernel
theorem dX7_isTold_28 : decode cX7_isTold 28 = .ok (.iconst 0, 1) := by decide +kernel
theorem dX7_isTold_29 : decode cX7_isTold 29 = .ok (.getstatic 42, 3) := by decide +kernel
theorem dX7_isTold_32 : decode cX7_isTold 32 = .ok (.iload_n 0, 1) := by decide +kernel
theorem dX7_isTold_33 : decode cX7_isTold 33 = .ok (.iaload, 1) := by decide +kernel
theorem dX7_isTold_34 : decode cX7_isTold 34 = .ok (.invokestatic 38, 3) := by decide +kernel
theorem dX7_isTold_37 : decode cX7_isTold 37 = .ok (.ifCond .eq 20, 3) := by decide +kernel
theorem dX7_isTold_40 : decode cX7_isTold 40 = .ok (.iload_n 3, 1) := by decide +kernel
theorem dX7_isTold_41 : decode cX7_isTold 41 = .ok (.iconst 0, 1) := by decide +kernel
theorem dX7_isTold_42 : decode cX7_isTold 42 = .ok (.getstatic 45, 3) := by decide +kernel
theorem dX7_isTold_45 : decode cX7_isTold 45 = .ok (.iload_n 0, 1) := by decide +kernel
theorem dX7_isTold_46 : decode cX7_isTold 46 = .ok (.iaload, 1) := by decide +kernel
theorem dX7_isTold_47 : decode cX7_isTold 47 = .ok (.invokestatic 38, 3) := by decide +kernel
theorem dX7_isTold_50 : decode cX7_isTold 50 = .ok (.ifCond .eq 7, 3) := by decide +kernel
theorem dX7_isTold_53 : decode cX7_isTold 53 = .ok (.iconst 1, 1) := by decide +kernel
theorem dX7_isTold_54 : decode cX7_isTold 54 = .ok (.goto 4, 3) := by decide +kernel
theorem dX7_isTold_57 : decode cX7_isTold 57 = .ok (.iconst 0, 1) := by decide +kernel
theorem dX7_isTold_58 : decode cX7_isTold 58 = .ok (.ireturn, 1) := by decide +kernel
theorem dX7_isWithin_0 : decode cX7_isWithin 0 = .ok (.iload_n 2, 1) := by decide +kernel
theorem dX7_isWithin_1 : decode cX7_isWithin 1 = .ok (.ifCond .lt 13, 3) := by decide +kernel
theorem dX7_isWithin_4 : decode cX7_isWithin 4 = .ok (.iload_n 0, 1) := by decide +kernel
theorem dX7_isWithin_5 : decode cX7_isWithin 5 = .ok (.iload_n 1, 1) := by decide +kernel
theorem dX7_isWithin_6 : decode cX7_isWithin 6 = .ok (.if_icmp .lt 12, 3) := by decide +kernel
theorem dX7_isWithin_9 : decode cX7_isWithin 9 = .ok (.iload_n 0, 1) := by decide +kernel
theorem dX7_isWithin_10 : decode cX7_isWithin 10 = .ok (.iload_n 2, 1) := by decide +kernel
theorem dX7_isWithin_11 : decode cX7_isWithin 11 = .ok (.if_icmp .gt 7, 3) := by decide +kernel
theorem dX7_isWithin_14 : decode cX7_isWithin 14 = .ok (.iconst 1, 1) := by decide +kernel
theorem dX7_isWithin_15 : decode cX7_isWithin 15 = .ok (.goto 4, 3) := by decide +kernel
theorem dX7_isWithin_18 : decode cX7_isWithin 18 = .ok (.iconst 0, 1) := by decide +kernel
theorem dX7_isWithin_19 : decode cX7_isWithin 19 = .ok (.ireturn, 1) := by decide +kernel
theorem dX7_partEnd_0 : decode cX7_partEnd 0 = .ok (.aload_n 0, 1) := by decide +kernel
theorem dX7_partEnd_1 : decode cX7_partEnd 1 = .ok (.getfield 48, 3) := by decide +kernel
theorem dX7_partEnd_4 : decode cX7_partEnd 4 = .ok (.ifnonnull 10, 3) := by decide +kernel
theorem dX7_partEnd_7 : decode cX7_partEnd 7 = .ok (.aload_n 0, 1) := by decide +kernel
theorem dX7_partEnd_8 : decode cX7_partEnd 8 = .ok (.getfield 22, 3) := by decide +kernel
theorem dX7_partEnd_11 : decode cX7_partEnd 11 = .ok (.goto 10, 3) := by decide +kernel
theorem dX7_partEnd_14 : decode cX7_partEnd 14 = .ok (.aload_n 0, 1) := by decide +kernel
theorem dX7_partEnd_15 : decode cX7_partEnd 15 = .ok (.getfield 48, 3) := by decide +kernel
theorem dX7_partEnd_18 : decode cX7_partEnd 18 = .ok (.getfield 22, 3) := by decide +kernel
theorem dX7_partEnd_21 : decode cX7_partEnd 21 = .ok (.ireturn, 1) := by decide +kernel
theorem dX7_catchPartFor_0 : decode cX7_catchPartFor 0 = .ok (.aload_n 0, 1) := by decide +kernel
theorem dX7_catchPartFor_1 : decode cX7_catchPartFor 1 = .ok (.getfield 48, 3) := by decide +kernel
theorem dX7_catchPartFor_4 : decode cX7_catchPartFor 4 = .ok (.astore_n 2, 1) := by decide +kernel
theorem dX7_catchPartFor_5 : decode cX7_catchPartFor 5 = .ok (.aload_n 2, 1) := by decide +kernel
theorem dX7_catchPartFor_6 : decode cX7_catchPartFor 6 = .ok (.ifnull 32, 3) := by decide +kernel
theorem dX7_catchPartFor_9 : decode cX7_catchPartFor 9 = .ok (.aload_n 2, 1) := by decide +kernel
theorem dX7_catchPartFor_10 : decode cX7_catchPartFor 10 = .ok (.getfield 7, 3) := by decide +kernel
theorem dX7_catchPartFor_13 : decode cX7_catchPartFor 13 = .ok (.iconst 2, 1) := by decide +kernel
theorem dX7_catchPartFor_14 : decode cX7_catchPartFor 14 = .ok (.if_icmp .ne 24, 3) := by decide +kernel
theorem dX7_catchPartFor_17 : decode cX7_catchPartFor 17 = .ok (.iload_n 1, 1) := by decide +kernel
theorem dX7_catchPartFor_18 : decode cX7_catchPartFor 18 = .ok (.aload_n 2, 1) := by decide +kernel
theorem dX7_catchPartFor_19 : decode cX7_catchPartFor 19 = .ok (.getfield 13, 3) := by decide +kernel
theorem dX7_catchPartFor_22 : decode cX7_catchPartFor 22 = .ok (.invokestatic 52, 3) := by decide +kernel
theorem dX7_catchPartFor_25 : decode cX7_catchPartFor 25 = .ok (.ifCond .eq 5, 3) := by decide +kernel
theorem dX7_catchPartFor_28 : decode cX7_catchPartFor 28 = .ok (.aload_n 2, 1) := by decide +kernel
theorem dX7_catchPartFor_29 : decode cX7_catchPartFor 29 = .ok (.areturn, 1) := by decide +kernel
theorem dX7_catchPartFor_30 : decode cX7_catchPartFor 30 = .ok (.aload_n 2, 1) := by decide +kernel
theorem dX7_catchPartFor_31 : decode cX7_catchPartFor 31 = .ok (.getfield 48, 3) := by decide +kernel
theorem dX7_catchPartFor_34 : decode cX7_catchPartFor 34 = .ok (.astore_n 2, 1) := by decide +kernel
theorem dX7_catchPartFor_35 : decode cX7_catchPartFor 35 = .ok (.goto (-30), 3) := by decide +kernel
theorem dX7_catchPartFor_38 : decode cX7_catchPartFor 38 = .ok (.aconst_null, 1) := by decide +kernel
theorem dX7_catchPartFor_39 : decode cX7_catchPartFor 39 = .ok (.areturn, 1) := by decide +kernel
theorem dX7_finallyPart_0 : decode cX7_finallyPart 0 = .ok (.aload_n 0, 1) := by decide +kernel
theorem dX7_finallyPart_1 : decode cX7_finallyPart 1 = .ok (.getfield 48, 3) := by decide +kernel
theorem dX7_finallyPart_4 : decode cX7_finallyPart 4 = .ok (.astore_n 1, 1) := by decide +kernel
theorem dX7_finallyPart_5 : decode cX7_finallyPart 5 = .ok (.aload_n 1, 1) := by decide +kernel
theorem dX7_finallyPart_6 : decode cX7_finallyPart 6 = .ok (.ifnull 21, 3) := by decide +kernel
theorem dX7_finallyPart_9 : decode cX7_finallyPart 9 = .ok (.aload_n 1, 1) := by decide +kernel
theorem dX7_finallyPart_10 : decode cX7_finallyPart 10 = .ok (.getfield 7, 3) := by decide +kernel
theorem dX7_finallyPart_13 : decode cX7_finallyPart 13 = .ok (.iconst 3, 1) := by decide +kernel
theorem dX7_finallyPart_14 : decode cX7_finallyPart 14 = .ok (.if_icmp .ne 5, 3) := by decide +kernel
theorem dX7_finallyPart_17 : decode cX7_finallyPart 17 = .ok (.aload_n 1, 1) := by decide +kernel
theorem dX7_finallyPart_18 : decode cX7_finallyPart 18 = .ok (.areturn, 1) := by decide +kernel
theorem dX7_finallyPart_19 : decode cX7_finallyPart 19 = .ok (.aload_n 1, 1) := by decide +kernel
theorem dX7_finallyPart_20 : decode cX7_finallyPart 20 = .ok (.getfield 48, 3) := by decide +kernel
theorem dX7_finallyPart_23 : decode cX7_finallyPart 23 = .ok (.astore_n 1, 1) := by decide +kernel
theorem dX7_finallyPart_24 : decode cX7_finallyPart 24 = .ok (.goto (-19), 3) := by decide +kernel
theorem dX7_finallyPart_27 : decode cX7_finallyPart 27 = .ok (.aconst_null, 1) := by decide +kernel
theorem dX7_finallyPart_28 : decode cX7_finallyPart 28 = .ok (.areturn, 1) := by decide +kernel
theorem dX8_divides_0 : decode cX8_divides 0 = .ok (.iload_n 0, 1) := by decide +kernel
theorem dX8_divides_1 : decode cX8_divides 1 = .ok (.iconst 3, 1) := by decide +kernel
theorem dX8_divides_2 : decode cX8_divides 2 = .ok (.if_icmp .eq 8, 3) := by decide +kernel
theorem dX8_divides_5 : decode cX8_divides 5 = .ok (.iload_n 0, 1) := by decide +kernel
theorem dX8_divides_6 : decode cX8_divides 6 = .ok (.iconst 4, 1) := by decide +kernel
theorem dX8_divides_7 : decode cX8_divides 7 = .ok (.if_icmp .ne 7, 3) := by decide +kernel
theorem dX8_divides_10 : decode cX8_divides 10 = .ok (.iconst 1, 1) := by decide +kernel
theorem dX8_divides_11 : decode cX8_divides 11 = .ok (.goto 4, 3) := by decide +kernel
theorem dX8_divides_14 : decode cX8_divides 14 = .ok (.iconst 0, 1) := by decide +kernel
theorem dX8_divides_15 : decode cX8_divides 15 = .ok (.ireturn, 1) := by decide +kernel
theorem dX8_fine_0 : decode cX8_fine 0 = .ok (.iload_n 0, 1) := by decide +kernel
theorem dX8_fine_1 : decode cX8_fine 1 = .ok (.tableswitch 170 0 12 #[67, 71, 75, 79, 83, 89, 103, 117, 123, 129, 134, 141, 146], 67) := by decide +kernel
theorem dX8_fine_68 : decode cX8_fine 68 = .ok (.dload_n 1, 1) := by decide +kernel
theorem dX8_fine_69 : decode cX8_fine 69 = .ok (.dload_n 3, 1) := by decide +kernel
theorem dX8_fine_70 : decode cX8_fine 70 = .ok (.dadd, 1) := by decide +kernel
theorem dX8_fine_71 : decode cX8_fine 71 = .ok (.dreturn, 1) := by decide +kernel
theorem dX8_fine_72 : decode cX8_fine 72 = .ok (.dload_n 1, 1) := by decide +kernel
theorem dX8_fine_73 : decode cX8_fine 73 = .ok (.dload_n 3, 1) := by decide +kernel
theorem dX8_fine_74 : decode cX8_fine 74 = .ok (.dsub, 1) := by decide +kernel
theorem dX8_fine_75 : decode cX8_fine 75 = .ok (.dreturn, 1) := by decide +kernel
theorem dX8_fine_76 : decode cX8_fine 76 = .ok (.dload_n 1, 1) := by decide +kernel
theorem dX8_fine_77 : decode cX8_fine 77 = .ok (.dload_n 3, 1) := by decide +kernel
theorem dX8_fine_78 : decode cX8_fine 78 = .ok (.dmul, 1) := by decide +kernel
theorem dX8_fine_79 : decode cX8_fine 79 = .ok (.dreturn, 1) := by decide +kernel
theorem dX8_fine_80 : decode cX8_fine 80 = .ok (.dload_n 1, 1) := by decide +kernel
theorem dX8_fine_81 : decode cX8_fine 81 = .ok (.dload_n 3, 1) := by decide +kernel
theorem dX8_fine_82 : decode cX8_fine 82 = .ok (.ddiv, 1) := by decide +kernel
theorem dX8_fine_83 : decode cX8_fine 83 = .ok (.dreturn, 1) := by decide +kernel
theorem dX8_fine_84 : decode cX8_fine 84 = .ok (.dload_n 1, 1) := by decide +kernel
theorem dX8_fine_85 : decode cX8_fine 85 = .ok (.dload_n 3, 1) := by decide +kernel
theorem dX8_fine_86 : decode cX8_fine 86 = .ok (.invokestatic 9, 3) := by decide +kernel
theorem dX8_fine_89 : decode cX8_fine 89 = .ok (.dreturn, 1) := by decide +kernel
theorem dX8_fine_90 : decode cX8_fine 90 = .ok (.dload_n 1, 1) := by decide +kernel
theorem dX8_fine_91 : decode cX8_fine 91 = .ok (.dload_n 3, 1) := by decide +kernel
theorem dX8_fine_92 : decode cX8_fine 92 = .ok (.invokestatic 13, 3) := by decide +kernel
theorem dX8_fine_95 : decode cX8_fine 95 = .ok (.ifCond .eq 7, 3) := by decide +kernel
theorem dX8_fine_98 : decode cX8_fine 98 = .ok (.dload_n 1, 1) := by decide +kernel
theorem dX8_fine_99 : decode cX8_fine 99 = .ok (.goto 4, 3) := by decide +kernel
theorem dX8_fine_102 : decode cX8_fine 102 = .ok (.dload_n 3, 1) := by decide +kernel
theorem dX8_fine_103 : decode cX8_fine 103 = .ok (.dreturn, 1) := by decide +kernel
theorem dX8_fine_104 : decode cX8_fine 104 = .ok (.dload_n 1, 1) := by decide +kernel
theorem dX8_fine_105 : decode cX8_fine 105 = .ok (.dload_n 3, 1) := by decide +kernel
theorem dX8_fine_106 : decode cX8_fine 106 = .ok (.invokestatic 13, 3) := by decide +kernel
theorem dX8_fine_109 : decode cX8_fine 109 = .ok (.ifCond .eq 7, 3) := by decide +kernel
theorem dX8_fine_112 : decode cX8_fine 112 = .ok (.dload_n 3, 1) := by decide +kernel
theorem dX8_fine_113 : decode cX8_fine 113 = .ok (.goto 4, 3) := by decide +kernel
theorem dX8_fine_116 : decode cX8_fine 116 = .ok (.dload_n 1, 1) := by decide +kernel
theorem dX8_fine_117 : decode cX8_fine 117 = .ok (.dreturn, 1) := by decide +kernel
theorem dX8_fine_118 : decode cX8_fine 118 = .ok (.dload_n 1, 1) := by decide +kernel
theorem dX8_fine_119 : decode cX8_fine 119 = .ok (.dload_n 3, 1) := by decide +kernel
theorem dX8_fine_120 : decode cX8_fine 120 = .ok (.invokestatic 17, 3) := by decide +kernel
theorem dX8_fine_123 : decode cX8_fine 123 = .ok (.dreturn, 1) := by decide +kernel
theorem dX8_fine_124 : decode cX8_fine 124 = .ok (.dload_n 3, 1) := by decide +kernel
theorem dX8_fine_125 : decode cX8_fine 125 = .ok (.dconst 1, 1) := by decide +kernel
theorem dX8_fine_126 : decode cX8_fine 126 = .ok (.invokestatic 17, 3) := by decide +kernel
theorem dX8_fine_129 : decode cX8_fine 129 = .ok (.dreturn, 1) := by decide +kernel
theorem dX8_fine_130 : decode cX8_fine 130 = .ok (.dload_n 3, 1) := by decide +kernel
theorem dX8_fine_131 : decode cX8_fine 131 = .ok (.invokestatic 20, 3) := by decide +kernel
theorem dX8_fine_134 : decode cX8_fine 134 = .ok (.dreturn, 1) := by decide +kernel
theorem dX8_fine_135 : decode cX8_fine 135 = .ok (.dload_n 3, 1) := by decide +kernel
theorem dX8_fine_136 : decode cX8_fine 136 = .ok (.dneg, 1) := by decide +kernel
theorem dX8_fine_137 : decode cX8_fine 137 = .ok (.invokestatic 20, 3) := by decide +kernel
theorem dX8_fine_140 : decode cX8_fine 140 = .ok (.dneg, 1) := by decide +kernel
theorem dX8_fine_141 : decode cX8_fine 141 = .ok (.dreturn, 1) := by decide +kernel
theorem dX8_fine_142 : decode cX8_fine 142 = .ok (.dload_n 3, 1) := by decide +kernel
theorem dX8_fine_143 : decode cX8_fine 143 = .ok (.invokestatic 24, 3) := by decide +kernel
theorem dX8_fine_146 : decode cX8_fine 146 = .ok (.dreturn, 1) := by decide +kernel
theorem dX8_fine_147 : decode cX8_fine 147 = .ok (.dload_n 3, 1) := by decide +kernel
theorem dX8_fine_148 : decode cX8_fine 148 = .ok (.dconst 0, 1) := by decide +kernel
theorem dX8_fine_149 : decode cX8_fine 149 = .ok (.dcmp .l, 1) := by decide +kernel
theorem dX8_fine_150 : decode cX8_fine 150 = .ok (.ifCond .le 7, 3) := by decide +kernel
theorem dX8_fine_153 : decode cX8_fine 153 = .ok (.dconst 1, 1) := by decide +kernel
theorem dX8_fine_154 : decode cX8_fine 154 = .ok (.goto 16, 3) := by decide +kernel
theorem dX8_fine_157 : decode cX8_fine 157 = .ok (.dload_n 3, 1) := by decide +kernel
theorem dX8_fine_158 : decode cX8_fine 158 = .ok (.dconst 0, 1) := by decide +kernel
theorem dX8_fine_159 : decode cX8_fine 159 = .ok (.dcmp .g, 1) := by decide +kernel
theorem dX8_fine_160 : decode cX8_fine 160 = .ok (.ifCond .ge 9, 3) := by decide +kernel
theorem dX8_fine_163 : decode cX8_fine 163 = .ok (.ldc2_w 27, 3) := by decide +kernel
theorem dX8_fine_166 : decode cX8_fine 166 = .ok (.goto 4, 3) := by decide +kernel
theorem dX8_fine_169 : decode cX8_fine 169 = .ok (.dload_n 3, 1) := by decide +kernel
theorem dX8_fine_170 : decode cX8_fine 170 = .ok (.dreturn, 1) := by decide +kernel
theorem dX8_fine_171 : decode cX8_fine 171 = .ok (.dload_n 3, 1) := by decide +kernel
theorem dX8_fine_172 : decode cX8_fine 172 = .ok (.d2l, 1) := by decide +kernel
theorem dX8_fine_173 : decode cX8_fine 173 = .ok (.l2d, 1) := by decide +kernel
theorem dX8_fine_174 : decode cX8_fine 174 = .ok (.dreturn, 1) := by decide +kernel
theorem dX8_rough_0 : decode cX8_rough 0 = .ok (.iload_n 0, 1) := by decide +kernel
theorem dX8_rough_1 : decode cX8_rough 1 = .ok (.tableswitch 51 0 3 #[31, 36, 41, 46], 31) := by decide +kernel
theorem dX8_rough_32 : decode cX8_rough 32 = .ok (.fload_n 1, 1) := by decide +kernel
theorem dX8_rough_33 : decode cX8_rough 33 = .ok (.fload_n 2, 1) := by decide +kernel
theorem dX8_rough_34 : decode cX8_rough 34 = .ok (.fadd, 1) := by decide +kernel
theorem dX8_rough_35 : decode cX8_rough 35 = .ok (.f2d, 1) := by decide +kernel
theorem dX8_rough_36 : decode cX8_rough 36 = .ok (.dreturn, 1) := by decide +kernel
theorem dX8_rough_37 : decode cX8_rough 37 = .ok (.fload_n 1, 1) := by decide +kernel
theorem dX8_rough_38 : decode cX8_rough 38 = .ok (.fload_n 2, 1) := by decide +kernel
theorem dX8_rough_39 : decode cX8_rough 39 = .ok (.fsub, 1) := by decide +kernel
theorem dX8_rough_40 : decode cX8_rough 40 = .ok (.f2d, 1) := by decide +kernel
theorem dX8_rough_41 : decode cX8_rough 41 = .ok (.dreturn, 1) := by decide +kernel
theorem dX8_rough_42 : decode cX8_rough 42 = .ok (.fload_n 1, 1) := by decide +kernel
theorem dX8_rough_43 : decode cX8_rough 43 = .ok (.fload_n 2, 1) := by decide +kernel
theorem dX8_rough_44 : decode cX8_rough 44 = .ok (.fmul, 1) := by decide +kernel
theorem dX8_rough_45 : decode cX8_rough 45 = .ok (.f2d, 1) := by decide +kernel
theorem dX8_rough_46 : decode cX8_rough 46 = .ok (.dreturn, 1) := by decide +kernel
theorem dX8_rough_47 : decode cX8_rough 47 = .ok (.fload_n 1, 1) := by decide +kernel
theorem dX8_rough_48 : decode cX8_rough 48 = .ok (.fload_n 2, 1) := by decide +kernel
theorem dX8_rough_49 : decode cX8_rough 49 = .ok (.fdiv, 1) := by decide +kernel
theorem dX8_rough_50 : decode cX8_rough 50 = .ok (.f2d, 1) := by decide +kernel
theorem dX8_rough_51 : decode cX8_rough 51 = .ok (.dreturn, 1) := by decide +kernel
theorem dX8_rough_52 : decode cX8_rough 52 = .ok (.iload_n 0, 1) := by decide +kernel
theorem dX8_rough_53 : decode cX8_rough 53 = .ok (.fload_n 1, 1) := by decide +kernel
theorem dX8_rough_54 : decode cX8_rough 54 = .ok (.f2d, 1) := by decide +kernel
theorem dX8_rough_55 : decode cX8_rough 55 = .ok (.fload_n 2, 1) := by decide +kernel
theorem dX8_rough_56 : decode cX8_rough 56 = .ok (.f2d, 1) := by decide +kernel
theorem dX8_rough_57 : decode cX8_rough 57 = .ok (.invokestatic 29, 3) := by decide +kernel
theorem dX8_rough_60 : decode cX8_rough 60 = .ok (.dreturn, 1) := by decide +kernel
theorem dX8_whole_0 : decode cX8_whole 0 = .ok (.iload_n 0, 1) := by decide +kernel
theorem dX8_whole_1 : decode cX8_whole 1 = .ok (.tableswitch 87 0 6 #[43, 47, 51, 55, 67, 79, 83], 43) := by decide +kernel
theorem dX8_whole_44 : decode cX8_whole 44 = .ok (.iload_n 1, 1) := by decide +kernel
theorem dX8_whole_45 : decode cX8_whole 45 = .ok (.iload_n 2, 1) := by decide +kernel
theorem dX8_whole_46 : decode cX8_whole 46 = .ok (.iadd, 1) := by decide +kernel
theorem dX8_whole_47 : decode cX8_whole 47 = .ok (.ireturn, 1) := by decide +kernel
theorem dX8_whole_48 : decode cX8_whole 48 = .ok (.iload_n 1, 1) := by decide +kernel
theorem dX8_whole_49 : decode cX8_whole 49 = .ok (.iload_n 2, 1) := by decide +kernel
theorem dX8_whole_50 : decode cX8_whole 50 = .ok (.isub, 1) := by decide +kernel
theorem dX8_whole_51 : decode cX8_whole 51 = .ok (.ireturn, 1) := by decide +kernel
theorem dX8_whole_52 : decode cX8_whole 52 = .ok (.iload_n 1, 1) := by decide +kernel
theorem dX8_whole_53 : decode cX8_whole 53 = .ok (.iload_n 2, 1) := by decide +kernel
theorem dX8_whole_54 : decode cX8_whole 54 = .ok (.imul, 1) := by decide +kernel
theorem dX8_whole_55 : decode cX8_whole 55 = .ok (.ireturn, 1) := by decide +kernel
theorem dX8_whole_56 : decode cX8_whole 56 = .ok (.iload_n 2, 1) := by decide +kernel
theorem dX8_whole_57 : decode cX8_whole 57 = .ok (.ifCond .ne 7, 3) := by decide +kernel
theorem dX8_whole_60 : decode cX8_whole 60 = .ok (.iconst 0, 1) := by decide +kernel
theorem dX8_whole_61 : decode cX8_whole 61 = .ok (.goto 6, 3) := by decide +kernel
theorem dX8_whole_64 : decode cX8_whole 64 = .ok (.iload_n 1, 1) := by decide +kernel
theorem dX8_whole_65 : decode cX8_whole 65 = .ok (.iload_n 2, 1) := by decide +kernel
theorem dX8_whole_66 : decode cX8_whole 66 = .ok (.idiv, 1) := by decide +kernel
theorem dX8_whole_67 : decode cX8_whole 67 = .ok (.ireturn, 1) := by decide +kernel
theorem dX8_whole_68 : decode cX8_whole 68 = .ok (.iload_n 2, 1) := by decide +kernel
theorem dX8_whole_69 : decode cX8_whole 69 = .ok (.ifCond .ne 7, 3) := by decide +kernel
theorem dX8_whole_72 : decode cX8_whole 72 = .ok (.iconst 0, 1) := by decide +kernel
theorem dX8_whole_73 : decode cX8_whole 73 = .ok (.goto 6, 3) := by decide +kernel
theorem dX8_whole_76 : decode cX8_whole 76 = .ok (.iload_n 1, 1) := by decide +kernel
theorem dX8_whole_77 : decode cX8_whole 77 = .ok (.iload_n 2, 1) := by decide +kernel
theorem dX8_whole_78 : decode cX8_whole 78 = .ok (.irem, 1) := by decide +kernel
theorem dX8_whole_79 : decode cX8_whole 79 = .ok (.ireturn, 1) := by decide +kernel
theorem dX8_whole_80 : decode cX8_whole 80 = .ok (.iload_n 1, 1) := by decide +kernel
theorem dX8_whole_81 : decode cX8_whole 81 = .ok (.iload_n 2, 1) := by decide +kernel
theorem dX8_whole_82 : decode cX8_whole 82 = .ok (.iand, 1) := by decide +kernel
theorem dX8_whole_83 : decode cX8_whole 83 = .ok (.ireturn, 1) := by decide +kernel
theorem dX8_whole_84 : decode cX8_whole 84 = .ok (.iload_n 1, 1) := by decide +kernel
theorem dX8_whole_85 : decode cX8_whole 85 = .ok (.iload_n 2, 1) := by decide +kernel
theorem dX8_whole_86 : decode cX8_whole 86 = .ok (.ior, 1) := by decide +kernel
theorem dX8_whole_87 : decode cX8_whole 87 = .ok (.ireturn, 1) := by decide +kernel
theorem dX8_whole_88 : decode cX8_whole 88 = .ok (.iload_n 1, 1) := by decide +kernel
theorem dX8_whole_89 : decode cX8_whole 89 = .ok (.iload_n 2, 1) := by decide +kernel
theorem dX8_whole_90 : decode cX8_whole 90 = .ok (.ixor, 1) := by decide +kernel
theorem dX8_whole_91 : decode cX8_whole 91 = .ok (.ireturn, 1) := by decide +kernel
theorem dX8_wide_0 : decode cX8_wide 0 = .ok (.iload_n 0, 1) := by decide +kernel
theorem dX8_wide_1 : decode cX8_wide 1 = .ok (.tableswitch 91 0 6 #[43, 47, 51, 55, 69, 83, 87], 43) := by decide +kernel
theorem dX8_wide_44 : decode cX8_wide 44 = .ok (.lload_n 1, 1) := by decide +kernel
theorem dX8_wide_45 : decode cX8_wide 45 = .ok (.lload_n 3, 1) := by decide +kernel
theorem dX8_wide_46 : decode cX8_wide 46 = .ok (.ladd, 1) := by decide +kernel
theorem dX8_wide_47 : decode cX8_wide 47 = .ok (.lreturn, 1) := by decide +kernel
theorem dX8_wide_48 : decode cX8_wide 48 = .ok (.lload_n 1, 1) := by decide +kernel
theorem dX8_wide_49 : decode cX8_wide 49 = .ok (.lload_n 3, 1) := by decide +kernel
theorem dX8_wide_50 : decode cX8_wide 50 = .ok (.lsub, 1) := by decide +kernel
theorem dX8_wide_51 : decode cX8_wide 51 = .ok (.lreturn, 1) := by decide +kernel
theorem dX8_wide_52 : decode cX8_wide 52 = .ok (.lload_n 1, 1) := by decide +kernel
theorem dX8_wide_53 : decode cX8_wide 53 = .ok (.lload_n 3, 1) := by decide +kernel
theorem dX8_wide_54 : decode cX8_wide 54 = .ok (.lmul, 1) := by decide +kernel
theorem dX8_wide_55 : decode cX8_wide 55 = .ok (.lreturn, 1) := by decide +kernel
theorem dX8_wide_56 : decode cX8_wide 56 = .ok (.lload_n 3, 1) := by decide +kernel
theorem dX8_wide_57 : decode cX8_wide 57 = .ok (.lconst 0, 1) := by decide +kernel
theorem dX8_wide_58 : decode cX8_wide 58 = .ok (.lcmp, 1) := by decide +kernel
theorem dX8_wide_59 : decode cX8_wide 59 = .ok (.ifCond .ne 7, 3) := by decide +kernel
theorem dX8_wide_62 : decode cX8_wide 62 = .ok (.lconst 0, 1) := by decide +kernel
theorem dX8_wide_63 : decode cX8_wide 63 = .ok (.goto 6, 3) := by decide +kernel
theorem dX8_wide_66 : decode cX8_wide 66 = .ok (.lload_n 1, 1) := by decide +kernel
theorem dX8_wide_67 : decode cX8_wide 67 = .ok (.lload_n 3, 1) := by decide +kernel
theorem dX8_wide_68 : decode cX8_wide 68 = .ok (.ldiv, 1) := by decide +kernel
theorem dX8_wide_69 : decode cX8_wide 69 = .ok (.lreturn, 1) := by decide +kernel
theorem dX8_wide_70 : decode cX8_wide 70 = .ok (.lload_n 3, 1) := by decide +kernel
theorem dX8_wide_71 : decode cX8_wide 71 = .ok (.lconst 0, 1) := by decide +kernel
theorem dX8_wide_72 : decode cX8_wide 72 = .ok (.lcmp, 1) := by decide +kernel
theorem dX8_wide_73 : decode cX8_wide 73 = .ok (.ifCond .ne 7, 3) := by decide +kernel
theorem dX8_wide_76 : decode cX8_wide 76 = .ok (.lconst 0, 1) := by decide +kernel
theorem dX8_wide_77 : decode cX8_wide 77 = .ok (.goto 6, 3) := by decide +kernel
theorem dX8_wide_80 : decode cX8_wide 80 = .ok (.lload_n 1, 1) := by decide +kernel
theorem dX8_wide_81 : decode cX8_wide 81 = .ok (.lload_n 3, 1) := by decide +kernel
theorem dX8_wide_82 : decode cX8_wide 82 = .ok (.lrem, 1) := by decide +kernel
theorem dX8_wide_83 : decode cX8_wide 83 = .ok (.lreturn, 1) := by decide +kernel
theorem dX8_wide_84 : decode cX8_wide 84 = .ok (.lload_n 1, 1) := by decide +kernel
theorem dX8_wide_85 : decode cX8_wide 85 = .ok (.lload_n 3, 1) := by decide +kernel
theorem dX8_wide_86 : decode cX8_wide 86 = .ok (.land, 1) := by decide +kernel
theorem dX8_wide_87 : decode cX8_wide 87 = .ok (.lreturn, 1) := by decide +kernel
theorem dX8_wide_88 : decode cX8_wide 88 = .ok (.lload_n 1, 1) := by decide +kernel
theorem dX8_wide_89 : decode cX8_wide 89 = .ok (.lload_n 3, 1) := by decide +kernel
theorem dX8_wide_90 : decode cX8_wide 90 = .ok (.lor, 1) := by decide +kernel
theorem dX8_wide_91 : decode cX8_wide 91 = .ok (.lreturn, 1) := by decide +kernel
theorem dX8_wide_92 : decode cX8_wide 92 = .ok (.lload_n 1, 1) := by decide +kernel
theorem dX8_wide_93 : decode cX8_wide 93 = .ok (.lload_n 3, 1) := by decide +kernel
theorem dX8_wide_94 : decode cX8_wide 94 = .ok (.lxor, 1) := by decide +kernel
theorem dX8_wide_95 : decode cX8_wide 95 = .ok (.lreturn, 1) := by decide +kernel
theorem dX8_hasMinus_0 : decode cX8_hasMinus 0 = .ok (.dload_n 0, 1) := by decide +kernel
theorem dX8_hasMinus_1 : decode cX8_hasMinus 1 = .ok (.dconst 0, 1) := by decide +kernel
theorem dX8_hasMinus_2 : decode cX8_hasMinus 2 = .ok (.dcmp .g, 1) := by decide +kernel
theorem dX8_hasMinus_3 : decode cX8_hasMinus 3 = .ok (.ifCond .lt 17, 3) := by decide +kernel
theorem dX8_hasMinus_6 : decode cX8_hasMinus 6 = .ok (.dload_n 0, 1) := by decide +kernel
theorem dX8_hasMinus_7 : decode cX8_hasMinus 7 = .ok (.dconst 0, 1) := by decide +kernel
theorem dX8_hasMinus_8 : decode cX8_hasMinus 8 = .ok (.dcmp .l, 1) := by decide +kernel
theorem dX8_hasMinus_9 : decode cX8_hasMinus 9 = .ok (.ifCond .ne 15, 3) := by decide +kernel
theorem dX8_hasMinus_12 : decode cX8_hasMinus 12 = .ok (.dconst 1, 1) := by decide +kernel
theorem dX8_hasMinus_13 : decode cX8_hasMinus 13 = .ok (.dload_n 0, 1) := by decide +kernel
theorem dX8_hasMinus_14 : decode cX8_hasMinus 14 = .ok (.ddiv, 1) := by decide +kernel
theorem dX8_hasMinus_15 : decode cX8_hasMinus 15 = .ok (.dconst 0, 1) := by decide +kernel
theorem dX8_hasMinus_16 : decode cX8_hasMinus 16 = .ok (.dcmp .g, 1) := by decide +kernel
theorem dX8_hasMinus_17 : decode cX8_hasMinus 17 = .ok (.ifCond .ge 7, 3) := by decide +kernel
theorem dX8_hasMinus_20 : decode cX8_hasMinus 20 = .ok (.iconst 1, 1) := by decide +kernel
theorem dX8_hasMinus_21 : decode cX8_hasMinus 21 = .ok (.goto 4, 3) := by decide +kernel
theorem dX8_hasMinus_24 : decode cX8_hasMinus 24 = .ok (.iconst 0, 1) := by decide +kernel
theorem dX8_hasMinus_25 : decode cX8_hasMinus 25 = .ok (.ireturn, 1) := by decide +kernel
theorem dX8_isLess_0 : decode cX8_isLess 0 = .ok (.dload_n 0, 1) := by decide +kernel
theorem dX8_isLess_1 : decode cX8_isLess 1 = .ok (.dload_n 2, 1) := by decide +kernel
theorem dX8_isLess_2 : decode cX8_isLess 2 = .ok (.dcmp .g, 1) := by decide +kernel
theorem dX8_isLess_3 : decode cX8_isLess 3 = .ok (.ifCond .lt 16, 3) := by decide +kernel
theorem dX8_isLess_6 : decode cX8_isLess 6 = .ok (.dload_n 0, 1) := by decide +kernel
theorem dX8_isLess_7 : decode cX8_isLess 7 = .ok (.dload_n 2, 1) := by decide +kernel
theorem dX8_isLess_8 : decode cX8_isLess 8 = .ok (.dcmp .l, 1) := by decide +kernel
theorem dX8_isLess_9 : decode cX8_isLess 9 = .ok (.ifCond .ne 14, 3) := by decide +kernel
end
section
theorem dX8_isLess_12 : decode cX8_isLess 12 = .ok (.dload_n 0, 1) := by decide +kernel
theorem dX8_isLess_13 : decode cX8_isLess 13 = .ok (.invokestatic 33, 3) := by decide +kernel
theorem dX8_isLess_16 : decode cX8_isLess 16 = .ok (.ifCond .eq 7, 3) := by decide +kernel
theorem dX8_isLess_19 : decode cX8_isLess 19 = .ok (.iconst 1, 1) := by decide +kernel
theorem dX8_isLess_20 : decode cX8_isLess 20 = .ok (.goto 4, 3) := by decide +kernel
theorem dX8_isLess_23 : decode cX8_isLess 23 = .ok (.iconst 0, 1) := by decide +kernel
theorem dX8_isLess_24 : decode cX8_isLess 24 = .ok (.ireturn, 1) := by decide +kernel
theorem dX8_withSign_0 : decode cX8_withSign 0 = .ok (.dload_n 0, 1) := by decide +kernel
theorem dX8_withSign_1 : decode cX8_withSign 1 = .ok (.invokestatic 33, 3) := by decide +kernel
theorem dX8_withSign_4 : decode cX8_withSign 4 = .ok (.dload_n 2, 1) := by decide +kernel
theorem dX8_withSign_5 : decode cX8_withSign 5 = .ok (.invokestatic 33, 3) := by decide +kernel
theorem dX8_withSign_8 : decode cX8_withSign 8 = .ok (.if_icmp .ne 7, 3) := by decide +kernel
theorem dX8_withSign_11 : decode cX8_withSign 11 = .ok (.dload_n 0, 1) := by decide +kernel
theorem dX8_withSign_12 : decode cX8_withSign 12 = .ok (.goto 5, 3) := by decide +kernel
theorem dX8_withSign_15 : decode cX8_withSign 15 = .ok (.dload_n 0, 1) := by decide +kernel
theorem dX8_withSign_16 : decode cX8_withSign 16 = .ok (.dneg, 1) := by decide +kernel
theorem dX8_withSign_17 : decode cX8_withSign 17 = .ok (.dreturn, 1) := by decide +kernel
theorem dX8_wholeBelow_0 : decode cX8_wholeBelow 0 = .ok (.dload_n 0, 1) := by decide +kernel
theorem dX8_wholeBelow_1 : decode cX8_wholeBelow 1 = .ok (.dconst 0, 1) := by decide +kernel
theorem dX8_wholeBelow_2 : decode cX8_wholeBelow 2 = .ok (.dcmp .l, 1) := by decide +kernel
theorem dX8_wholeBelow_3 : decode cX8_wholeBelow 3 = .ok (.ifCond .ne 5, 3) := by decide +kernel
theorem dX8_wholeBelow_6 : decode cX8_wholeBelow 6 = .ok (.dload_n 0, 1) := by decide +kernel
theorem dX8_wholeBelow_7 : decode cX8_wholeBelow 7 = .ok (.dreturn, 1) := by decide +kernel
theorem dX8_wholeBelow_8 : decode cX8_wholeBelow 8 = .ok (.dload_n 0, 1) := by decide +kernel
theorem dX8_wholeBelow_9 : decode cX8_wholeBelow 9 = .ok (.d2l, 1) := by decide +kernel
theorem dX8_wholeBelow_10 : decode cX8_wholeBelow 10 = .ok (.l2d, 1) := by decide +kernel
theorem dX8_wholeBelow_11 : decode cX8_wholeBelow 11 = .ok (.dstore_n 2, 1) := by decide +kernel
theorem dX8_wholeBelow_12 : decode cX8_wholeBelow 12 = .ok (.dload_n 2, 1) := by decide +kernel
theorem dX8_wholeBelow_13 : decode cX8_wholeBelow 13 = .ok (.dload_n 0, 1) := by decide +kernel
theorem dX8_wholeBelow_14 : decode cX8_wholeBelow 14 = .ok (.dcmp .l, 1) := by decide +kernel
theorem dX8_wholeBelow_15 : decode cX8_wholeBelow 15 = .ok (.ifCond .le 9, 3) := by decide +kernel
theorem dX8_wholeBelow_18 : decode cX8_wholeBelow 18 = .ok (.dload_n 2, 1) := by decide +kernel
theorem dX8_wholeBelow_19 : decode cX8_wholeBelow 19 = .ok (.dconst 1, 1) := by decide +kernel
theorem dX8_wholeBelow_20 : decode cX8_wholeBelow 20 = .ok (.dsub, 1) := by decide +kernel
theorem dX8_wholeBelow_21 : decode cX8_wholeBelow 21 = .ok (.goto 4, 3) := by decide +kernel
theorem dX8_wholeBelow_24 : decode cX8_wholeBelow 24 = .ok (.dload_n 2, 1) := by decide +kernel
theorem dX8_wholeBelow_25 : decode cX8_wholeBelow 25 = .ok (.dreturn, 1) := by decide +kernel
theorem dX8_nearestWhole_0 : decode cX8_nearestWhole 0 = .ok (.dload_n 0, 1) := by decide +kernel
theorem dX8_nearestWhole_1 : decode cX8_nearestWhole 1 = .ok (.dconst 0, 1) := by decide +kernel
theorem dX8_nearestWhole_2 : decode cX8_nearestWhole 2 = .ok (.dcmp .l, 1) := by decide +kernel
theorem dX8_nearestWhole_3 : decode cX8_nearestWhole 3 = .ok (.ifCond .ne 5, 3) := by decide +kernel
theorem dX8_nearestWhole_6 : decode cX8_nearestWhole 6 = .ok (.dload_n 0, 1) := by decide +kernel
theorem dX8_nearestWhole_7 : decode cX8_nearestWhole 7 = .ok (.dreturn, 1) := by decide +kernel
theorem dX8_nearestWhole_8 : decode cX8_nearestWhole 8 = .ok (.dload_n 0, 1) := by decide +kernel
theorem dX8_nearestWhole_9 : decode cX8_nearestWhole 9 = .ok (.dconst 0, 1) := by decide +kernel
theorem dX8_nearestWhole_10 : decode cX8_nearestWhole 10 = .ok (.dcmp .g, 1) := by decide +kernel
theorem dX8_nearestWhole_11 : decode cX8_nearestWhole 11 = .ok (.ifCond .ge 8, 3) := by decide +kernel
theorem dX8_nearestWhole_14 : decode cX8_nearestWhole 14 = .ok (.dload_n 0, 1) := by decide +kernel
theorem dX8_nearestWhole_15 : decode cX8_nearestWhole 15 = .ok (.dneg, 1) := by decide +kernel
theorem dX8_nearestWhole_16 : decode cX8_nearestWhole 16 = .ok (.goto 4, 3) := by decide +kernel
theorem dX8_nearestWhole_19 : decode cX8_nearestWhole 19 = .ok (.dload_n 0, 1) := by decide +kernel
theorem dX8_nearestWhole_20 : decode cX8_nearestWhole 20 = .ok (.dstore_n 2, 1) := by decide +kernel
theorem dX8_nearestWhole_21 : decode cX8_nearestWhole 21 = .ok (.dload_n 2, 1) := by decide +kernel
theorem dX8_nearestWhole_22 : decode cX8_nearestWhole 22 = .ok (.d2l, 1) := by decide +kernel
theorem dX8_nearestWhole_23 : decode cX8_nearestWhole 23 = .ok (.lstore 4, 2) := by decide +kernel
theorem dX8_nearestWhole_25 : decode cX8_nearestWhole 25 = .ok (.dload_n 2, 1) := by decide +kernel
theorem dX8_nearestWhole_26 : decode cX8_nearestWhole 26 = .ok (.lload 4, 2) := by decide +kernel
theorem dX8_nearestWhole_28 : decode cX8_nearestWhole 28 = .ok (.l2d, 1) := by decide +kernel
theorem dX8_nearestWhole_29 : decode cX8_nearestWhole 29 = .ok (.dsub, 1) := by decide +kernel
theorem dX8_nearestWhole_30 : decode cX8_nearestWhole 30 = .ok (.dstore 6, 2) := by decide +kernel
theorem dX8_nearestWhole_32 : decode cX8_nearestWhole 32 = .ok (.dload 6, 2) := by decide +kernel
theorem dX8_nearestWhole_34 : decode cX8_nearestWhole 34 = .ok (.ldc2_w 37, 3) := by decide +kernel
theorem dX8_nearestWhole_37 : decode cX8_nearestWhole 37 = .ok (.dcmp .l, 1) := by decide +kernel
theorem dX8_nearestWhole_38 : decode cX8_nearestWhole 38 = .ok (.ifCond .gt 23, 3) := by decide +kernel
theorem dX8_nearestWhole_41 : decode cX8_nearestWhole 41 = .ok (.dload 6, 2) := by decide +kernel
theorem dX8_nearestWhole_43 : decode cX8_nearestWhole 43 = .ok (.ldc2_w 37, 3) := by decide +kernel
theorem dX8_nearestWhole_46 : decode cX8_nearestWhole 46 = .ok (.dcmp .l, 1) := by decide +kernel
theorem dX8_nearestWhole_47 : decode cX8_nearestWhole 47 = .ok (.ifCond .ne 20, 3) := by decide +kernel
theorem dX8_nearestWhole_50 : decode cX8_nearestWhole 50 = .ok (.lload 4, 2) := by decide +kernel
theorem dX8_nearestWhole_52 : decode cX8_nearestWhole 52 = .ok (.ldc2_w 39, 3) := by decide +kernel
theorem dX8_nearestWhole_55 : decode cX8_nearestWhole 55 = .ok (.lrem, 1) := by decide +kernel
theorem dX8_nearestWhole_56 : decode cX8_nearestWhole 56 = .ok (.lconst 1, 1) := by decide +kernel
theorem dX8_nearestWhole_57 : decode cX8_nearestWhole 57 = .ok (.lcmp, 1) := by decide +kernel
theorem dX8_nearestWhole_58 : decode cX8_nearestWhole 58 = .ok (.ifCond .ne 9, 3) := by decide +kernel
theorem dX8_nearestWhole_61 : decode cX8_nearestWhole 61 = .ok (.lload 4, 2) := by decide +kernel
theorem dX8_nearestWhole_63 : decode cX8_nearestWhole 63 = .ok (.lconst 1, 1) := by decide +kernel
theorem dX8_nearestWhole_64 : decode cX8_nearestWhole 64 = .ok (.ladd, 1) := by decide +kernel
theorem dX8_nearestWhole_65 : decode cX8_nearestWhole 65 = .ok (.lstore 4, 2) := by decide +kernel
theorem dX8_nearestWhole_67 : decode cX8_nearestWhole 67 = .ok (.lload 4, 2) := by decide +kernel
theorem dX8_nearestWhole_69 : decode cX8_nearestWhole 69 = .ok (.l2d, 1) := by decide +kernel
theorem dX8_nearestWhole_70 : decode cX8_nearestWhole 70 = .ok (.dstore 8, 2) := by decide +kernel
theorem dX8_nearestWhole_72 : decode cX8_nearestWhole 72 = .ok (.dload_n 0, 1) := by decide +kernel
theorem dX8_nearestWhole_73 : decode cX8_nearestWhole 73 = .ok (.dconst 0, 1) := by decide +kernel
theorem dX8_nearestWhole_74 : decode cX8_nearestWhole 74 = .ok (.dcmp .g, 1) := by decide +kernel
theorem dX8_nearestWhole_75 : decode cX8_nearestWhole 75 = .ok (.ifCond .ge 9, 3) := by decide +kernel
theorem dX8_nearestWhole_78 : decode cX8_nearestWhole 78 = .ok (.dload 8, 2) := by decide +kernel
theorem dX8_nearestWhole_80 : decode cX8_nearestWhole 80 = .ok (.dneg, 1) := by decide +kernel
theorem dX8_nearestWhole_81 : decode cX8_nearestWhole 81 = .ok (.goto 5, 3) := by decide +kernel
theorem dX8_nearestWhole_84 : decode cX8_nearestWhole 84 = .ok (.dload 8, 2) := by decide +kernel
theorem dX8_nearestWhole_86 : decode cX8_nearestWhole 86 = .ok (.dreturn, 1) := by decide +kernel
theorem dX8_rest_0 : decode cX8_rest 0 = .ok (.dload_n 0, 1) := by decide +kernel
theorem dX8_rest_1 : decode cX8_rest 1 = .ok (.dconst 0, 1) := by decide +kernel
theorem dX8_rest_2 : decode cX8_rest 2 = .ok (.dcmp .l, 1) := by decide +kernel
theorem dX8_rest_3 : decode cX8_rest 3 = .ok (.ifCond .ne 5, 3) := by decide +kernel
theorem dX8_rest_6 : decode cX8_rest 6 = .ok (.dload_n 0, 1) := by decide +kernel
theorem dX8_rest_7 : decode cX8_rest 7 = .ok (.dreturn, 1) := by decide +kernel
theorem dX8_rest_8 : decode cX8_rest 8 = .ok (.dload_n 2, 1) := by decide +kernel
theorem dX8_rest_9 : decode cX8_rest 9 = .ok (.dconst 0, 1) := by decide +kernel
theorem dX8_rest_10 : decode cX8_rest 10 = .ok (.dcmp .g, 1) := by decide +kernel
theorem dX8_rest_11 : decode cX8_rest 11 = .ok (.ifCond .ge 8, 3) := by decide +kernel
theorem dX8_rest_14 : decode cX8_rest 14 = .ok (.dload_n 2, 1) := by decide +kernel
theorem dX8_rest_15 : decode cX8_rest 15 = .ok (.dneg, 1) := by decide +kernel
theorem dX8_rest_16 : decode cX8_rest 16 = .ok (.goto 4, 3) := by decide +kernel
theorem dX8_rest_19 : decode cX8_rest 19 = .ok (.dload_n 2, 1) := by decide +kernel
theorem dX8_rest_20 : decode cX8_rest 20 = .ok (.dstore 4, 2) := by decide +kernel
theorem dX8_rest_22 : decode cX8_rest 22 = .ok (.dload_n 0, 1) := by decide +kernel
theorem dX8_rest_23 : decode cX8_rest 23 = .ok (.dconst 0, 1) := by decide +kernel
theorem dX8_rest_24 : decode cX8_rest 24 = .ok (.dcmp .g, 1) := by decide +kernel
theorem dX8_rest_25 : decode cX8_rest 25 = .ok (.ifCond .ge 8, 3) := by decide +kernel
theorem dX8_rest_28 : decode cX8_rest 28 = .ok (.dload_n 0, 1) := by decide +kernel
theorem dX8_rest_29 : decode cX8_rest 29 = .ok (.dneg, 1) := by decide +kernel
theorem dX8_rest_30 : decode cX8_rest 30 = .ok (.goto 4, 3) := by decide +kernel
theorem dX8_rest_33 : decode cX8_rest 33 = .ok (.dload_n 0, 1) := by decide +kernel
theorem dX8_rest_34 : decode cX8_rest 34 = .ok (.dstore 6, 2) := by decide +kernel
theorem dX8_rest_36 : decode cX8_rest 36 = .ok (.dload 4, 2) := by decide +kernel
theorem dX8_rest_38 : decode cX8_rest 38 = .ok (.dstore 8, 2) := by decide +kernel
theorem dX8_rest_40 : decode cX8_rest 40 = .ok (.iconst 0, 1) := by decide +kernel
theorem dX8_rest_41 : decode cX8_rest 41 = .ok (.istore 10, 2) := by decide +kernel
theorem dX8_rest_43 : decode cX8_rest 43 = .ok (.iload 10, 2) := by decide +kernel
theorem dX8_rest_45 : decode cX8_rest 45 = .ok (.sipush 1200, 3) := by decide +kernel
theorem dX8_rest_48 : decode cX8_rest 48 = .ok (.if_icmp .ge 27, 3) := by decide +kernel
theorem dX8_rest_51 : decode cX8_rest 51 = .ok (.dload 8, 2) := by decide +kernel
theorem dX8_rest_53 : decode cX8_rest 53 = .ok (.dload 8, 2) := by decide +kernel
theorem dX8_rest_55 : decode cX8_rest 55 = .ok (.dadd, 1) := by decide +kernel
theorem dX8_rest_56 : decode cX8_rest 56 = .ok (.dload 6, 2) := by decide +kernel
theorem dX8_rest_58 : decode cX8_rest 58 = .ok (.dcmp .g, 1) := by decide +kernel
theorem dX8_rest_59 : decode cX8_rest 59 = .ok (.ifCond .gt 16, 3) := by decide +kernel
theorem dX8_rest_62 : decode cX8_rest 62 = .ok (.dload 8, 2) := by decide +kernel
theorem dX8_rest_64 : decode cX8_rest 64 = .ok (.dload 8, 2) := by decide +kernel
theorem dX8_rest_66 : decode cX8_rest 66 = .ok (.dadd, 1) := by decide +kernel
theorem dX8_rest_67 : decode cX8_rest 67 = .ok (.dstore 8, 2) := by decide +kernel
theorem dX8_rest_69 : decode cX8_rest 69 = .ok (.iinc 10 1, 3) := by decide +kernel
theorem dX8_rest_72 : decode cX8_rest 72 = .ok (.goto (-29), 3) := by decide +kernel
theorem dX8_rest_75 : decode cX8_rest 75 = .ok (.iload 10, 2) := by decide +kernel
theorem dX8_rest_77 : decode cX8_rest 77 = .ok (.istore 11, 2) := by decide +kernel
theorem dX8_rest_79 : decode cX8_rest 79 = .ok (.iload 11, 2) := by decide +kernel
theorem dX8_rest_81 : decode cX8_rest 81 = .ok (.ifCond .lt 40, 3) := by decide +kernel
theorem dX8_rest_84 : decode cX8_rest 84 = .ok (.dload 6, 2) := by decide +kernel
theorem dX8_rest_86 : decode cX8_rest 86 = .ok (.dload 4, 2) := by decide +kernel
theorem dX8_rest_88 : decode cX8_rest 88 = .ok (.dcmp .l, 1) := by decide +kernel
theorem dX8_rest_89 : decode cX8_rest 89 = .ok (.ifCond .lt 32, 3) := by decide +kernel
theorem dX8_rest_92 : decode cX8_rest 92 = .ok (.dload 6, 2) := by decide +kernel
theorem dX8_rest_94 : decode cX8_rest 94 = .ok (.dload 8, 2) := by decide +kernel
theorem dX8_rest_96 : decode cX8_rest 96 = .ok (.dcmp .l, 1) := by decide +kernel
theorem dX8_rest_97 : decode cX8_rest 97 = .ok (.ifCond .lt 10, 3) := by decide +kernel
theorem dX8_rest_100 : decode cX8_rest 100 = .ok (.dload 6, 2) := by decide +kernel
theorem dX8_rest_102 : decode cX8_rest 102 = .ok (.dload 8, 2) := by decide +kernel
theorem dX8_rest_104 : decode cX8_rest 104 = .ok (.dsub, 1) := by decide +kernel
theorem dX8_rest_105 : decode cX8_rest 105 = .ok (.dstore 6, 2) := by decide +kernel
theorem dX8_rest_107 : decode cX8_rest 107 = .ok (.dload 8, 2) := by decide +kernel
theorem dX8_rest_109 : decode cX8_rest 109 = .ok (.ldc2_w 41, 3) := by decide +kernel
theorem dX8_rest_112 : decode cX8_rest 112 = .ok (.ddiv, 1) := by decide +kernel
theorem dX8_rest_113 : decode cX8_rest 113 = .ok (.dstore 8, 2) := by decide +kernel
theorem dX8_rest_115 : decode cX8_rest 115 = .ok (.iinc 11 (-1), 3) := by decide +kernel
theorem dX8_rest_118 : decode cX8_rest 118 = .ok (.goto (-39), 3) := by decide +kernel
theorem dX8_rest_121 : decode cX8_rest 121 = .ok (.dload_n 0, 1) := by decide +kernel
theorem dX8_rest_122 : decode cX8_rest 122 = .ok (.dconst 0, 1) := by decide +kernel
theorem dX8_rest_123 : decode cX8_rest 123 = .ok (.dcmp .g, 1) := by decide +kernel
theorem dX8_rest_124 : decode cX8_rest 124 = .ok (.ifCond .ge 9, 3) := by decide +kernel
theorem dX8_rest_127 : decode cX8_rest 127 = .ok (.dload 6, 2) := by decide +kernel
theorem dX8_rest_129 : decode cX8_rest 129 = .ok (.dneg, 1) := by decide +kernel
theorem dX8_rest_130 : decode cX8_rest 130 = .ok (.goto 5, 3) := by decide +kernel
theorem dX8_rest_133 : decode cX8_rest 133 = .ok (.dload 6, 2) := by decide +kernel
theorem dX8_rest_135 : decode cX8_rest 135 = .ok (.dreturn, 1) := by decide +kernel
theorem dX9_init_0 : decode cX9_init 0 = .ok (.aload_n 0, 1) := by decide +kernel
theorem dX9_init_1 : decode cX9_init 1 = .ok (.invokespecial 1, 3) := by decide +kernel
theorem dX9_init_4 : decode cX9_init 4 = .ok (.aload_n 0, 1) := by decide +kernel
theorem dX9_init_5 : decode cX9_init 5 = .ok (.new 7, 3) := by decide +kernel
theorem dX9_init_8 : decode cX9_init 8 = .ok (.dup, 1) := by decide +kernel
theorem dX9_init_9 : decode cX9_init 9 = .ok (.invokespecial 9, 3) := by decide +kernel
theorem dX9_init_12 : decode cX9_init 12 = .ok (.putfield 10, 3) := by decide +kernel
theorem dX9_init_15 : decode cX9_init 15 = .ok (.return_, 1) := by decide +kernel
theorem dX9_choose_0 : decode cX9_choose 0 = .ok (.aload_n 0, 1) := by decide +kernel
theorem dX9_choose_1 : decode cX9_choose 1 = .ok (.getfield 10, 3) := by decide +kernel
theorem dX9_choose_4 : decode cX9_choose 4 = .ok (.iload_n 1, 1) := by decide +kernel
theorem dX9_choose_5 : decode cX9_choose 5 = .ok (.invokevirtual 16, 3) := by decide +kernel
theorem dX9_choose_8 : decode cX9_choose 8 = .ok (.astore_n 2, 1) := by decide +kernel
theorem dX9_choose_9 : decode cX9_choose 9 = .ok (.aload_n 2, 1) := by decide +kernel
theorem dX9_choose_10 : decode cX9_choose 10 = .ok (.ifnonnull 5, 3) := by decide +kernel
theorem dX9_choose_13 : decode cX9_choose 13 = .ok (.iconst (-1), 1) := by decide +kernel
theorem dX9_choose_14 : decode cX9_choose 14 = .ok (.ireturn, 1) := by decide +kernel
theorem dX9_choose_15 : decode cX9_choose 15 = .ok (.aload_n 0, 1) := by decide +kernel
theorem dX9_choose_16 : decode cX9_choose 16 = .ok (.getfield 10, 3) := by decide +kernel
theorem dX9_choose_19 : decode cX9_choose 19 = .ok (.aload_n 2, 1) := by decide +kernel
theorem dX9_choose_20 : decode cX9_choose 20 = .ok (.putfield 20, 3) := by decide +kernel
theorem dX9_choose_23 : decode cX9_choose 23 = .ok (.aload_n 2, 1) := by decide +kernel
theorem dX9_choose_24 : decode cX9_choose 24 = .ok (.getfield 24, 3) := by decide +kernel
theorem dX9_choose_27 : decode cX9_choose 27 = .ok (.ireturn, 1) := by decide +kernel
theorem dX9_step_0 : decode cX9_step 0 = .ok (.iload_n 1, 1) := by decide +kernel
theorem dX9_step_1 : decode cX9_step 1 = .ok (.iload_n 2, 1) := by decide +kernel
theorem dX9_step_2 : decode cX9_step 2 = .ok (.iload_n 3, 1) := by decide +kernel
theorem dX9_step_3 : decode cX9_step 3 = .ok (.iload 4, 2) := by decide +kernel
theorem dX9_step_5 : decode cX9_step 5 = .ok (.invokestatic 30, 3) := by decide +kernel
theorem dX9_step_8 : decode cX9_step 8 = .ok (.ifCond .eq 21, 3) := by decide +kernel
theorem dX9_step_11 : decode cX9_step 11 = .ok (.aload_n 0, 1) := by decide +kernel
theorem dX9_step_12 : decode cX9_step 12 = .ok (.getfield 10, 3) := by decide +kernel
theorem dX9_step_15 : decode cX9_step 15 = .ok (.getfield 20, 3) := by decide +kernel
theorem dX9_step_18 : decode cX9_step 18 = .ok (.iload_n 1, 1) := by decide +kernel
theorem dX9_step_19 : decode cX9_step 19 = .ok (.iload_n 2, 1) := by decide +kernel
theorem dX9_step_20 : decode cX9_step 20 = .ok (.iload_n 3, 1) := by decide +kernel
theorem dX9_step_21 : decode cX9_step 21 = .ok (.iload 4, 2) := by decide +kernel
theorem dX9_step_23 : decode cX9_step 23 = .ok (.invokevirtual 36, 3) := by decide +kernel
theorem dX9_step_26 : decode cX9_step 26 = .ok (.goto 4, 3) := by decide +kernel
theorem dX9_step_29 : decode cX9_step 29 = .ok (.iconst (-1), 1) := by decide +kernel
theorem dX9_step_30 : decode cX9_step 30 = .ok (.ireturn, 1) := by decide +kernel
theorem dX9_clear_0 : decode cX9_clear 0 = .ok (.aload_n 0, 1) := by decide +kernel
theorem dX9_clear_1 : decode cX9_clear 1 = .ok (.getfield 10, 3) := by decide +kernel
theorem dX9_clear_4 : decode cX9_clear 4 = .ok (.getfield 20, 3) := by decide +kernel
theorem dX9_clear_7 : decode cX9_clear 7 = .ok (.invokevirtual 40, 3) := by decide +kernel
theorem dX9_clear_10 : decode cX9_clear 10 = .ok (.ireturn, 1) := by decide +kernel
theorem dX9_run_0 : decode cX9_run 0 = .ok (.aload_n 0, 1) := by decide +kernel
theorem dX9_run_1 : decode cX9_run 1 = .ok (.getfield 10, 3) := by decide +kernel
theorem dX9_run_4 : decode cX9_run 4 = .ok (.getfield 20, 3) := by decide +kernel
theorem dX9_run_7 : decode cX9_run 7 = .ok (.getfield 44, 3) := by decide +kernel
theorem dX9_run_10 : decode cX9_run 10 = .ok (.ifCond .le 7, 3) := by decide +kernel
theorem dX9_run_13 : decode cX9_run 13 = .ok (.iconst (-1), 1) := by decide +kernel
theorem dX9_run_14 : decode cX9_run 14 = .ok (.goto 17, 3) := by decide +kernel
theorem dX9_run_17 : decode cX9_run 17 = .ok (.aload_n 0, 1) := by decide +kernel
theorem dX9_run_18 : decode cX9_run 18 = .ok (.getfield 10, 3) := by decide +kernel
theorem dX9_run_21 : decode cX9_run 21 = .ok (.aload_n 0, 1) := by decide +kernel
theorem dX9_run_22 : decode cX9_run 22 = .ok (.getfield 10, 3) := by decide +kernel
theorem dX9_run_25 : decode cX9_run 25 = .ok (.getfield 20, 3) := by decide +kernel
theorem dX9_run_28 : decode cX9_run 28 = .ok (.invokevirtual 47, 3) := by decide +kernel
theorem dX9_run_31 : decode cX9_run 31 = .ok (.ireturn, 1) := by decide +kernel
theorem dX9_dial_0 : decode cX9_dial 0 = .ok (.aload_n 0, 1) := by decide +kernel
theorem dX9_dial_1 : decode cX9_dial 1 = .ok (.getfield 10, 3) := by decide +kernel
theorem dX9_dial_4 : decode cX9_dial 4 = .ok (.getfield 51, 3) := by decide +kernel
theorem dX9_dial_7 : decode cX9_dial 7 = .ok (.iload_n 1, 1) := by decide +kernel
theorem dX9_dial_8 : decode cX9_dial 8 = .ok (.invokevirtual 55, 3) := by decide +kernel
theorem dX9_dial_11 : decode cX9_dial 11 = .ok (.dreturn, 1) := by decide +kernel
theorem dX9_size_0 : decode cX9_size 0 = .ok (.aload_n 0, 1) := by decide +kernel
theorem dX9_size_1 : decode cX9_size 1 = .ok (.getfield 10, 3) := by decide +kernel
theorem dX9_size_4 : decode cX9_size 4 = .ok (.iload_n 1, 1) := by decide +kernel
theorem dX9_size_5 : decode cX9_size 5 = .ok (.invokevirtual 61, 3) := by decide +kernel
theorem dX9_size_8 : decode cX9_size 8 = .ok (.astore_n 2, 1) := by decide +kernel
theorem dX9_size_9 : decode cX9_size 9 = .ok (.aload_n 2, 1) := by decide +kernel
theorem dX9_size_10 : decode cX9_size 10 = .ok (.ifnonnull 8, 3) := by decide +kernel
theorem dX9_size_13 : decode cX9_size 13 = .ok (.bipush (-2), 2) := by decide +kernel
theorem dX9_size_15 : decode cX9_size 15 = .ok (.goto 7, 3) := by decide +kernel
theorem dX9_size_18 : decode cX9_size 18 = .ok (.aload_n 2, 1) := by decide +kernel
theorem dX9_size_19 : decode cX9_size 19 = .ok (.getfield 65, 3) := by decide +kernel
theorem dX9_size_22 : decode cX9_size 22 = .ok (.ireturn, 1) := by decide +kernel
theorem dX9_value_0 : decode cX9_value 0 = .ok (.aload_n 0, 1) := by decide +kernel
theorem dX9_value_1 : decode cX9_value 1 = .ok (.getfield 10, 3) := by decide +kernel
theorem dX9_value_4 : decode cX9_value 4 = .ok (.iload_n 1, 1) := by decide +kernel
theorem dX9_value_5 : decode cX9_value 5 = .ok (.invokevirtual 61, 3) := by decide +kernel
theorem dX9_value_8 : decode cX9_value 8 = .ok (.astore_n 3, 1) := by decide +kernel
theorem dX9_value_9 : decode cX9_value 9 = .ok (.aload_n 3, 1) := by decide +kernel
theorem dX9_value_10 : decode cX9_value 10 = .ok (.ifnonnull 7, 3) := by decide +kernel
theorem dX9_value_13 : decode cX9_value 13 = .ok (.dconst 0, 1) := by decide +kernel
theorem dX9_value_14 : decode cX9_value 14 = .ok (.goto 8, 3) := by decide +kernel
theorem dX9_value_17 : decode cX9_value 17 = .ok (.aload_n 3, 1) := by decide +kernel
theorem dX9_value_18 : decode cX9_value 18 = .ok (.iload_n 2, 1) := by decide +kernel
theorem dX9_value_19 : decode cX9_value 19 = .ok (.invokevirtual 70, 3) := by decide +kernel
theorem dX9_value_22 : decode cX9_value 22 = .ok (.dreturn, 1) := by decide +kernel
theorem dX9_isFitted_0 : decode cX9_isFitted 0 = .ok (.aload_n 0, 1) := by decide +kernel
theorem dX9_isFitted_1 : decode cX9_isFitted 1 = .ok (.getfield 10, 3) := by decide +kernel
theorem dX9_isFitted_4 : decode cX9_isFitted 4 = .ok (.iload_n 1, 1) := by decide +kernel
theorem dX9_isFitted_5 : decode cX9_isFitted 5 = .ok (.invokevirtual 61, 3) := by decide +kernel
theorem dX9_isFitted_8 : decode cX9_isFitted 8 = .ok (.astore_n 3, 1) := by decide +kernel
theorem dX9_isFitted_9 : decode cX9_isFitted 9 = .ok (.aload_n 3, 1) := by decide +kernel
theorem dX9_isFitted_10 : decode cX9_isFitted 10 = .ok (.ifnull 15, 3) := by decide +kernel
theorem dX9_isFitted_13 : decode cX9_isFitted 13 = .ok (.aload_n 3, 1) := by decide +kernel
theorem dX9_isFitted_14 : decode cX9_isFitted 14 = .ok (.iload_n 2, 1) := by decide +kernel
theorem dX9_isFitted_15 : decode cX9_isFitted 15 = .ok (.invokevirtual 73, 3) := by decide +kernel
theorem dX9_isFitted_18 : decode cX9_isFitted 18 = .ok (.ifCond .eq 7, 3) := by decide +kernel
theorem dX9_isFitted_21 : decode cX9_isFitted 21 = .ok (.iconst 1, 1) := by decide +kernel
theorem dX9_isFitted_22 : decode cX9_isFitted 22 = .ok (.goto 4, 3) := by decide +kernel
theorem dX9_isFitted_25 : decode cX9_isFitted 25 = .ok (.iconst 0, 1) := by decide +kernel
theorem dX9_isFitted_26 : decode cX9_isFitted 26 = .ok (.ireturn, 1) := by decide +kernel
theorem dX9_log_0 : decode cX9_log 0 = .ok (.aload_n 0, 1) := by decide +kernel
theorem dX9_log_1 : decode cX9_log 1 = .ok (.getfield 10, 3) := by decide +kernel
theorem dX9_log_4 : decode cX9_log 4 = .ok (.getfield 77, 3) := by decide +kernel
theorem dX9_log_7 : decode cX9_log 7 = .ok (.iload_n 1, 1) := by decide +kernel
theorem dX9_log_8 : decode cX9_log 8 = .ok (.invokevirtual 81, 3) := by decide +kernel
theorem dX9_log_11 : decode cX9_log 11 = .ok (.dreturn, 1) := by decide +kernel
theorem dX9_isMinus_0 : decode cX9_isMinus 0 = .ok (.aload_n 0, 1) := by decide +kernel
theorem dX9_isMinus_1 : decode cX9_isMinus 1 = .ok (.getfield 10, 3) := by decide +kernel
theorem dX9_isMinus_4 : decode cX9_isMinus 4 = .ok (.getfield 77, 3) := by decide +kernel
theorem dX9_isMinus_7 : decode cX9_isMinus 7 = .ok (.iload_n 1, 1) := by decide +kernel
theorem dX9_isMinus_8 : decode cX9_isMinus 8 = .ok (.invokevirtual 81, 3) := by decide +kernel
theorem dX9_isMinus_11 : decode cX9_isMinus 11 = .ok (.invokestatic 84, 3) := by decide +kernel
theorem dX9_isMinus_14 : decode cX9_isMinus 14 = .ok (.ireturn, 1) := by decide +kernel
theorem dX9_count_0 : decode cX9_count 0 = .ok (.iload_n 1, 1) := by decide +kernel
theorem dX9_count_1 : decode cX9_count 1 = .ok (.tableswitch 96 0 5 #[39, 50, 61, 69, 80, 88], 39) := by decide +kernel
theorem dX9_count_40 : decode cX9_count 40 = .ok (.aload_n 0, 1) := by decide +kernel
theorem dX9_count_41 : decode cX9_count 41 = .ok (.getfield 10, 3) := by decide +kernel
theorem dX9_count_44 : decode cX9_count 44 = .ok (.getfield 20, 3) := by decide +kernel
theorem dX9_count_47 : decode cX9_count 47 = .ok (.getfield 24, 3) := by decide +kernel
theorem dX9_count_50 : decode cX9_count 50 = .ok (.ireturn, 1) := by decide +kernel
theorem dX9_count_51 : decode cX9_count 51 = .ok (.aload_n 0, 1) := by decide +kernel
theorem dX9_count_52 : decode cX9_count 52 = .ok (.getfield 10, 3) := by decide +kernel
theorem dX9_count_55 : decode cX9_count 55 = .ok (.getfield 20, 3) := by decide +kernel
theorem dX9_count_58 : decode cX9_count 58 = .ok (.getfield 44, 3) := by decide +kernel
theorem dX9_count_61 : decode cX9_count 61 = .ok (.ireturn, 1) := by decide +kernel
theorem dX9_count_62 : decode cX9_count 62 = .ok (.aload_n 0, 1) := by decide +kernel
theorem dX9_count_63 : decode cX9_count 63 = .ok (.getfield 10, 3) := by decide +kernel
theorem dX9_count_66 : decode cX9_count 66 = .ok (.getfield 90, 3) := by decide +kernel
theorem dX9_count_69 : decode cX9_count 69 = .ok (.ireturn, 1) := by decide +kernel
theorem dX9_count_70 : decode cX9_count 70 = .ok (.aload_n 0, 1) := by decide +kernel
theorem dX9_count_71 : decode cX9_count 71 = .ok (.getfield 10, 3) := by decide +kernel
theorem dX9_count_74 : decode cX9_count 74 = .ok (.getfield 77, 3) := by decide +kernel
theorem dX9_count_77 : decode cX9_count 77 = .ok (.getfield 93, 3) := by decide +kernel
theorem dX9_count_80 : decode cX9_count 80 = .ok (.ireturn, 1) := by decide +kernel
theorem dX9_count_81 : decode cX9_count 81 = .ok (.aload_n 0, 1) := by decide +kernel
theorem dX9_count_82 : decode cX9_count 82 = .ok (.getfield 10, 3) := by decide +kernel
theorem dX9_count_85 : decode cX9_count 85 = .ok (.getfield 94, 3) := by decide +kernel
theorem dX9_count_88 : decode cX9_count 88 = .ok (.ireturn, 1) := by decide +kernel
theorem dX9_count_89 : decode cX9_count 89 = .ok (.aload_n 0, 1) := by decide +kernel
theorem dX9_count_90 : decode cX9_count 90 = .ok (.getfield 10, 3) := by decide +kernel
theorem dX9_count_93 : decode cX9_count 93 = .ok (.getfield 97, 3) := by decide +kernel
theorem dX9_count_96 : decode cX9_count 96 = .ok (.ireturn, 1) := by decide +kernel
theorem dX9_count_97 : decode cX9_count 97 = .ok (.iconst (-1), 1) := by decide +kernel
theorem dX9_count_98 : decode cX9_count 98 = .ok (.ireturn, 1) := by decide +kernel
theorem dX9_fault_0 : decode cX9_fault 0 = .ok (.aload_n 0, 1) := by decide +kernel
theorem dX9_fault_1 : decode cX9_fault 1 = .ok (.getfield 10, 3) := by decide +kernel
theorem dX9_fault_4 : decode cX9_fault 4 = .ok (.getfield 100, 3) := by decide +kernel
theorem dX9_fault_7 : decode cX9_fault 7 = .ok (.astore_n 2, 1) := by decide +kernel
theorem dX9_fault_8 : decode cX9_fault 8 = .ok (.aload_n 2, 1) := by decide +kernel
theorem dX9_fault_9 : decode cX9_fault 9 = .ok (.ifnonnull 5, 3) := by decide +kernel
theorem dX9_fault_12 : decode cX9_fault 12 = .ok (.iconst (-1), 1) := by decide +kernel
theorem dX9_fault_13 : decode cX9_fault 13 = .ok (.ireturn, 1) := by decide +kernel
theorem dX9_fault_14 : decode cX9_fault 14 = .ok (.iload_n 1, 1) := by decide +kernel
theorem dX9_fault_15 : decode cX9_fault 15 = .ok (.tableswitch 67 0 5 #[37, 42, 47, 52, 57, 62], 37) := by decide +kernel
theorem dX9_fault_52 : decode cX9_fault 52 = .ok (.aload_n 2, 1) := by decide +kernel
theorem dX9_fault_53 : decode cX9_fault 53 = .ok (.getfield 104, 3) := by decide +kernel
theorem dX9_fault_56 : decode cX9_fault 56 = .ok (.ireturn, 1) := by decide +kernel
theorem dX9_fault_57 : decode cX9_fault 57 = .ok (.aload_n 2, 1) := by decide +kernel
theorem dX9_fault_58 : decode cX9_fault 58 = .ok (.getfield 109, 3) := by decide +kernel
theorem dX9_fault_61 : decode cX9_fault 61 = .ok (.ireturn, 1) := by decide +kernel
theorem dX9_fault_62 : decode cX9_fault 62 = .ok (.aload_n 2, 1) := by decide +kernel
theorem dX9_fault_63 : decode cX9_fault 63 = .ok (.getfield 112, 3) := by decide +kernel
theorem dX9_fault_66 : decode cX9_fault 66 = .ok (.ireturn, 1) := by decide +kernel
theorem dX9_fault_67 : decode cX9_fault 67 = .ok (.aload_n 2, 1) := by decide +kernel
theorem dX9_fault_68 : decode cX9_fault 68 = .ok (.getfield 115, 3) := by decide +kernel
theorem dX9_fault_71 : decode cX9_fault 71 = .ok (.ireturn, 1) := by decide +kernel
theorem dX9_fault_72 : decode cX9_fault 72 = .ok (.aload_n 2, 1) := by decide +kernel
theorem dX9_fault_73 : decode cX9_fault 73 = .ok (.getfield 118, 3) := by decide +kernel
theorem dX9_fault_76 : decode cX9_fault 76 = .ok (.ireturn, 1) := by decide +kernel
theorem dX9_fault_77 : decode cX9_fault 77 = .ok (.aload_n 2, 1) := by decide +kernel
theorem dX9_fault_78 : decode cX9_fault 78 = .ok (.getfield 121, 3) := by decide +kernel
theorem dX9_fault_81 : decode cX9_fault 81 = .ok (.ireturn, 1) := by decide +kernel
theorem dX9_fault_82 : decode cX9_fault 82 = .ok (.iconst (-1), 1) := by decide +kernel
theorem dX9_fault_83 : decode cX9_fault 83 = .ok (.ireturn, 1) := by decide +kernel
theorem dX10_init_0 : decode cX10_init 0 = .ok (.aload_n 0, 1) := by decide +kernel
theorem dX10_init_1 : decode cX10_init 1 = .ok (.invokespecial 1, 3) := by decide +kernel
theorem dX10_init_4 : decode cX10_init 4 = .ok (.aload_n 0, 1) := by decide +kernel
theorem dX10_init_5 : decode cX10_init 5 = .ok (.sipush 160, 3) := by decide +kernel
theorem dX10_init_8 : decode cX10_init 8 = .ok (.newarray .int, 2) := by decide +kernel
theorem dX10_init_10 : decode cX10_init 10 = .ok (.putfield 7, 3) := by decide +kernel
theorem dX10_init_13 : decode cX10_init 13 = .ok (.aload_n 0, 1) := by decide +kernel
theorem dX10_init_14 : decode cX10_init 14 = .ok (.sipush 160, 3) := by decide +kernel
theorem dX10_init_17 : decode cX10_init 17 = .ok (.newarray .int, 2) := by decide +kernel
theorem dX10_init_19 : decode cX10_init 19 = .ok (.putfield 13, 3) := by decide +kernel
theorem dX10_init_22 : decode cX10_init 22 = .ok (.aload_n 0, 1) := by decide +kernel
theorem dX10_init_23 : decode cX10_init 23 = .ok (.sipush 160, 3) := by decide +kernel
theorem dX10_init_26 : decode cX10_init 26 = .ok (.newarray .int, 2) := by decide +kernel
theorem dX10_init_28 : decode cX10_init 28 = .ok (.putfield 16, 3) := by decide +kernel
theorem dX10_init_31 : decode cX10_init 31 = .ok (.aload_n 0, 1) := by decide +kernel
theorem dX10_init_32 : decode cX10_init 32 = .ok (.sipush 160, 3) := by decide +kernel
theorem dX10_init_35 : decode cX10_init 35 = .ok (.newarray .int, 2) := by decide +kernel
theorem dX10_init_37 : decode cX10_init 37 = .ok (.putfield 19, 3) := by decide +kernel
theorem dX10_init_40 : decode cX10_init 40 = .ok (.aload_n 0, 1) := by decide +kernel
theorem dX10_init_41 : decode cX10_init 41 = .ok (.sipush 160, 3) := by decide +kernel
theorem dX10_init_44 : decode cX10_init 44 = .ok (.newarray .int, 2) := by decide +kernel
theorem dX10_init_46 : decode cX10_init 46 = .ok (.putfield 22, 3) := by decide +kernel
theorem dX10_init_49 : decode cX10_init 49 = .ok (.aload_n 0, 1) := by decide +kernel
theorem dX10_init_50 : decode cX10_init 50 = .ok (.sipush 160, 3) := by decide +kernel
theorem dX10_init_53 : decode cX10_init 53 = .ok (.newarray .int, 2) := by decide +kernel
theorem dX10_init_55 : decode cX10_init 55 = .ok (.putfield 25, 3) := by decide +kernel
theorem dX10_init_58 : decode cX10_init 58 = .ok (.aload_n 0, 1) := by decide +kernel
theorem dX10_init_59 : decode cX10_init 59 = .ok (.iconst 4, 1) := by decide +kernel
theorem dX10_init_60 : decode cX10_init 60 = .ok (.newarray .int, 2) := by decide +kernel
theorem dX10_init_62 : decode cX10_init 62 = .ok (.putfield 28, 3) := by decide +kernel
theorem dX10_init_65 : decode cX10_init 65 = .ok (.aload_n 0, 1) := by decide +kernel
theorem dX10_init_66 : decode cX10_init 66 = .ok (.iconst 4, 1) := by decide +kernel
theorem dX10_init_67 : decode cX10_init 67 = .ok (.newarray .int, 2) := by decide +kernel
theorem dX10_init_69 : decode cX10_init 69 = .ok (.putfield 31, 3) := by decide +kernel
theorem dX10_init_72 : decode cX10_init 72 = .ok (.aload_n 0, 1) := by decide +kernel
theorem dX10_init_73 : decode cX10_init 73 = .ok (.bipush 24, 2) := by decide +kernel
theorem dX10_init_75 : decode cX10_init 75 = .ok (.newarray .int, 2) := by decide +kernel
theorem dX10_init_77 : decode cX10_init 77 = .ok (.putfield 34, 3) := by decide +kernel
theorem dX10_init_80 : decode cX10_init 80 = .ok (.aload_n 0, 1) := by decide +kernel
theorem dX10_init_81 : decode cX10_init 81 = .ok (.bipush 24, 2) := by decide +kernel
theorem dX10_init_83 : decode cX10_init 83 = .ok (.newarray .int, 2) := by decide +kernel
theorem dX10_init_85 : decode cX10_init 85 = .ok (.putfield 37, 3) := by decide +kernel
theorem dX10_init_88 : decode cX10_init 88 = .ok (.aload_n 0, 1) := by decide +kernel
theorem dX10_init_89 : decode cX10_init 89 = .ok (.bipush 24, 2) := by decide +kernel
theorem dX10_init_91 : decode cX10_init 91 = .ok (.newarray .int, 2) := by decide +kernel
theorem dX10_init_93 : decode cX10_init 93 = .ok (.putfield 40, 3) := by decide +kernel
theorem dX10_init_96 : decode cX10_init 96 = .ok (.aload_n 0, 1) := by decide +kernel
theorem dX10_init_97 : decode cX10_init 97 = .ok (.bipush 8, 2) := by decide +kernel
theorem dX10_init_99 : decode cX10_init 99 = .ok (.newarray .double, 2) := by decide +kernel
theorem dX10_init_101 : decode cX10_init 101 = .ok (.putfield 43, 3) := by decide +kernel
theorem dX10_init_104 : decode cX10_init 104 = .ok (.aload_n 0, 1) := by decide +kernel
theorem dX10_init_105 : decode cX10_init 105 = .ok (.bipush 18, 2) := by decide +kernel
theorem dX10_init_107 : decode cX10_init 107 = .ok (.newarray .boolean, 2) := by decide +kernel
theorem dX10_init_109 : decode cX10_init 109 = .ok (.putfield 47, 3) := by decide +kernel
theorem dX10_init_112 : decode cX10_init 112 = .ok (.aload_n 0, 1) := by decide +kernel
theorem dX10_init_113 : decode cX10_init 113 = .ok (.bipush 18, 2) := by decide +kernel
theorem dX10_init_115 : decode cX10_init 115 = .ok (.newarray .int, 2) := by decide +kernel
theorem dX10_init_117 : decode cX10_init 117 = .ok (.putfield 51, 3) := by decide +kernel
theorem dX10_init_120 : decode cX10_init 120 = .ok (.aload_n 0, 1) := by decide +kernel
theorem dX10_init_121 : decode cX10_init 121 = .ok (.sipush 288, 3) := by decide +kernel
theorem dX10_init_124 : decode cX10_init 124 = .ok (.newarray .double, 2) := by decide +kernel
theorem dX10_init_126 : decode cX10_init 126 = .ok (.putfield 54, 3) := by decide +kernel
theorem dX10_init_129 : decode cX10_init 129 = .ok (.aload_n 0, 1) := by decide +kernel
theorem dX10_init_130 : decode cX10_init 130 = .ok (.sipush 288, 3) := by decide +kernel
theorem dX10_init_133 : decode cX10_init 133 = .ok (.newarray .boolean, 2) := by decide +kernel
theorem dX10_init_135 : decode cX10_init 135 = .ok (.putfield 57, 3) := by decide +kernel
theorem dX10_init_138 : decode cX10_init 138 = .ok (.aload_n 0, 1) := by decide +kernel
theorem dX10_init_139 : decode cX10_init 139 = .ok (.sipush 600, 3) := by decide +kernel
theorem dX10_init_142 : decode cX10_init 142 = .ok (.newarray .int, 2) := by decide +kernel
theorem dX10_init_144 : decode cX10_init 144 = .ok (.putfield 60, 3) := by decide +kernel
theorem dX10_init_147 : decode cX10_init 147 = .ok (.aload_n 0, 1) := by decide +kernel
theorem dX10_init_148 : decode cX10_init 148 = .ok (.sipush 600, 3) := by decide +kernel
theorem dX10_init_151 : decode cX10_init 151 = .ok (.newarray .int, 2) := by decide +kernel
theorem dX10_init_153 : decode cX10_init 153 = .ok (.putfield 63, 3) := by decide +kernel
theorem dX10_init_156 : decode cX10_init 156 = .ok (.aload_n 0, 1) := by decide +kernel
theorem dX10_init_157 : decode cX10_init 157 = .ok (.sipush 600, 3) := by decide +kernel
theorem dX10_init_160 : decode cX10_init 160 = .ok (.newarray .int, 2) := by decide +kernel
theorem dX10_init_162 : decode cX10_init 162 = .ok (.putfield 66, 3) := by decide +kernel
theorem dX10_init_165 : decode cX10_init 165 = .ok (.aload_n 0, 1) := by decide +kernel
theorem dX10_init_166 : decode cX10_init 166 = .ok (.sipush 600, 3) := by decide +kernel
theorem dX10_init_169 : decode cX10_init 169 = .ok (.newarray .int, 2) := by decide +kernel
theorem dX10_init_171 : decode cX10_init 171 = .ok (.putfield 69, 3) := by decide +kernel
theorem dX10_init_174 : decode cX10_init 174 = .ok (.aload_n 0, 1) := by decide +kernel
theorem dX10_init_175 : decode cX10_init 175 = .ok (.sipush 600, 3) := by decide +kernel
theorem dX10_init_178 : decode cX10_init 178 = .ok (.newarray .int, 2) := by decide +kernel
theorem dX10_init_180 : decode cX10_init 180 = .ok (.putfield 72, 3) := by decide +kernel
theorem dX10_init_183 : decode cX10_init 183 = .ok (.aload_n 0, 1) := by decide +kernel
theorem dX10_init_184 : decode cX10_init 184 = .ok (.iconst (-1), 1) := by decide +kernel
theorem dX10_init_185 : decode cX10_init 185 = .ok (.putfield 75, 3) := by decide +kernel
theorem dX10_init_188 : decode cX10_init 188 = .ok (.aload_n 0, 1) := by decide +kernel
theorem dX10_init_189 : decode cX10_init 189 = .ok (.bipush 60, 2) := by decide +kernel
theorem dX10_init_191 : decode cX10_init 191 = .ok (.newarray .int, 2) := by decide +kernel
theorem dX10_init_193 : decode cX10_init 193 = .ok (.putfield 79, 3) := by decide +kernel
theorem dX10_init_196 : decode cX10_init 196 = .ok (.aload_n 0, 1) := by decide +kernel
theorem dX10_init_197 : decode cX10_init 197 = .ok (.bipush 60, 2) := by decide +kernel
theorem dX10_init_199 : decode cX10_init 199 = .ok (.newarray .int, 2) := by decide +kernel
theorem dX10_init_201 : decode cX10_init 201 = .ok (.putfield 82, 3) := by decide +kernel
theorem dX10_init_204 : decode cX10_init 204 = .ok (.aload_n 0, 1) := by decide +kernel
theorem dX10_init_205 : decode cX10_init 205 = .ok (.bipush 60, 2) := by decide +kernel
theorem dX10_init_207 : decode cX10_init 207 = .ok (.newarray .int, 2) := by decide +kernel
theorem dX10_init_209 : decode cX10_init 209 = .ok (.putfield 85, 3) := by decide +kernel
theorem dX10_init_212 : decode cX10_init 212 = .ok (.aload_n 0, 1) := by decide +kernel
theorem dX10_init_213 : decode cX10_init 213 = .ok (.bipush 60, 2) := by decide +kernel
theorem dX10_init_215 : decode cX10_init 215 = .ok (.newarray .int, 2) := by decide +kernel
theorem dX10_init_217 : decode cX10_init 217 = .ok (.putfield 88, 3) := by decide +kernel
theorem dX10_init_220 : decode cX10_init 220 = .ok (.aload_n 0, 1) := by decide +kernel
theorem dX10_init_221 : decode cX10_init 221 = .ok (.bipush 60, 2) := by decide +kernel
theorem dX10_init_223 : decode cX10_init 223 = .ok (.newarray .int, 2) := by decide +kernel
theorem dX10_init_225 : decode cX10_init 225 = .ok (.putfield 91, 3) := by decide +kernel
theorem dX10_init_228 : decode cX10_init 228 = .ok (.aload_n 0, 1) := by decide +kernel
theorem dX10_init_229 : decode cX10_init 229 = .ok (.sipush 1000, 3) := by decide +kernel
theorem dX10_init_232 : decode cX10_init 232 = .ok (.newarray .double, 2) := by decide +kernel
theorem dX10_init_234 : decode cX10_init 234 = .ok (.putfield 94, 3) := by decide +kernel
theorem dX10_init_237 : decode cX10_init 237 = .ok (.aload_n 0, 1) := by decide +kernel
theorem dX10_init_238 : decode cX10_init 238 = .ok (.bipush 12, 2) := by decide +kernel
theorem dX10_init_240 : decode cX10_init 240 = .ok (.newarray .int, 2) := by decide +kernel
theorem dX10_init_242 : decode cX10_init 242 = .ok (.dup, 1) := by decide +kernel
theorem dX10_init_243 : decode cX10_init 243 = .ok (.iconst 0, 1) := by decide +kernel
theorem dX10_init_244 : decode cX10_init 244 = .ok (.iconst 0, 1) := by decide +kernel
theorem dX10_init_245 : decode cX10_init 245 = .ok (.iastore, 1) := by decide +kernel
theorem dX10_init_246 : decode cX10_init 246 = .ok (.dup, 1) := by decide +kernel
theorem dX10_init_247 : decode cX10_init 247 = .ok (.iconst 1, 1) := by decide +kernel
theorem dX10_init_248 : decode cX10_init 248 = .ok (.iconst 0, 1) := by decide +kernel
theorem dX10_init_249 : decode cX10_init 249 = .ok (.iastore, 1) := by decide +kernel
theorem dX10_init_250 : decode cX10_init 250 = .ok (.dup, 1) := by decide +kernel
theorem dX10_init_251 : decode cX10_init 251 = .ok (.iconst 2, 1) := by decide +kernel
theorem dX10_init_252 : decode cX10_init 252 = .ok (.iconst 1, 1) := by decide +kernel
theorem dX10_init_253 : decode cX10_init 253 = .ok (.iastore, 1) := by decide +kernel
theorem dX10_init_254 : decode cX10_init 254 = .ok (.dup, 1) := by decide +kernel
theorem dX10_init_255 : decode cX10_init 255 = .ok (.iconst 3, 1) := by decide +kernel
theorem dX10_init_256 : decode cX10_init 256 = .ok (.iconst 2, 1) := by decide +kernel
theorem dX10_init_257 : decode cX10_init 257 = .ok (.iastore, 1) := by decide +kernel
theorem dX10_init_258 : decode cX10_init 258 = .ok (.dup, 1) := by decide +kernel
theorem dX10_init_259 : decode cX10_init 259 = .ok (.iconst 4, 1) := by decide +kernel
theorem dX10_init_260 : decode cX10_init 260 = .ok (.iconst 2, 1) := by decide +kernel
theorem dX10_init_261 : decode cX10_init 261 = .ok (.iastore, 1) := by decide +kernel
theorem dX10_init_262 : decode cX10_init 262 = .ok (.dup, 1) := by decide +kernel
theorem dX10_init_263 : decode cX10_init 263 = .ok (.iconst 5, 1) := by decide +kernel
theorem dX10_init_264 : decode cX10_init 264 = .ok (.iconst 2, 1) := by decide +kernel
theorem dX10_init_265 : decode cX10_init 265 = .ok (.iastore, 1) := by decide +kernel
theorem dX10_init_266 : decode cX10_init 266 = .ok (.dup, 1) := by decide +kernel
theorem dX10_init_267 : decode cX10_init 267 = .ok (.bipush 6, 2) := by decide +kernel
theorem dX10_init_269 : decode cX10_init 269 = .ok (.iconst 1, 1) := by decide +kernel
theorem dX10_init_270 : decode cX10_init 270 = .ok (.iastore, 1) := by decide +kernel
theorem dX10_init_271 : decode cX10_init 271 = .ok (.dup, 1) := by decide +kernel
theorem dX10_init_272 : decode cX10_init 272 = .ok (.bipush 7, 2) := by decide +kernel
theorem dX10_init_274 : decode cX10_init 274 = .ok (.bipush 6, 2) := by decide +kernel
theorem dX10_init_276 : decode cX10_init 276 = .ok (.iastore, 1) := by decide +kernel
theorem dX10_init_277 : decode cX10_init 277 = .ok (.dup, 1) := by decide +kernel
theorem dX10_init_278 : decode cX10_init 278 = .ok (.bipush 8, 2) := by decide +kernel
theorem dX10_init_280 : decode cX10_init 280 = .ok (.bipush 6, 2) := by decide +kernel
theorem dX10_init_282 : decode cX10_init 282 = .ok (.iastore, 1) := by decide +kernel
theorem dX10_init_283 : decode cX10_init 283 = .ok (.dup, 1) := by decide +kernel
theorem dX10_init_284 : decode cX10_init 284 = .ok (.bipush 9, 2) := by decide +kernel
theorem dX10_init_286 : decode cX10_init 286 = .ok (.iconst 1, 1) := by decide +kernel
theorem dX10_init_287 : decode cX10_init 287 = .ok (.iastore, 1) := by decide +kernel
theorem dX10_init_288 : decode cX10_init 288 = .ok (.dup, 1) := by decide +kernel
theorem dX10_init_289 : decode cX10_init 289 = .ok (.bipush 10, 2) := by decide +kernel
theorem dX10_init_291 : decode cX10_init 291 = .ok (.iconst 1, 1) := by decide +kernel
theorem dX10_init_292 : decode cX10_init 292 = .ok (.iastore, 1) := by decide +kernel
theorem dX10_init_293 : decode cX10_init 293 = .ok (.dup, 1) := by decide +kernel
theorem dX10_init_294 : decode cX10_init 294 = .ok (.bipush 11, 2) := by decide +kernel
theorem dX10_init_296 : decode cX10_init 296 = .ok (.bipush 9, 2) := by decide +kernel
theorem dX10_init_298 : decode cX10_init 298 = .ok (.iastore, 1) := by decide +kernel
theorem dX10_init_299 : decode cX10_init 299 = .ok (.putfield 97, 3) := by decide +kernel
theorem dX10_init_302 : decode cX10_init 302 = .ok (.return_, 1) := by decide +kernel
theorem dX10_isIn_0 : decode cX10_isIn 0 = .ok (.iload_n 0, 1) := by decide +kernel
theorem dX10_isIn_1 : decode cX10_isIn 1 = .ok (.iload_n 1, 1) := by decide +kernel
theorem dX10_isIn_2 : decode cX10_isIn 2 = .ok (.if_icmp .lt 12, 3) := by decide +kernel
theorem dX10_isIn_5 : decode cX10_isIn 5 = .ok (.iload_n 0, 1) := by decide +kernel
theorem dX10_isIn_6 : decode cX10_isIn 6 = .ok (.iload_n 2, 1) := by decide +kernel
theorem dX10_isIn_7 : decode cX10_isIn 7 = .ok (.if_icmp .gt 7, 3) := by decide +kernel
theorem dX10_isIn_10 : decode cX10_isIn 10 = .ok (.iconst 1, 1) := by decide +kernel
theorem dX10_isIn_11 : decode cX10_isIn 11 = .ok (.goto 4, 3) := by decide +kernel
theorem dX10_isIn_14 : decode cX10_isIn 14 = .ok (.iconst 0, 1) := by decide +kernel
theorem dX10_isIn_15 : decode cX10_isIn 15 = .ok (.ireturn, 1) := by decide +kernel
theorem dX10_choose_0 : decode cX10_choose 0 = .ok (.iload_n 1, 1) := by decide +kernel
theorem dX10_choose_1 : decode cX10_choose 1 = .ok (.iconst 0, 1) := by decide +kernel
theorem dX10_choose_2 : decode cX10_choose 2 = .ok (.iconst 3, 1) := by decide +kernel
theorem dX10_choose_3 : decode cX10_choose 3 = .ok (.invokestatic 100, 3) := by decide +kernel
theorem dX10_choose_6 : decode cX10_choose 6 = .ok (.ifCond .ne 5, 3) := by decide +kernel
theorem dX10_choose_9 : decode cX10_choose 9 = .ok (.iconst (-1), 1) := by decide +kernel
theorem dX10_choose_10 : decode cX10_choose 10 = .ok (.ireturn, 1) := by decide +kernel
theorem dX10_choose_11 : decode cX10_choose 11 = .ok (.aload_n 0, 1) := by decide +kernel
theorem dX10_choose_12 : decode cX10_choose 12 = .ok (.iload_n 1, 1) := by decide +kernel
theorem dX10_choose_13 : decode cX10_choose 13 = .ok (.putfield 104, 3) := by decide +kernel
theorem dX10_choose_16 : decode cX10_choose 16 = .ok (.aload_n 0, 1) := by decide +kernel
theorem dX10_choose_17 : decode cX10_choose 17 = .ok (.getfield 28, 3) := by decide +kernel
theorem dX10_choose_20 : decode cX10_choose 20 = .ok (.iload_n 1, 1) := by decide +kernel
theorem dX10_choose_21 : decode cX10_choose 21 = .ok (.iaload, 1) := by decide +kernel
theorem dX10_choose_22 : decode cX10_choose 22 = .ok (.ireturn, 1) := by decide +kernel
theorem dX10_isDial_0 : decode cX10_isDial 0 = .ok (.iload_n 0, 1) := by decide +kernel
theorem dX10_isDial_1 : decode cX10_isDial 1 = .ok (.iconst 0, 1) := by decide +kernel
theorem dX10_isDial_2 : decode cX10_isDial 2 = .ok (.bipush 7, 2) := by decide +kernel
theorem dX10_isDial_4 : decode cX10_isDial 4 = .ok (.invokestatic 100, 3) := by decide +kernel
theorem dX10_isDial_7 : decode cX10_isDial 7 = .ok (.ireturn, 1) := by decide +kernel
theorem dX10_isRow_0 : decode cX10_isRow 0 = .ok (.iload_n 0, 1) := by decide +kernel
theorem dX10_isRow_1 : decode cX10_isRow 1 = .ok (.iconst 0, 1) := by decide +kernel
theorem dX10_isRow_2 : decode cX10_isRow 2 = .ok (.bipush 17, 2) := by decide +kernel
theorem dX10_isRow_4 : decode cX10_isRow 4 = .ok (.invokestatic 100, 3) := by decide +kernel
theorem dX10_isRow_7 : decode cX10_isRow 7 = .ok (.ireturn, 1) := by decide +kernel
theorem dX10_areTold_0 : decode cX10_areTold 0 = .ok (.iload_n 0, 1) := by decide +kernel
theorem dX10_areTold_1 : decode cX10_areTold 1 = .ok (.tableswitch 318 0 24 #[115, 115, 117, 115, 125, 115, 115, 133, 115, 133, 115, 141, 170, 177, 197, 177, 202, 202, 229, 253, 258, 258, 288, 288, 253], 115) := by decide +kernel
theorem dX10_areTold_116 : decode cX10_areTold 116 = .ok (.iconst 1, 1) := by decide +kernel
theorem dX10_areTold_117 : decode cX10_areTold 117 = .ok (.ireturn, 1) := by decide +kernel
theorem dX10_areTold_118 : decode cX10_areTold 118 = .ok (.iload_n 1, 1) := by decide +kernel
theorem dX10_areTold_119 : decode cX10_areTold 119 = .ok (.iconst 1, 1) := by decide +kernel
theorem dX10_areTold_120 : decode cX10_areTold 120 = .ok (.bipush 11, 2) := by decide +kernel
theorem dX10_areTold_122 : decode cX10_areTold 122 = .ok (.invokestatic 100, 3) := by decide +kernel
theorem dX10_areTold_125 : decode cX10_areTold 125 = .ok (.ireturn, 1) := by decide +kernel
theorem dX10_areTold_126 : decode cX10_areTold 126 = .ok (.iload_n 1, 1) := by decide +kernel
theorem dX10_areTold_127 : decode cX10_areTold 127 = .ok (.iconst 0, 1) := by decide +kernel
theorem dX10_areTold_128 : decode cX10_areTold 128 = .ok (.bipush 6, 2) := by decide +kernel
theorem dX10_areTold_130 : decode cX10_areTold 130 = .ok (.invokestatic 100, 3) := by decide +kernel
theorem dX10_areTold_133 : decode cX10_areTold 133 = .ok (.ireturn, 1) := by decide +kernel
theorem dX10_areTold_134 : decode cX10_areTold 134 = .ok (.iload_n 1, 1) := by decide +kernel
theorem dX10_areTold_135 : decode cX10_areTold 135 = .ok (.iconst 0, 1) := by decide +kernel
theorem dX10_areTold_136 : decode cX10_areTold 136 = .ok (.bipush 99, 2) := by decide +kernel
theorem dX10_areTold_138 : decode cX10_areTold 138 = .ok (.invokestatic 100, 3) := by decide +kernel
theorem dX10_areTold_141 : decode cX10_areTold 141 = .ok (.ireturn, 1) := by decide +kernel
theorem dX10_areTold_142 : decode cX10_areTold 142 = .ok (.iload_n 1, 1) := by decide +kernel
theorem dX10_areTold_143 : decode cX10_areTold 143 = .ok (.invokestatic 107, 3) := by decide +kernel
theorem dX10_areTold_146 : decode cX10_areTold 146 = .ok (.ifCond .eq 23, 3) := by decide +kernel
theorem dX10_areTold_149 : decode cX10_areTold 149 = .ok (.iload_n 2, 1) := by decide +kernel
theorem dX10_areTold_150 : decode cX10_areTold 150 = .ok (.iconst 0, 1) := by decide +kernel
theorem dX10_areTold_151 : decode cX10_areTold 151 = .ok (.iconst 3, 1) := by decide +kernel
theorem dX10_areTold_152 : decode cX10_areTold 152 = .ok (.invokestatic 100, 3) := by decide +kernel
theorem dX10_areTold_155 : decode cX10_areTold 155 = .ok (.ifCond .eq 14, 3) := by decide +kernel
theorem dX10_areTold_158 : decode cX10_areTold 158 = .ok (.iload_n 3, 1) := by decide +kernel
theorem dX10_areTold_159 : decode cX10_areTold 159 = .ok (.invokestatic 107, 3) := by decide +kernel
theorem dX10_areTold_162 : decode cX10_areTold 162 = .ok (.ifCond .eq 7, 3) := by decide +kernel
theorem dX10_areTold_165 : decode cX10_areTold 165 = .ok (.iconst 1, 1) := by decide +kernel
theorem dX10_areTold_166 : decode cX10_areTold 166 = .ok (.goto 4, 3) := by decide +kernel
theorem dX10_areTold_169 : decode cX10_areTold 169 = .ok (.iconst 0, 1) := by decide +kernel
theorem dX10_areTold_170 : decode cX10_areTold 170 = .ok (.ireturn, 1) := by decide +kernel
theorem dX10_areTold_171 : decode cX10_areTold 171 = .ok (.iload_n 1, 1) := by decide +kernel
theorem dX10_areTold_172 : decode cX10_areTold 172 = .ok (.iconst 0, 1) := by decide +kernel
theorem dX10_areTold_173 : decode cX10_areTold 173 = .ok (.iconst 3, 1) := by decide +kernel
theorem dX10_areTold_174 : decode cX10_areTold 174 = .ok (.invokestatic 100, 3) := by decide +kernel
theorem dX10_areTold_177 : decode cX10_areTold 177 = .ok (.ireturn, 1) := by decide +kernel
theorem dX10_areTold_178 : decode cX10_areTold 178 = .ok (.iload_n 1, 1) := by decide +kernel
theorem dX10_areTold_179 : decode cX10_areTold 179 = .ok (.invokestatic 111, 3) := by decide +kernel
theorem dX10_areTold_182 : decode cX10_areTold 182 = .ok (.ifCond .eq 14, 3) := by decide +kernel
theorem dX10_areTold_185 : decode cX10_areTold 185 = .ok (.iload_n 2, 1) := by decide +kernel
theorem dX10_areTold_186 : decode cX10_areTold 186 = .ok (.invokestatic 107, 3) := by decide +kernel
theorem dX10_areTold_189 : decode cX10_areTold 189 = .ok (.ifCond .eq 7, 3) := by decide +kernel
theorem dX10_areTold_192 : decode cX10_areTold 192 = .ok (.iconst 1, 1) := by decide +kernel
theorem dX10_areTold_193 : decode cX10_areTold 193 = .ok (.goto 4, 3) := by decide +kernel
theorem dX10_areTold_196 : decode cX10_areTold 196 = .ok (.iconst 0, 1) := by decide +kernel
theorem dX10_areTold_197 : decode cX10_areTold 197 = .ok (.ireturn, 1) := by decide +kernel
theorem dX10_areTold_198 : decode cX10_areTold 198 = .ok (.iload_n 1, 1) := by decide +kernel
theorem dX10_areTold_199 : decode cX10_areTold 199 = .ok (.invokestatic 111, 3) := by decide +kernel
theorem dX10_areTold_202 : decode cX10_areTold 202 = .ok (.ireturn, 1) := by decide +kernel
theorem dX10_areTold_203 : decode cX10_areTold 203 = .ok (.iload_n 1, 1) := by decide +kernel
theorem dX10_areTold_204 : decode cX10_areTold 204 = .ok (.invokestatic 111, 3) := by decide +kernel
theorem dX10_areTold_207 : decode cX10_areTold 207 = .ok (.ifCond .eq 21, 3) := by decide +kernel
theorem dX10_areTold_210 : decode cX10_areTold 210 = .ok (.iload_n 2, 1) := by decide +kernel
theorem dX10_areTold_211 : decode cX10_areTold 211 = .ok (.invokestatic 107, 3) := by decide +kernel
theorem dX10_areTold_214 : decode cX10_areTold 214 = .ok (.ifCond .eq 14, 3) := by decide +kernel
theorem dX10_areTold_217 : decode cX10_areTold 217 = .ok (.iload_n 3, 1) := by decide +kernel
theorem dX10_areTold_218 : decode cX10_areTold 218 = .ok (.invokestatic 107, 3) := by decide +kernel
theorem dX10_areTold_221 : decode cX10_areTold 221 = .ok (.ifCond .eq 7, 3) := by decide +kernel
theorem dX10_areTold_224 : decode cX10_areTold 224 = .ok (.iconst 1, 1) := by decide +kernel
theorem dX10_areTold_225 : decode cX10_areTold 225 = .ok (.goto 4, 3) := by decide +kernel
theorem dX10_areTold_228 : decode cX10_areTold 228 = .ok (.iconst 0, 1) := by decide +kernel
theorem dX10_areTold_229 : decode cX10_areTold 229 = .ok (.ireturn, 1) := by decide +kernel
theorem dX10_areTold_230 : decode cX10_areTold 230 = .ok (.iload_n 1, 1) := by decide +kernel
theorem dX10_areTold_231 : decode cX10_areTold 231 = .ok (.bipush 16, 2) := by decide +kernel
theorem dX10_areTold_233 : decode cX10_areTold 233 = .ok (.bipush 17, 2) := by decide +kernel
theorem dX10_areTold_235 : decode cX10_areTold 235 = .ok (.invokestatic 100, 3) := by decide +kernel
theorem dX10_areTold_238 : decode cX10_areTold 238 = .ok (.ifCond .eq 14, 3) := by decide +kernel
theorem dX10_areTold_241 : decode cX10_areTold 241 = .ok (.iload_n 2, 1) := by decide +kernel
theorem dX10_areTold_242 : decode cX10_areTold 242 = .ok (.invokestatic 107, 3) := by decide +kernel
theorem dX10_areTold_245 : decode cX10_areTold 245 = .ok (.ifCond .eq 7, 3) := by decide +kernel
theorem dX10_areTold_248 : decode cX10_areTold 248 = .ok (.iconst 1, 1) := by decide +kernel
theorem dX10_areTold_249 : decode cX10_areTold 249 = .ok (.goto 4, 3) := by decide +kernel
theorem dX10_areTold_252 : decode cX10_areTold 252 = .ok (.iconst 0, 1) := by decide +kernel
theorem dX10_areTold_253 : decode cX10_areTold 253 = .ok (.ireturn, 1) := by decide +kernel
theorem dX10_areTold_254 : decode cX10_areTold 254 = .ok (.iload_n 1, 1) := by decide +kernel
theorem dX10_areTold_255 : decode cX10_areTold 255 = .ok (.invokestatic 107, 3) := by decide +kernel
theorem dX10_areTold_258 : decode cX10_areTold 258 = .ok (.ireturn, 1) := by decide +kernel
theorem dX10_areTold_259 : decode cX10_areTold 259 = .ok (.iload_n 1, 1) := by decide +kernel
theorem dX10_areTold_260 : decode cX10_areTold 260 = .ok (.iconst 0, 1) := by decide +kernel
theorem dX10_areTold_261 : decode cX10_areTold 261 = .ok (.bipush 13, 2) := by decide +kernel
theorem dX10_areTold_263 : decode cX10_areTold 263 = .ok (.invokestatic 100, 3) := by decide +kernel
theorem dX10_areTold_266 : decode cX10_areTold 266 = .ok (.ifCond .eq 21, 3) := by decide +kernel
theorem dX10_areTold_269 : decode cX10_areTold 269 = .ok (.iload_n 2, 1) := by decide +kernel
theorem dX10_areTold_270 : decode cX10_areTold 270 = .ok (.invokestatic 107, 3) := by decide +kernel
theorem dX10_areTold_273 : decode cX10_areTold 273 = .ok (.ifCond .eq 14, 3) := by decide +kernel
theorem dX10_areTold_276 : decode cX10_areTold 276 = .ok (.iload_n 3, 1) := by decide +kernel
theorem dX10_areTold_277 : decode cX10_areTold 277 = .ok (.invokestatic 107, 3) := by decide +kernel
theorem dX10_areTold_280 : decode cX10_areTold 280 = .ok (.ifCond .eq 7, 3) := by decide +kernel
theorem dX10_areTold_283 : decode cX10_areTold 283 = .ok (.iconst 1, 1) := by decide +kernel
theorem dX10_areTold_284 : decode cX10_areTold 284 = .ok (.goto 4, 3) := by decide +kernel
theorem dX10_areTold_287 : decode cX10_areTold 287 = .ok (.iconst 0, 1) := by decide +kernel
theorem dX10_areTold_288 : decode cX10_areTold 288 = .ok (.ireturn, 1) := by decide +kernel
theorem dX10_areTold_289 : decode cX10_areTold 289 = .ok (.iload_n 1, 1) := by decide +kernel
theorem dX10_areTold_290 : decode cX10_areTold 290 = .ok (.iconst 0, 1) := by decide +kernel
theorem dX10_areTold_291 : decode cX10_areTold 291 = .ok (.bipush 7, 2) := by decide +kernel
theorem dX10_areTold_293 : decode cX10_areTold 293 = .ok (.invokestatic 100, 3) := by decide +kernel
theorem dX10_areTold_296 : decode cX10_areTold 296 = .ok (.ifCond .eq 21, 3) := by decide +kernel
theorem dX10_areTold_299 : decode cX10_areTold 299 = .ok (.iload_n 2, 1) := by decide +kernel
theorem dX10_areTold_300 : decode cX10_areTold 300 = .ok (.invokestatic 107, 3) := by decide +kernel
theorem dX10_areTold_303 : decode cX10_areTold 303 = .ok (.ifCond .eq 14, 3) := by decide +kernel
theorem dX10_areTold_306 : decode cX10_areTold 306 = .ok (.iload_n 3, 1) := by decide +kernel
theorem dX10_areTold_307 : decode cX10_areTold 307 = .ok (.invokestatic 107, 3) := by decide +kernel
theorem dX10_areTold_310 : decode cX10_areTold 310 = .ok (.ifCond .eq 7, 3) := by decide +kernel
theorem dX10_areTold_313 : decode cX10_areTold 313 = .ok (.iconst 1, 1) := by decide +kernel
theorem dX10_areTold_314 : decode cX10_areTold 314 = .ok (.goto 4, 3) := by decide +kernel
theorem dX10_areTold_317 : decode cX10_areTold 317 = .ok (.iconst 0, 1) := by decide +kernel
theorem dX10_areTold_318 : decode cX10_areTold 318 = .ok (.ireturn, 1) := by decide +kernel
theorem dX10_areTold_319 : decode cX10_areTold 319 = .ok (.iconst 0, 1) := by decide +kernel
theorem dX10_areTold_320 : decode cX10_areTold 320 = .ok (.ireturn, 1) := by decide +kernel
theorem dX10_isBlock_0 : decode cX10_isBlock 0 = .ok (.iload_n 0, 1) := by decide +kernel
theorem dX10_isBlock_1 : decode cX10_isBlock 1 = .ok (.iconst 1, 1) := by decide +kernel
theorem dX10_isBlock_2 : decode cX10_isBlock 2 = .ok (.if_icmp .eq 14, 3) := by decide +kernel
theorem dX10_isBlock_5 : decode cX10_isBlock 5 = .ok (.iload_n 0, 1) := by decide +kernel
theorem dX10_isBlock_6 : decode cX10_isBlock 6 = .ok (.iconst 4, 1) := by decide +kernel
theorem dX10_isBlock_7 : decode cX10_isBlock 7 = .ok (.if_icmp .eq 9, 3) := by decide +kernel
theorem dX10_isBlock_10 : decode cX10_isBlock 10 = .ok (.iload_n 0, 1) := by decide +kernel
theorem dX10_isBlock_11 : decode cX10_isBlock 11 = .ok (.bipush 11, 2) := by decide +kernel
theorem dX10_isBlock_13 : decode cX10_isBlock 13 = .ok (.if_icmp .ne 7, 3) := by decide +kernel
theorem dX10_isBlock_16 : decode cX10_isBlock 16 = .ok (.iconst 1, 1) := by decide +kernel
theorem dX10_isBlock_17 : decode cX10_isBlock 17 = .ok (.goto 4, 3) := by decide +kernel
theorem dX10_isBlock_20 : decode cX10_isBlock 20 = .ok (.iconst 0, 1) := by decide +kernel
theorem dX10_isBlock_21 : decode cX10_isBlock 21 = .ok (.ireturn, 1) := by decide +kernel
theorem dX10_partAt_0 : decode cX10_partAt 0 = .ok (.aload_n 0, 1) := by decide +kernel
theorem dX10_partAt_1 : decode cX10_partAt 1 = .ok (.getfield 7, 3) := by decide +kernel
theorem dX10_partAt_4 : decode cX10_partAt 4 = .ok (.aload_n 0, 1) := by decide +kernel
theorem dX10_partAt_5 : decode cX10_partAt 5 = .ok (.getfield 37, 3) := by decide +kernel
theorem dX10_partAt_8 : decode cX10_partAt 8 = .ok (.bipush 6, 2) := by decide +kernel
theorem dX10_partAt_10 : decode cX10_partAt 10 = .ok (.aload_n 0, 1) := by decide +kernel
theorem dX10_partAt_11 : decode cX10_partAt 11 = .ok (.getfield 104, 3) := by decide +kernel
theorem dX10_partAt_14 : decode cX10_partAt 14 = .ok (.imul, 1) := by decide +kernel
theorem dX10_partAt_15 : decode cX10_partAt 15 = .ok (.iload_n 1, 1) := by decide +kernel
theorem dX10_partAt_16 : decode cX10_partAt 16 = .ok (.iadd, 1) := by decide +kernel
theorem dX10_partAt_17 : decode cX10_partAt 17 = .ok (.iaload, 1) := by decide +kernel
theorem dX10_partAt_18 : decode cX10_partAt 18 = .ok (.iaload, 1) := by decide +kernel
theorem dX10_partAt_19 : decode cX10_partAt 19 = .ok (.ireturn, 1) := by decide +kernel
theorem dX10_isPartOpen_0 : decode cX10_isPartOpen 0 = .ok (.iconst 0, 1) := by decide +kernel
theorem dX10_isPartOpen_1 : decode cX10_isPartOpen 1 = .ok (.istore_n 3, 1) := by decide +kernel
theorem dX10_isPartOpen_2 : decode cX10_isPartOpen 2 = .ok (.iload_n 2, 1) := by decide +kernel
theorem dX10_isPartOpen_3 : decode cX10_isPartOpen 3 = .ok (.istore 4, 2) := by decide +kernel
theorem dX10_isPartOpen_5 : decode cX10_isPartOpen 5 = .ok (.iload 4, 2) := by decide +kernel
theorem dX10_isPartOpen_7 : decode cX10_isPartOpen 7 = .ok (.aload_n 0, 1) := by decide +kernel
theorem dX10_isPartOpen_8 : decode cX10_isPartOpen 8 = .ok (.getfield 31, 3) := by decide +kernel
theorem dX10_isPartOpen_11 : decode cX10_isPartOpen 11 = .ok (.aload_n 0, 1) := by decide +kernel
theorem dX10_isPartOpen_12 : decode cX10_isPartOpen 12 = .ok (.getfield 104, 3) := by decide +kernel
theorem dX10_isPartOpen_15 : decode cX10_isPartOpen 15 = .ok (.iaload, 1) := by decide +kernel
theorem dX10_isPartOpen_16 : decode cX10_isPartOpen 16 = .ok (.if_icmp .ge 29, 3) := by decide +kernel
theorem dX10_isPartOpen_19 : decode cX10_isPartOpen 19 = .ok (.iload_n 3, 1) := by decide +kernel
theorem dX10_isPartOpen_20 : decode cX10_isPartOpen 20 = .ok (.ifCond .ne 13, 3) := by decide +kernel
theorem dX10_isPartOpen_23 : decode cX10_isPartOpen 23 = .ok (.aload_n 0, 1) := by decide +kernel
theorem dX10_isPartOpen_24 : decode cX10_isPartOpen 24 = .ok (.iload 4, 2) := by decide +kernel
theorem dX10_isPartOpen_26 : decode cX10_isPartOpen 26 = .ok (.invokevirtual 114, 3) := by decide +kernel
theorem dX10_isPartOpen_29 : decode cX10_isPartOpen 29 = .ok (.iload_n 1, 1) := by decide +kernel
theorem dX10_isPartOpen_30 : decode cX10_isPartOpen 30 = .ok (.if_icmp .ne 7, 3) := by decide +kernel
theorem dX10_isPartOpen_33 : decode cX10_isPartOpen 33 = .ok (.iconst 1, 1) := by decide +kernel
theorem dX10_isPartOpen_34 : decode cX10_isPartOpen 34 = .ok (.goto 4, 3) := by decide +kernel
theorem dX10_isPartOpen_37 : decode cX10_isPartOpen 37 = .ok (.iconst 0, 1) := by decide +kernel
theorem dX10_isPartOpen_38 : decode cX10_isPartOpen 38 = .ok (.istore_n 3, 1) := by decide +kernel
theorem dX10_isPartOpen_39 : decode cX10_isPartOpen 39 = .ok (.iinc 4 1, 3) := by decide +kernel
theorem dX10_isPartOpen_42 : decode cX10_isPartOpen 42 = .ok (.goto (-37), 3) := by decide +kernel
theorem dX10_isPartOpen_45 : decode cX10_isPartOpen 45 = .ok (.iload_n 3, 1) := by decide +kernel
theorem dX10_isPartOpen_46 : decode cX10_isPartOpen 46 = .ok (.ireturn, 1) := by decide +kernel
theorem dX10_mayStand_0 : decode cX10_mayStand 0 = .ok (.aload_n 0, 1) := by decide +kernel
theorem dX10_mayStand_1 : decode cX10_mayStand 1 = .ok (.getfield 31, 3) := by decide +kernel
theorem dX10_mayStand_4 : decode cX10_mayStand 4 = .ok (.aload_n 0, 1) := by decide +kernel
theorem dX10_mayStand_5 : decode cX10_mayStand 5 = .ok (.getfield 104, 3) := by decide +kernel
theorem dX10_mayStand_8 : decode cX10_mayStand 8 = .ok (.iaload, 1) := by decide +kernel
theorem dX10_mayStand_9 : decode cX10_mayStand 9 = .ok (.istore_n 2, 1) := by decide +kernel
theorem dX10_mayStand_10 : decode cX10_mayStand 10 = .ok (.bipush 6, 2) := by decide +kernel
theorem dX10_mayStand_12 : decode cX10_mayStand 12 = .ok (.aload_n 0, 1) := by decide +kernel
theorem dX10_mayStand_13 : decode cX10_mayStand 13 = .ok (.getfield 104, 3) := by decide +kernel
theorem dX10_mayStand_16 : decode cX10_mayStand 16 = .ok (.imul, 1) := by decide +kernel
theorem dX10_mayStand_17 : decode cX10_mayStand 17 = .ok (.iload_n 2, 1) := by decide +kernel
theorem dX10_mayStand_18 : decode cX10_mayStand 18 = .ok (.iadd, 1) := by decide +kernel
theorem dX10_mayStand_19 : decode cX10_mayStand 19 = .ok (.iconst 1, 1) := by decide +kernel
theorem dX10_mayStand_20 : decode cX10_mayStand 20 = .ok (.isub, 1) := by decide +kernel
theorem dX10_mayStand_21 : decode cX10_mayStand 21 = .ok (.istore_n 3, 1) := by decide +kernel
theorem dX10_mayStand_22 : decode cX10_mayStand 22 = .ok (.iload_n 1, 1) := by decide +kernel
theorem dX10_mayStand_23 : decode cX10_mayStand 23 = .ok (.invokestatic 118, 3) := by decide +kernel
theorem dX10_mayStand_26 : decode cX10_mayStand 26 = .ok (.ifCond .eq 15, 3) := by decide +kernel
theorem dX10_mayStand_29 : decode cX10_mayStand 29 = .ok (.iload_n 2, 1) := by decide +kernel
theorem dX10_mayStand_30 : decode cX10_mayStand 30 = .ok (.bipush 6, 2) := by decide +kernel
theorem dX10_mayStand_32 : decode cX10_mayStand 32 = .ok (.if_icmp .ge 7, 3) := by decide +kernel
theorem dX10_mayStand_35 : decode cX10_mayStand 35 = .ok (.iconst 1, 1) := by decide +kernel
theorem dX10_mayStand_36 : decode cX10_mayStand 36 = .ok (.goto 4, 3) := by decide +kernel
theorem dX10_mayStand_39 : decode cX10_mayStand 39 = .ok (.iconst 0, 1) := by decide +kernel
theorem dX10_mayStand_40 : decode cX10_mayStand 40 = .ok (.ireturn, 1) := by decide +kernel
theorem dX10_mayStand_41 : decode cX10_mayStand 41 = .ok (.iload_n 1, 1) := by decide +kernel
theorem dX10_mayStand_42 : decode cX10_mayStand 42 = .ok (.ifCond .ne 13, 3) := by decide +kernel
theorem dX10_mayStand_45 : decode cX10_mayStand 45 = .ok (.iload_n 2, 1) := by decide +kernel
theorem dX10_mayStand_46 : decode cX10_mayStand 46 = .ok (.ifCond .le 7, 3) := by decide +kernel
theorem dX10_mayStand_49 : decode cX10_mayStand 49 = .ok (.iconst 1, 1) := by decide +kernel
theorem dX10_mayStand_50 : decode cX10_mayStand 50 = .ok (.goto 4, 3) := by decide +kernel
theorem dX10_mayStand_53 : decode cX10_mayStand 53 = .ok (.iconst 0, 1) := by decide +kernel
theorem dX10_mayStand_54 : decode cX10_mayStand 54 = .ok (.ireturn, 1) := by decide +kernel
theorem dX10_mayStand_55 : decode cX10_mayStand 55 = .ok (.iload_n 1, 1) := by decide +kernel
theorem dX10_mayStand_56 : decode cX10_mayStand 56 = .ok (.iconst 2, 1) := by decide +kernel
theorem dX10_mayStand_57 : decode cX10_mayStand 57 = .ok (.if_icmp .eq 8, 3) := by decide +kernel
theorem dX10_mayStand_60 : decode cX10_mayStand 60 = .ok (.iload_n 1, 1) := by decide +kernel
theorem dX10_mayStand_61 : decode cX10_mayStand 61 = .ok (.iconst 3, 1) := by decide +kernel
theorem dX10_mayStand_62 : decode cX10_mayStand 62 = .ok (.if_icmp .ne 56, 3) := by decide +kernel
theorem dX10_mayStand_65 : decode cX10_mayStand 65 = .ok (.iload_n 2, 1) := by decide +kernel
theorem dX10_mayStand_66 : decode cX10_mayStand 66 = .ok (.ifCond .eq 29, 3) := by decide +kernel
theorem dX10_mayStand_69 : decode cX10_mayStand 69 = .ok (.aload_n 0, 1) := by decide +kernel
theorem dX10_mayStand_70 : decode cX10_mayStand 70 = .ok (.getfield 7, 3) := by decide +kernel
theorem dX10_mayStand_73 : decode cX10_mayStand 73 = .ok (.aload_n 0, 1) := by decide +kernel
theorem dX10_mayStand_74 : decode cX10_mayStand 74 = .ok (.getfield 34, 3) := by decide +kernel
theorem dX10_mayStand_77 : decode cX10_mayStand 77 = .ok (.iload_n 3, 1) := by decide +kernel
theorem dX10_mayStand_78 : decode cX10_mayStand 78 = .ok (.iaload, 1) := by decide +kernel
theorem dX10_mayStand_79 : decode cX10_mayStand 79 = .ok (.iaload, 1) := by decide +kernel
theorem dX10_mayStand_80 : decode cX10_mayStand 80 = .ok (.iconst 1, 1) := by decide +kernel
theorem dX10_mayStand_81 : decode cX10_mayStand 81 = .ok (.if_icmp .ne 14, 3) := by decide +kernel
theorem dX10_mayStand_84 : decode cX10_mayStand 84 = .ok (.aload_n 0, 1) := by decide +kernel
theorem dX10_mayStand_85 : decode cX10_mayStand 85 = .ok (.iload_n 2, 1) := by decide +kernel
theorem dX10_mayStand_86 : decode cX10_mayStand 86 = .ok (.iconst 1, 1) := by decide +kernel
theorem dX10_mayStand_87 : decode cX10_mayStand 87 = .ok (.isub, 1) := by decide +kernel
theorem dX10_mayStand_88 : decode cX10_mayStand 88 = .ok (.invokevirtual 114, 3) := by decide +kernel
theorem dX10_mayStand_91 : decode cX10_mayStand 91 = .ok (.iconst 3, 1) := by decide +kernel
theorem dX10_mayStand_92 : decode cX10_mayStand 92 = .ok (.if_icmp .ne 5, 3) := by decide +kernel
theorem dX10_mayStand_95 : decode cX10_mayStand 95 = .ok (.iconst 0, 1) := by decide +kernel
theorem dX10_mayStand_96 : decode cX10_mayStand 96 = .ok (.ireturn, 1) := by decide +kernel
theorem dX10_mayStand_97 : decode cX10_mayStand 97 = .ok (.iload_n 1, 1) := by decide +kernel
theorem dX10_mayStand_98 : decode cX10_mayStand 98 = .ok (.iconst 3, 1) := by decide +kernel
theorem dX10_mayStand_99 : decode cX10_mayStand 99 = .ok (.if_icmp .eq 13, 3) := by decide +kernel
theorem dX10_mayStand_102 : decode cX10_mayStand 102 = .ok (.aload_n 0, 1) := by decide +kernel
theorem dX10_mayStand_103 : decode cX10_mayStand 103 = .ok (.getfield 40, 3) := by decide +kernel
theorem dX10_mayStand_106 : decode cX10_mayStand 106 = .ok (.iload_n 3, 1) := by decide +kernel
theorem dX10_mayStand_107 : decode cX10_mayStand 107 = .ok (.iaload, 1) := by decide +kernel
theorem dX10_mayStand_108 : decode cX10_mayStand 108 = .ok (.iconst 3, 1) := by decide +kernel
theorem dX10_mayStand_109 : decode cX10_mayStand 109 = .ok (.if_icmp .ge 7, 3) := by decide +kernel
theorem dX10_mayStand_112 : decode cX10_mayStand 112 = .ok (.iconst 1, 1) := by decide +kernel
theorem dX10_mayStand_113 : decode cX10_mayStand 113 = .ok (.goto 4, 3) := by decide +kernel
theorem dX10_mayStand_116 : decode cX10_mayStand 116 = .ok (.iconst 0, 1) := by decide +kernel
theorem dX10_mayStand_117 : decode cX10_mayStand 117 = .ok (.ireturn, 1) := by decide +kernel
theorem dX10_mayStand_118 : decode cX10_mayStand 118 = .ok (.iload_n 1, 1) := by decide +kernel
theorem dX10_mayStand_119 : decode cX10_mayStand 119 = .ok (.iconst 5, 1) := by decide +kernel
theorem dX10_mayStand_120 : decode cX10_mayStand 120 = .ok (.if_icmp .ne 75, 3) := by decide +kernel
theorem dX10_mayStand_123 : decode cX10_mayStand 123 = .ok (.iconst (-1), 1) := by decide +kernel
theorem dX10_mayStand_124 : decode cX10_mayStand 124 = .ok (.istore 4, 2) := by decide +kernel
theorem dX10_mayStand_126 : decode cX10_mayStand 126 = .ok (.iconst 0, 1) := by decide +kernel
theorem dX10_mayStand_127 : decode cX10_mayStand 127 = .ok (.istore 5, 2) := by decide +kernel
theorem dX10_mayStand_129 : decode cX10_mayStand 129 = .ok (.iload 5, 2) := by decide +kernel
theorem dX10_mayStand_131 : decode cX10_mayStand 131 = .ok (.iload_n 2, 1) := by decide +kernel
theorem dX10_mayStand_132 : decode cX10_mayStand 132 = .ok (.if_icmp .ge 42, 3) := by decide +kernel
theorem dX10_mayStand_135 : decode cX10_mayStand 135 = .ok (.aload_n 0, 1) := by decide +kernel
theorem dX10_mayStand_136 : decode cX10_mayStand 136 = .ok (.getfield 7, 3) := by decide +kernel
theorem dX10_mayStand_139 : decode cX10_mayStand 139 = .ok (.aload_n 0, 1) := by decide +kernel
theorem dX10_mayStand_140 : decode cX10_mayStand 140 = .ok (.getfield 34, 3) := by decide +kernel
theorem dX10_mayStand_143 : decode cX10_mayStand 143 = .ok (.bipush 6, 2) := by decide +kernel
theorem dX10_mayStand_145 : decode cX10_mayStand 145 = .ok (.aload_n 0, 1) := by decide +kernel
theorem dX10_mayStand_146 : decode cX10_mayStand 146 = .ok (.getfield 104, 3) := by decide +kernel
theorem dX10_mayStand_149 : decode cX10_mayStand 149 = .ok (.imul, 1) := by decide +kernel
theorem dX10_mayStand_150 : decode cX10_mayStand 150 = .ok (.iload 5, 2) := by decide +kernel
theorem dX10_mayStand_152 : decode cX10_mayStand 152 = .ok (.iadd, 1) := by decide +kernel
theorem dX10_mayStand_153 : decode cX10_mayStand 153 = .ok (.iaload, 1) := by decide +kernel
theorem dX10_mayStand_154 : decode cX10_mayStand 154 = .ok (.iaload, 1) := by decide +kernel
theorem dX10_mayStand_155 : decode cX10_mayStand 155 = .ok (.iconst 4, 1) := by decide +kernel
theorem dX10_mayStand_156 : decode cX10_mayStand 156 = .ok (.if_icmp .ne 8, 3) := by decide +kernel
theorem dX10_mayStand_159 : decode cX10_mayStand 159 = .ok (.iload 5, 2) := by decide +kernel
theorem dX10_mayStand_161 : decode cX10_mayStand 161 = .ok (.goto 5, 3) := by decide +kernel
theorem dX10_mayStand_164 : decode cX10_mayStand 164 = .ok (.iload 4, 2) := by decide +kernel
theorem dX10_mayStand_166 : decode cX10_mayStand 166 = .ok (.istore 4, 2) := by decide +kernel
theorem dX10_mayStand_168 : decode cX10_mayStand 168 = .ok (.iinc 5 1, 3) := by decide +kernel
theorem dX10_mayStand_171 : decode cX10_mayStand 171 = .ok (.goto (-42), 3) := by decide +kernel
theorem dX10_mayStand_174 : decode cX10_mayStand 174 = .ok (.iload 4, 2) := by decide +kernel
theorem dX10_mayStand_176 : decode cX10_mayStand 176 = .ok (.ifCond .lt 17, 3) := by decide +kernel
theorem dX10_mayStand_179 : decode cX10_mayStand 179 = .ok (.aload_n 0, 1) := by decide +kernel
theorem dX10_mayStand_180 : decode cX10_mayStand 180 = .ok (.iconst 3, 1) := by decide +kernel
theorem dX10_mayStand_181 : decode cX10_mayStand 181 = .ok (.iload 4, 2) := by decide +kernel
theorem dX10_mayStand_183 : decode cX10_mayStand 183 = .ok (.invokevirtual 121, 3) := by decide +kernel
theorem dX10_mayStand_186 : decode cX10_mayStand 186 = .ok (.ifCond .ne 7, 3) := by decide +kernel
theorem dX10_mayStand_189 : decode cX10_mayStand 189 = .ok (.iconst 1, 1) := by decide +kernel
theorem dX10_mayStand_190 : decode cX10_mayStand 190 = .ok (.goto 4, 3) := by decide +kernel
theorem dX10_mayStand_193 : decode cX10_mayStand 193 = .ok (.iconst 0, 1) := by decide +kernel
theorem dX10_mayStand_194 : decode cX10_mayStand 194 = .ok (.ireturn, 1) := by decide +kernel
theorem dX10_mayStand_195 : decode cX10_mayStand 195 = .ok (.iload_n 1, 1) := by decide +kernel
theorem dX10_mayStand_196 : decode cX10_mayStand 196 = .ok (.bipush 6, 2) := by decide +kernel
theorem dX10_mayStand_198 : decode cX10_mayStand 198 = .ok (.if_icmp .ne 18, 3) := by decide +kernel
theorem dX10_mayStand_201 : decode cX10_mayStand 201 = .ok (.aload_n 0, 1) := by decide +kernel
theorem dX10_mayStand_202 : decode cX10_mayStand 202 = .ok (.iconst 3, 1) := by decide +kernel
theorem dX10_mayStand_203 : decode cX10_mayStand 203 = .ok (.iconst 0, 1) := by decide +kernel
theorem dX10_mayStand_204 : decode cX10_mayStand 204 = .ok (.invokevirtual 121, 3) := by decide +kernel
theorem dX10_mayStand_207 : decode cX10_mayStand 207 = .ok (.ifCond .ne 7, 3) := by decide +kernel
theorem dX10_mayStand_210 : decode cX10_mayStand 210 = .ok (.iconst 1, 1) := by decide +kernel
theorem dX10_mayStand_211 : decode cX10_mayStand 211 = .ok (.goto 4, 3) := by decide +kernel
theorem dX10_mayStand_214 : decode cX10_mayStand 214 = .ok (.iconst 0, 1) := by decide +kernel
theorem dX10_mayStand_215 : decode cX10_mayStand 215 = .ok (.ireturn, 1) := by decide +kernel
theorem dX10_mayStand_216 : decode cX10_mayStand 216 = .ok (.iload_n 1, 1) := by decide +kernel
theorem dX10_mayStand_217 : decode cX10_mayStand 217 = .ok (.bipush 8, 2) := by decide +kernel
theorem dX10_mayStand_219 : decode cX10_mayStand 219 = .ok (.if_icmp .eq 15, 3) := by decide +kernel
theorem dX10_mayStand_222 : decode cX10_mayStand 222 = .ok (.iload_n 1, 1) := by decide +kernel
theorem dX10_mayStand_223 : decode cX10_mayStand 223 = .ok (.bipush 9, 2) := by decide +kernel
theorem dX10_mayStand_225 : decode cX10_mayStand 225 = .ok (.if_icmp .eq 9, 3) := by decide +kernel
theorem dX10_mayStand_228 : decode cX10_mayStand 228 = .ok (.iload_n 1, 1) := by decide +kernel
theorem dX10_mayStand_229 : decode cX10_mayStand 229 = .ok (.bipush 10, 2) := by decide +kernel
theorem dX10_mayStand_231 : decode cX10_mayStand 231 = .ok (.if_icmp .ne 12, 3) := by decide +kernel
theorem dX10_mayStand_234 : decode cX10_mayStand 234 = .ok (.aload_n 0, 1) := by decide +kernel
theorem dX10_mayStand_235 : decode cX10_mayStand 235 = .ok (.iconst 2, 1) := by decide +kernel
theorem dX10_mayStand_236 : decode cX10_mayStand 236 = .ok (.iconst 0, 1) := by decide +kernel
theorem dX10_mayStand_237 : decode cX10_mayStand 237 = .ok (.invokevirtual 121, 3) := by decide +kernel
theorem dX10_mayStand_240 : decode cX10_mayStand 240 = .ok (.ifCond .eq 7, 3) := by decide +kernel
theorem dX10_mayStand_243 : decode cX10_mayStand 243 = .ok (.iconst 1, 1) := by decide +kernel
theorem dX10_mayStand_244 : decode cX10_mayStand 244 = .ok (.goto 4, 3) := by decide +kernel
theorem dX10_mayStand_247 : decode cX10_mayStand 247 = .ok (.iconst 0, 1) := by decide +kernel
theorem dX10_mayStand_248 : decode cX10_mayStand 248 = .ok (.ireturn, 1) := by decide +kernel
theorem dX10_step_0 : decode cX10_step 0 = .ok (.iload_n 1, 1) := by decide +kernel
theorem dX10_step_1 : decode cX10_step 1 = .ok (.iload_n 2, 1) := by decide +kernel
theorem dX10_step_2 : decode cX10_step 2 = .ok (.iload_n 3, 1) := by decide +kernel
theorem dX10_step_3 : decode cX10_step 3 = .ok (.iload 4, 2) := by decide +kernel
theorem dX10_step_5 : decode cX10_step 5 = .ok (.invokestatic 125, 3) := by decide +kernel
theorem dX10_step_8 : decode cX10_step 8 = .ok (.ifCond .ne 5, 3) := by decide +kernel
theorem dX10_step_11 : decode cX10_step 11 = .ok (.iconst (-1), 1) := by decide +kernel
theorem dX10_step_12 : decode cX10_step 12 = .ok (.ireturn, 1) := by decide +kernel
theorem dX10_step_13 : decode cX10_step 13 = .ok (.aload_n 0, 1) := by decide +kernel
theorem dX10_step_14 : decode cX10_step 14 = .ok (.iload_n 1, 1) := by decide +kernel
theorem dX10_step_15 : decode cX10_step 15 = .ok (.invokevirtual 129, 3) := by decide +kernel
theorem dX10_step_18 : decode cX10_step 18 = .ok (.ifCond .ne 6, 3) := by decide +kernel
theorem dX10_step_21 : decode cX10_step 21 = .ok (.bipush (-2), 2) := by decide +kernel
theorem dX10_step_23 : decode cX10_step 23 = .ok (.ireturn, 1) := by decide +kernel
theorem dX10_step_24 : decode cX10_step 24 = .ok (.aload_n 0, 1) := by decide +kernel
theorem dX10_step_25 : decode cX10_step 25 = .ok (.getfield 28, 3) := by decide +kernel
theorem dX10_step_28 : decode cX10_step 28 = .ok (.aload_n 0, 1) := by decide +kernel
theorem dX10_step_29 : decode cX10_step 29 = .ok (.getfield 104, 3) := by decide +kernel
theorem dX10_step_32 : decode cX10_step 32 = .ok (.iaload, 1) := by decide +kernel
theorem dX10_step_33 : decode cX10_step 33 = .ok (.bipush 40, 2) := by decide +kernel
theorem dX10_step_35 : decode cX10_step 35 = .ok (.if_icmp .ne 6, 3) := by decide +kernel
theorem dX10_step_38 : decode cX10_step 38 = .ok (.bipush (-3), 2) := by decide +kernel
theorem dX10_step_40 : decode cX10_step 40 = .ok (.ireturn, 1) := by decide +kernel
theorem dX10_step_41 : decode cX10_step 41 = .ok (.bipush 40, 2) := by decide +kernel
theorem dX10_step_43 : decode cX10_step 43 = .ok (.aload_n 0, 1) := by decide +kernel
theorem dX10_step_44 : decode cX10_step 44 = .ok (.getfield 104, 3) := by decide +kernel
theorem dX10_step_47 : decode cX10_step 47 = .ok (.imul, 1) := by decide +kernel
theorem dX10_step_48 : decode cX10_step 48 = .ok (.aload_n 0, 1) := by decide +kernel
theorem dX10_step_49 : decode cX10_step 49 = .ok (.getfield 28, 3) := by decide +kernel
theorem dX10_step_52 : decode cX10_step 52 = .ok (.aload_n 0, 1) := by decide +kernel
theorem dX10_step_53 : decode cX10_step 53 = .ok (.getfield 104, 3) := by decide +kernel
theorem dX10_step_56 : decode cX10_step 56 = .ok (.iaload, 1) := by decide +kernel
theorem dX10_step_57 : decode cX10_step 57 = .ok (.iadd, 1) := by decide +kernel
theorem dX10_step_58 : decode cX10_step 58 = .ok (.istore 5, 2) := by decide +kernel
theorem dX10_step_60 : decode cX10_step 60 = .ok (.aload_n 0, 1) := by decide +kernel
theorem dX10_step_61 : decode cX10_step 61 = .ok (.getfield 7, 3) := by decide +kernel
theorem dX10_step_64 : decode cX10_step 64 = .ok (.iload 5, 2) := by decide +kernel
theorem dX10_step_66 : decode cX10_step 66 = .ok (.iload_n 1, 1) := by decide +kernel
theorem dX10_step_67 : decode cX10_step 67 = .ok (.iastore, 1) := by decide +kernel
theorem dX10_step_68 : decode cX10_step 68 = .ok (.aload_n 0, 1) := by decide +kernel
theorem dX10_step_69 : decode cX10_step 69 = .ok (.getfield 13, 3) := by decide +kernel
theorem dX10_step_72 : decode cX10_step 72 = .ok (.iload 5, 2) := by decide +kernel
theorem dX10_step_74 : decode cX10_step 74 = .ok (.iload_n 2, 1) := by decide +kernel
theorem dX10_step_75 : decode cX10_step 75 = .ok (.iastore, 1) := by decide +kernel
theorem dX10_step_76 : decode cX10_step 76 = .ok (.aload_n 0, 1) := by decide +kernel
theorem dX10_step_77 : decode cX10_step 77 = .ok (.getfield 16, 3) := by decide +kernel
theorem dX10_step_80 : decode cX10_step 80 = .ok (.iload 5, 2) := by decide +kernel
theorem dX10_step_82 : decode cX10_step 82 = .ok (.iload_n 3, 1) := by decide +kernel
end
section
theorem dX10_step_83 : decode cX10_step 83 = .ok (.iastore, 1) := by decide +kernel
theorem dX10_step_84 : decode cX10_step 84 = .ok (.aload_n 0, 1) := by decide +kernel
theorem dX10_step_85 : decode cX10_step 85 = .ok (.getfield 19, 3) := by decide +kernel
theorem dX10_step_88 : decode cX10_step 88 = .ok (.iload 5, 2) := by decide +kernel
theorem dX10_step_90 : decode cX10_step 90 = .ok (.iload 4, 2) := by decide +kernel
theorem dX10_step_92 : decode cX10_step 92 = .ok (.iastore, 1) := by decide +kernel
theorem dX10_step_93 : decode cX10_step 93 = .ok (.aload_n 0, 1) := by decide +kernel
theorem dX10_step_94 : decode cX10_step 94 = .ok (.getfield 28, 3) := by decide +kernel
theorem dX10_step_97 : decode cX10_step 97 = .ok (.aload_n 0, 1) := by decide +kernel
theorem dX10_step_98 : decode cX10_step 98 = .ok (.getfield 104, 3) := by decide +kernel
theorem dX10_step_101 : decode cX10_step 101 = .ok (.dup2, 1) := by decide +kernel
theorem dX10_step_102 : decode cX10_step 102 = .ok (.iaload, 1) := by decide +kernel
theorem dX10_step_103 : decode cX10_step 103 = .ok (.iconst 1, 1) := by decide +kernel
theorem dX10_step_104 : decode cX10_step 104 = .ok (.iadd, 1) := by decide +kernel
theorem dX10_step_105 : decode cX10_step 105 = .ok (.iastore, 1) := by decide +kernel
theorem dX10_step_106 : decode cX10_step 106 = .ok (.iload_n 1, 1) := by decide +kernel
theorem dX10_step_107 : decode cX10_step 107 = .ok (.invokestatic 118, 3) := by decide +kernel
theorem dX10_step_110 : decode cX10_step 110 = .ok (.ifCond .eq 64, 3) := by decide +kernel
theorem dX10_step_113 : decode cX10_step 113 = .ok (.bipush 6, 2) := by decide +kernel
theorem dX10_step_115 : decode cX10_step 115 = .ok (.aload_n 0, 1) := by decide +kernel
theorem dX10_step_116 : decode cX10_step 116 = .ok (.getfield 104, 3) := by decide +kernel
theorem dX10_step_119 : decode cX10_step 119 = .ok (.imul, 1) := by decide +kernel
theorem dX10_step_120 : decode cX10_step 120 = .ok (.aload_n 0, 1) := by decide +kernel
theorem dX10_step_121 : decode cX10_step 121 = .ok (.getfield 31, 3) := by decide +kernel
theorem dX10_step_124 : decode cX10_step 124 = .ok (.aload_n 0, 1) := by decide +kernel
theorem dX10_step_125 : decode cX10_step 125 = .ok (.getfield 104, 3) := by decide +kernel
theorem dX10_step_128 : decode cX10_step 128 = .ok (.iaload, 1) := by decide +kernel
theorem dX10_step_129 : decode cX10_step 129 = .ok (.iadd, 1) := by decide +kernel
theorem dX10_step_130 : decode cX10_step 130 = .ok (.istore 6, 2) := by decide +kernel
theorem dX10_step_132 : decode cX10_step 132 = .ok (.aload_n 0, 1) := by decide +kernel
theorem dX10_step_133 : decode cX10_step 133 = .ok (.getfield 34, 3) := by decide +kernel
theorem dX10_step_136 : decode cX10_step 136 = .ok (.iload 6, 2) := by decide +kernel
theorem dX10_step_138 : decode cX10_step 138 = .ok (.iload 5, 2) := by decide +kernel
theorem dX10_step_140 : decode cX10_step 140 = .ok (.iastore, 1) := by decide +kernel
theorem dX10_step_141 : decode cX10_step 141 = .ok (.aload_n 0, 1) := by decide +kernel
theorem dX10_step_142 : decode cX10_step 142 = .ok (.getfield 37, 3) := by decide +kernel
theorem dX10_step_145 : decode cX10_step 145 = .ok (.iload 6, 2) := by decide +kernel
theorem dX10_step_147 : decode cX10_step 147 = .ok (.iload 5, 2) := by decide +kernel
theorem dX10_step_149 : decode cX10_step 149 = .ok (.iastore, 1) := by decide +kernel
theorem dX10_step_150 : decode cX10_step 150 = .ok (.aload_n 0, 1) := by decide +kernel
theorem dX10_step_151 : decode cX10_step 151 = .ok (.getfield 40, 3) := by decide +kernel
theorem dX10_step_154 : decode cX10_step 154 = .ok (.iload 6, 2) := by decide +kernel
theorem dX10_step_156 : decode cX10_step 156 = .ok (.iconst 0, 1) := by decide +kernel
theorem dX10_step_157 : decode cX10_step 157 = .ok (.iastore, 1) := by decide +kernel
theorem dX10_step_158 : decode cX10_step 158 = .ok (.aload_n 0, 1) := by decide +kernel
theorem dX10_step_159 : decode cX10_step 159 = .ok (.getfield 31, 3) := by decide +kernel
theorem dX10_step_162 : decode cX10_step 162 = .ok (.aload_n 0, 1) := by decide +kernel
theorem dX10_step_163 : decode cX10_step 163 = .ok (.getfield 104, 3) := by decide +kernel
theorem dX10_step_166 : decode cX10_step 166 = .ok (.dup2, 1) := by decide +kernel
theorem dX10_step_167 : decode cX10_step 167 = .ok (.iaload, 1) := by decide +kernel
theorem dX10_step_168 : decode cX10_step 168 = .ok (.iconst 1, 1) := by decide +kernel
theorem dX10_step_169 : decode cX10_step 169 = .ok (.iadd, 1) := by decide +kernel
theorem dX10_step_170 : decode cX10_step 170 = .ok (.iastore, 1) := by decide +kernel
theorem dX10_step_171 : decode cX10_step 171 = .ok (.goto 112, 3) := by decide +kernel
theorem dX10_step_174 : decode cX10_step 174 = .ok (.iload_n 1, 1) := by decide +kernel
theorem dX10_step_175 : decode cX10_step 175 = .ok (.iconst 2, 1) := by decide +kernel
theorem dX10_step_176 : decode cX10_step 176 = .ok (.if_icmp .eq 12, 3) := by decide +kernel
theorem dX10_step_179 : decode cX10_step 179 = .ok (.iload_n 1, 1) := by decide +kernel
theorem dX10_step_180 : decode cX10_step 180 = .ok (.iconst 3, 1) := by decide +kernel
theorem dX10_step_181 : decode cX10_step 181 = .ok (.if_icmp .eq 7, 3) := by decide +kernel
theorem dX10_step_184 : decode cX10_step 184 = .ok (.iload_n 1, 1) := by decide +kernel
theorem dX10_step_185 : decode cX10_step 185 = .ok (.ifCond .ne 98, 3) := by decide +kernel
theorem dX10_step_188 : decode cX10_step 188 = .ok (.bipush 6, 2) := by decide +kernel
theorem dX10_step_190 : decode cX10_step 190 = .ok (.aload_n 0, 1) := by decide +kernel
theorem dX10_step_191 : decode cX10_step 191 = .ok (.getfield 104, 3) := by decide +kernel
theorem dX10_step_194 : decode cX10_step 194 = .ok (.imul, 1) := by decide +kernel
theorem dX10_step_195 : decode cX10_step 195 = .ok (.aload_n 0, 1) := by decide +kernel
theorem dX10_step_196 : decode cX10_step 196 = .ok (.getfield 31, 3) := by decide +kernel
theorem dX10_step_199 : decode cX10_step 199 = .ok (.aload_n 0, 1) := by decide +kernel
theorem dX10_step_200 : decode cX10_step 200 = .ok (.getfield 104, 3) := by decide +kernel
theorem dX10_step_203 : decode cX10_step 203 = .ok (.iaload, 1) := by decide +kernel
theorem dX10_step_204 : decode cX10_step 204 = .ok (.iadd, 1) := by decide +kernel
theorem dX10_step_205 : decode cX10_step 205 = .ok (.iconst 1, 1) := by decide +kernel
theorem dX10_step_206 : decode cX10_step 206 = .ok (.isub, 1) := by decide +kernel
theorem dX10_step_207 : decode cX10_step 207 = .ok (.istore 6, 2) := by decide +kernel
theorem dX10_step_209 : decode cX10_step 209 = .ok (.aload_n 0, 1) := by decide +kernel
theorem dX10_step_210 : decode cX10_step 210 = .ok (.getfield 25, 3) := by decide +kernel
theorem dX10_step_213 : decode cX10_step 213 = .ok (.aload_n 0, 1) := by decide +kernel
theorem dX10_step_214 : decode cX10_step 214 = .ok (.getfield 37, 3) := by decide +kernel
theorem dX10_step_217 : decode cX10_step 217 = .ok (.iload 6, 2) := by decide +kernel
theorem dX10_step_219 : decode cX10_step 219 = .ok (.iaload, 1) := by decide +kernel
theorem dX10_step_220 : decode cX10_step 220 = .ok (.iload 5, 2) := by decide +kernel
theorem dX10_step_222 : decode cX10_step 222 = .ok (.iastore, 1) := by decide +kernel
theorem dX10_step_223 : decode cX10_step 223 = .ok (.aload_n 0, 1) := by decide +kernel
theorem dX10_step_224 : decode cX10_step 224 = .ok (.getfield 37, 3) := by decide +kernel
theorem dX10_step_227 : decode cX10_step 227 = .ok (.iload 6, 2) := by decide +kernel
theorem dX10_step_229 : decode cX10_step 229 = .ok (.iload 5, 2) := by decide +kernel
theorem dX10_step_231 : decode cX10_step 231 = .ok (.iastore, 1) := by decide +kernel
theorem dX10_step_232 : decode cX10_step 232 = .ok (.aload_n 0, 1) := by decide +kernel
theorem dX10_step_233 : decode cX10_step 233 = .ok (.getfield 40, 3) := by decide +kernel
theorem dX10_step_236 : decode cX10_step 236 = .ok (.iload 6, 2) := by decide +kernel
theorem dX10_step_238 : decode cX10_step 238 = .ok (.dup2, 1) := by decide +kernel
theorem dX10_step_239 : decode cX10_step 239 = .ok (.iaload, 1) := by decide +kernel
theorem dX10_step_240 : decode cX10_step 240 = .ok (.iload_n 1, 1) := by decide +kernel
theorem dX10_step_241 : decode cX10_step 241 = .ok (.iconst 2, 1) := by decide +kernel
theorem dX10_step_242 : decode cX10_step 242 = .ok (.if_icmp .ne 7, 3) := by decide +kernel
theorem dX10_step_245 : decode cX10_step 245 = .ok (.iconst 1, 1) := by decide +kernel
theorem dX10_step_246 : decode cX10_step 246 = .ok (.goto 4, 3) := by decide +kernel
theorem dX10_step_249 : decode cX10_step 249 = .ok (.iconst 0, 1) := by decide +kernel
theorem dX10_step_250 : decode cX10_step 250 = .ok (.iadd, 1) := by decide +kernel
theorem dX10_step_251 : decode cX10_step 251 = .ok (.iastore, 1) := by decide +kernel
theorem dX10_step_252 : decode cX10_step 252 = .ok (.iload_n 1, 1) := by decide +kernel
theorem dX10_step_253 : decode cX10_step 253 = .ok (.ifCond .ne 30, 3) := by decide +kernel
theorem dX10_step_256 : decode cX10_step 256 = .ok (.aload_n 0, 1) := by decide +kernel
theorem dX10_step_257 : decode cX10_step 257 = .ok (.getfield 22, 3) := by decide +kernel
theorem dX10_step_260 : decode cX10_step 260 = .ok (.aload_n 0, 1) := by decide +kernel
theorem dX10_step_261 : decode cX10_step 261 = .ok (.getfield 34, 3) := by decide +kernel
theorem dX10_step_264 : decode cX10_step 264 = .ok (.iload 6, 2) := by decide +kernel
theorem dX10_step_266 : decode cX10_step 266 = .ok (.iaload, 1) := by decide +kernel
theorem dX10_step_267 : decode cX10_step 267 = .ok (.iload 5, 2) := by decide +kernel
theorem dX10_step_269 : decode cX10_step 269 = .ok (.iastore, 1) := by decide +kernel
theorem dX10_step_270 : decode cX10_step 270 = .ok (.aload_n 0, 1) := by decide +kernel
theorem dX10_step_271 : decode cX10_step 271 = .ok (.getfield 31, 3) := by decide +kernel
theorem dX10_step_274 : decode cX10_step 274 = .ok (.aload_n 0, 1) := by decide +kernel
theorem dX10_step_275 : decode cX10_step 275 = .ok (.getfield 104, 3) := by decide +kernel
theorem dX10_step_278 : decode cX10_step 278 = .ok (.dup2, 1) := by decide +kernel
theorem dX10_step_279 : decode cX10_step 279 = .ok (.iaload, 1) := by decide +kernel
theorem dX10_step_280 : decode cX10_step 280 = .ok (.iconst 1, 1) := by decide +kernel
theorem dX10_step_281 : decode cX10_step 281 = .ok (.isub, 1) := by decide +kernel
theorem dX10_step_282 : decode cX10_step 282 = .ok (.iastore, 1) := by decide +kernel
theorem dX10_step_283 : decode cX10_step 283 = .ok (.aload_n 0, 1) := by decide +kernel
theorem dX10_step_284 : decode cX10_step 284 = .ok (.getfield 28, 3) := by decide +kernel
theorem dX10_step_287 : decode cX10_step 287 = .ok (.aload_n 0, 1) := by decide +kernel
theorem dX10_step_288 : decode cX10_step 288 = .ok (.getfield 104, 3) := by decide +kernel
theorem dX10_step_291 : decode cX10_step 291 = .ok (.iaload, 1) := by decide +kernel
theorem dX10_step_292 : decode cX10_step 292 = .ok (.ireturn, 1) := by decide +kernel
theorem dX10_clear_0 : decode cX10_clear 0 = .ok (.aload_n 0, 1) := by decide +kernel
theorem dX10_clear_1 : decode cX10_clear 1 = .ok (.getfield 28, 3) := by decide +kernel
theorem dX10_clear_4 : decode cX10_clear 4 = .ok (.aload_n 0, 1) := by decide +kernel
theorem dX10_clear_5 : decode cX10_clear 5 = .ok (.getfield 104, 3) := by decide +kernel
theorem dX10_clear_8 : decode cX10_clear 8 = .ok (.iaload, 1) := by decide +kernel
theorem dX10_clear_9 : decode cX10_clear 9 = .ok (.istore_n 1, 1) := by decide +kernel
theorem dX10_clear_10 : decode cX10_clear 10 = .ok (.aload_n 0, 1) := by decide +kernel
theorem dX10_clear_11 : decode cX10_clear 11 = .ok (.getfield 28, 3) := by decide +kernel
theorem dX10_clear_14 : decode cX10_clear 14 = .ok (.aload_n 0, 1) := by decide +kernel
theorem dX10_clear_15 : decode cX10_clear 15 = .ok (.getfield 104, 3) := by decide +kernel
theorem dX10_clear_18 : decode cX10_clear 18 = .ok (.iconst 0, 1) := by decide +kernel
theorem dX10_clear_19 : decode cX10_clear 19 = .ok (.iastore, 1) := by decide +kernel
theorem dX10_clear_20 : decode cX10_clear 20 = .ok (.aload_n 0, 1) := by decide +kernel
theorem dX10_clear_21 : decode cX10_clear 21 = .ok (.getfield 31, 3) := by decide +kernel
theorem dX10_clear_24 : decode cX10_clear 24 = .ok (.aload_n 0, 1) := by decide +kernel
theorem dX10_clear_25 : decode cX10_clear 25 = .ok (.getfield 104, 3) := by decide +kernel
theorem dX10_clear_28 : decode cX10_clear 28 = .ok (.iconst 0, 1) := by decide +kernel
theorem dX10_clear_29 : decode cX10_clear 29 = .ok (.iastore, 1) := by decide +kernel
theorem dX10_clear_30 : decode cX10_clear 30 = .ok (.iload_n 1, 1) := by decide +kernel
theorem dX10_clear_31 : decode cX10_clear 31 = .ok (.ireturn, 1) := by decide +kernel
theorem dX10_isUnder_0 : decode cX10_isUnder 0 = .ok (.iload_n 1, 1) := by decide +kernel
theorem dX10_isUnder_1 : decode cX10_isUnder 1 = .ok (.istore_n 3, 1) := by decide +kernel
theorem dX10_isUnder_2 : decode cX10_isUnder 2 = .ok (.iconst 0, 1) := by decide +kernel
theorem dX10_isUnder_3 : decode cX10_isUnder 3 = .ok (.istore 4, 2) := by decide +kernel
theorem dX10_isUnder_5 : decode cX10_isUnder 5 = .ok (.iload 4, 2) := by decide +kernel
theorem dX10_isUnder_7 : decode cX10_isUnder 7 = .ok (.iconst 4, 1) := by decide +kernel
theorem dX10_isUnder_8 : decode cX10_isUnder 8 = .ok (.if_icmp .ge 27, 3) := by decide +kernel
theorem dX10_isUnder_11 : decode cX10_isUnder 11 = .ok (.iload_n 3, 1) := by decide +kernel
theorem dX10_isUnder_12 : decode cX10_isUnder 12 = .ok (.ifCond .le 23, 3) := by decide +kernel
theorem dX10_isUnder_15 : decode cX10_isUnder 15 = .ok (.iload_n 3, 1) := by decide +kernel
theorem dX10_isUnder_16 : decode cX10_isUnder 16 = .ok (.iload_n 2, 1) := by decide +kernel
theorem dX10_isUnder_17 : decode cX10_isUnder 17 = .ok (.if_icmp .ne 5, 3) := by decide +kernel
theorem dX10_isUnder_20 : decode cX10_isUnder 20 = .ok (.iconst 1, 1) := by decide +kernel
theorem dX10_isUnder_21 : decode cX10_isUnder 21 = .ok (.ireturn, 1) := by decide +kernel
theorem dX10_isUnder_22 : decode cX10_isUnder 22 = .ok (.aload_n 0, 1) := by decide +kernel
theorem dX10_isUnder_23 : decode cX10_isUnder 23 = .ok (.getfield 97, 3) := by decide +kernel
theorem dX10_isUnder_26 : decode cX10_isUnder 26 = .ok (.iload_n 3, 1) := by decide +kernel
theorem dX10_isUnder_27 : decode cX10_isUnder 27 = .ok (.iaload, 1) := by decide +kernel
theorem dX10_isUnder_28 : decode cX10_isUnder 28 = .ok (.istore_n 3, 1) := by decide +kernel
theorem dX10_isUnder_29 : decode cX10_isUnder 29 = .ok (.iinc 4 1, 3) := by decide +kernel
theorem dX10_isUnder_32 : decode cX10_isUnder 32 = .ok (.goto (-27), 3) := by decide +kernel
theorem dX10_isUnder_35 : decode cX10_isUnder 35 = .ok (.iconst 0, 1) := by decide +kernel
theorem dX10_isUnder_36 : decode cX10_isUnder 36 = .ok (.ireturn, 1) := by decide +kernel
theorem dX10_throwNew_0 : decode cX10_throwNew 0 = .ok (.aload_n 0, 1) := by decide +kernel
theorem dX10_throwNew_1 : decode cX10_throwNew 1 = .ok (.getfield 60, 3) := by decide +kernel
theorem dX10_throwNew_4 : decode cX10_throwNew 4 = .ok (.aload_n 0, 1) := by decide +kernel
theorem dX10_throwNew_5 : decode cX10_throwNew 5 = .ok (.getfield 132, 3) := by decide +kernel
theorem dX10_throwNew_8 : decode cX10_throwNew 8 = .ok (.iload_n 1, 1) := by decide +kernel
theorem dX10_throwNew_9 : decode cX10_throwNew 9 = .ok (.iastore, 1) := by decide +kernel
theorem dX10_throwNew_10 : decode cX10_throwNew 10 = .ok (.aload_n 0, 1) := by decide +kernel
theorem dX10_throwNew_11 : decode cX10_throwNew 11 = .ok (.getfield 63, 3) := by decide +kernel
theorem dX10_throwNew_14 : decode cX10_throwNew 14 = .ok (.aload_n 0, 1) := by decide +kernel
theorem dX10_throwNew_15 : decode cX10_throwNew 15 = .ok (.getfield 132, 3) := by decide +kernel
theorem dX10_throwNew_18 : decode cX10_throwNew 18 = .ok (.iload_n 2, 1) := by decide +kernel
theorem dX10_throwNew_19 : decode cX10_throwNew 19 = .ok (.iastore, 1) := by decide +kernel
theorem dX10_throwNew_20 : decode cX10_throwNew 20 = .ok (.aload_n 0, 1) := by decide +kernel
theorem dX10_throwNew_21 : decode cX10_throwNew 21 = .ok (.getfield 66, 3) := by decide +kernel
theorem dX10_throwNew_24 : decode cX10_throwNew 24 = .ok (.aload_n 0, 1) := by decide +kernel
theorem dX10_throwNew_25 : decode cX10_throwNew 25 = .ok (.getfield 132, 3) := by decide +kernel
theorem dX10_throwNew_28 : decode cX10_throwNew 28 = .ok (.iload_n 3, 1) := by decide +kernel
theorem dX10_throwNew_29 : decode cX10_throwNew 29 = .ok (.iastore, 1) := by decide +kernel
theorem dX10_throwNew_30 : decode cX10_throwNew 30 = .ok (.aload_n 0, 1) := by decide +kernel
theorem dX10_throwNew_31 : decode cX10_throwNew 31 = .ok (.getfield 69, 3) := by decide +kernel
theorem dX10_throwNew_34 : decode cX10_throwNew 34 = .ok (.aload_n 0, 1) := by decide +kernel
theorem dX10_throwNew_35 : decode cX10_throwNew 35 = .ok (.getfield 132, 3) := by decide +kernel
theorem dX10_throwNew_38 : decode cX10_throwNew 38 = .ok (.iload 4, 2) := by decide +kernel
theorem dX10_throwNew_40 : decode cX10_throwNew 40 = .ok (.iastore, 1) := by decide +kernel
theorem dX10_throwNew_41 : decode cX10_throwNew 41 = .ok (.aload_n 0, 1) := by decide +kernel
theorem dX10_throwNew_42 : decode cX10_throwNew 42 = .ok (.getfield 72, 3) := by decide +kernel
theorem dX10_throwNew_45 : decode cX10_throwNew 45 = .ok (.aload_n 0, 1) := by decide +kernel
theorem dX10_throwNew_46 : decode cX10_throwNew 46 = .ok (.getfield 132, 3) := by decide +kernel
theorem dX10_throwNew_49 : decode cX10_throwNew 49 = .ok (.iload 4, 2) := by decide +kernel
theorem dX10_throwNew_51 : decode cX10_throwNew 51 = .ok (.ifCond .ge 7, 3) := by decide +kernel
theorem dX10_throwNew_54 : decode cX10_throwNew 54 = .ok (.iconst 0, 1) := by decide +kernel
theorem dX10_throwNew_55 : decode cX10_throwNew 55 = .ok (.goto 12, 3) := by decide +kernel
theorem dX10_throwNew_58 : decode cX10_throwNew 58 = .ok (.aload_n 0, 1) := by decide +kernel
theorem dX10_throwNew_59 : decode cX10_throwNew 59 = .ok (.getfield 72, 3) := by decide +kernel
theorem dX10_throwNew_62 : decode cX10_throwNew 62 = .ok (.iload 4, 2) := by decide +kernel
theorem dX10_throwNew_64 : decode cX10_throwNew 64 = .ok (.iaload, 1) := by decide +kernel
theorem dX10_throwNew_65 : decode cX10_throwNew 65 = .ok (.iconst 1, 1) := by decide +kernel
theorem dX10_throwNew_66 : decode cX10_throwNew 66 = .ok (.iadd, 1) := by decide +kernel
theorem dX10_throwNew_67 : decode cX10_throwNew 67 = .ok (.iastore, 1) := by decide +kernel
theorem dX10_throwNew_68 : decode cX10_throwNew 68 = .ok (.aload_n 0, 1) := by decide +kernel
theorem dX10_throwNew_69 : decode cX10_throwNew 69 = .ok (.aload_n 0, 1) := by decide +kernel
theorem dX10_throwNew_70 : decode cX10_throwNew 70 = .ok (.getfield 132, 3) := by decide +kernel
theorem dX10_throwNew_73 : decode cX10_throwNew 73 = .ok (.putfield 135, 3) := by decide +kernel
theorem dX10_throwNew_76 : decode cX10_throwNew 76 = .ok (.aload_n 0, 1) := by decide +kernel
theorem dX10_throwNew_77 : decode cX10_throwNew 77 = .ok (.iconst 3, 1) := by decide +kernel
theorem dX10_throwNew_78 : decode cX10_throwNew 78 = .ok (.putfield 138, 3) := by decide +kernel
theorem dX10_throwNew_81 : decode cX10_throwNew 81 = .ok (.aload_n 0, 1) := by decide +kernel
theorem dX10_throwNew_82 : decode cX10_throwNew 82 = .ok (.dup, 1) := by decide +kernel
theorem dX10_throwNew_83 : decode cX10_throwNew 83 = .ok (.getfield 132, 3) := by decide +kernel
theorem dX10_throwNew_86 : decode cX10_throwNew 86 = .ok (.iconst 1, 1) := by decide +kernel
theorem dX10_throwNew_87 : decode cX10_throwNew 87 = .ok (.iadd, 1) := by decide +kernel
theorem dX10_throwNew_88 : decode cX10_throwNew 88 = .ok (.putfield 132, 3) := by decide +kernel
theorem dX10_throwNew_91 : decode cX10_throwNew 91 = .ok (.return_, 1) := by decide +kernel
theorem dX10_fail_0 : decode cX10_fail 0 = .ok (.aload_n 0, 1) := by decide +kernel
theorem dX10_fail_1 : decode cX10_fail 1 = .ok (.iload_n 1, 1) := by decide +kernel
theorem dX10_fail_2 : decode cX10_fail 2 = .ok (.aload_n 0, 1) := by decide +kernel
theorem dX10_fail_3 : decode cX10_fail 3 = .ok (.getfield 141, 3) := by decide +kernel
theorem dX10_fail_6 : decode cX10_fail 6 = .ok (.iconst 0, 1) := by decide +kernel
theorem dX10_fail_7 : decode cX10_fail 7 = .ok (.iconst (-1), 1) := by decide +kernel
theorem dX10_fail_8 : decode cX10_fail 8 = .ok (.invokevirtual 144, 3) := by decide +kernel
theorem dX10_fail_11 : decode cX10_fail 11 = .ok (.return_, 1) := by decide +kernel
theorem dX10_weighed_0 : decode cX10_weighed 0 = .ok (.iload_n 0, 1) := by decide +kernel
theorem dX10_weighed_1 : decode cX10_weighed 1 = .ok (.tableswitch 80 3 11 #[51, 80, 56, 80, 60, 65, 70, 80, 74], 51) := by decide +kernel
theorem dX10_weighed_52 : decode cX10_weighed 52 = .ok (.iload_n 1, 1) := by decide +kernel
theorem dX10_weighed_53 : decode cX10_weighed 53 = .ok (.bipush 10, 2) := by decide +kernel
theorem dX10_weighed_55 : decode cX10_weighed 55 = .ok (.iadd, 1) := by decide +kernel
theorem dX10_weighed_56 : decode cX10_weighed 56 = .ok (.ireturn, 1) := by decide +kernel
theorem dX10_weighed_57 : decode cX10_weighed 57 = .ok (.iconst 3, 1) := by decide +kernel
theorem dX10_weighed_58 : decode cX10_weighed 58 = .ok (.iload_n 1, 1) := by decide +kernel
theorem dX10_weighed_59 : decode cX10_weighed 59 = .ok (.imul, 1) := by decide +kernel
theorem dX10_weighed_60 : decode cX10_weighed 60 = .ok (.ireturn, 1) := by decide +kernel
theorem dX10_weighed_61 : decode cX10_weighed 61 = .ok (.iload_n 1, 1) := by decide +kernel
theorem dX10_weighed_62 : decode cX10_weighed 62 = .ok (.bipush 100, 2) := by decide +kernel
theorem dX10_weighed_64 : decode cX10_weighed 64 = .ok (.iadd, 1) := by decide +kernel
theorem dX10_weighed_65 : decode cX10_weighed 65 = .ok (.ireturn, 1) := by decide +kernel
theorem dX10_weighed_66 : decode cX10_weighed 66 = .ok (.iload_n 1, 1) := by decide +kernel
theorem dX10_weighed_67 : decode cX10_weighed 67 = .ok (.bipush 105, 2) := by decide +kernel
theorem dX10_weighed_69 : decode cX10_weighed 69 = .ok (.iadd, 1) := by decide +kernel
theorem dX10_weighed_70 : decode cX10_weighed 70 = .ok (.ireturn, 1) := by decide +kernel
theorem dX10_weighed_71 : decode cX10_weighed 71 = .ok (.iload_n 1, 1) := by decide +kernel
theorem dX10_weighed_72 : decode cX10_weighed 72 = .ok (.iload_n 2, 1) := by decide +kernel
theorem dX10_weighed_73 : decode cX10_weighed 73 = .ok (.iadd, 1) := by decide +kernel
theorem dX10_weighed_74 : decode cX10_weighed 74 = .ok (.ireturn, 1) := by decide +kernel
theorem dX10_weighed_75 : decode cX10_weighed 75 = .ok (.iconst 2, 1) := by decide +kernel
theorem dX10_weighed_76 : decode cX10_weighed 76 = .ok (.iload_n 1, 1) := by decide +kernel
theorem dX10_weighed_77 : decode cX10_weighed 77 = .ok (.iload_n 2, 1) := by decide +kernel
theorem dX10_weighed_78 : decode cX10_weighed 78 = .ok (.iadd, 1) := by decide +kernel
theorem dX10_weighed_79 : decode cX10_weighed 79 = .ok (.imul, 1) := by decide +kernel
theorem dX10_weighed_80 : decode cX10_weighed 80 = .ok (.ireturn, 1) := by decide +kernel
theorem dX10_weighed_81 : decode cX10_weighed 81 = .ok (.iload_n 1, 1) := by decide +kernel
theorem dX10_weighed_82 : decode cX10_weighed 82 = .ok (.ireturn, 1) := by decide +kernel
theorem dX10_below_0 : decode cX10_below 0 = .ok (.iload_n 1, 1) := by decide +kernel
theorem dX10_below_1 : decode cX10_below 1 = .ok (.istore_n 3, 1) := by decide +kernel
theorem dX10_below_2 : decode cX10_below 2 = .ok (.iconst 0, 1) := by decide +kernel
theorem dX10_below_3 : decode cX10_below 3 = .ok (.istore 4, 2) := by decide +kernel
theorem dX10_below_5 : decode cX10_below 5 = .ok (.iload 4, 2) := by decide +kernel
theorem dX10_below_7 : decode cX10_below 7 = .ok (.iload_n 2, 1) := by decide +kernel
theorem dX10_below_8 : decode cX10_below 8 = .ok (.if_icmp .ge 16, 3) := by decide +kernel
theorem dX10_below_11 : decode cX10_below 11 = .ok (.aload_n 0, 1) := by decide +kernel
theorem dX10_below_12 : decode cX10_below 12 = .ok (.getfield 69, 3) := by decide +kernel
theorem dX10_below_15 : decode cX10_below 15 = .ok (.iload_n 3, 1) := by decide +kernel
theorem dX10_below_16 : decode cX10_below 16 = .ok (.iaload, 1) := by decide +kernel
theorem dX10_below_17 : decode cX10_below 17 = .ok (.istore_n 3, 1) := by decide +kernel
theorem dX10_below_18 : decode cX10_below 18 = .ok (.iinc 4 1, 3) := by decide +kernel
theorem dX10_below_21 : decode cX10_below 21 = .ok (.goto (-16), 3) := by decide +kernel
theorem dX10_below_24 : decode cX10_below 24 = .ok (.iload_n 3, 1) := by decide +kernel
theorem dX10_below_25 : decode cX10_below 25 = .ok (.ireturn, 1) := by decide +kernel
theorem dX10_weight_0 : decode cX10_weight 0 = .ok (.iconst 0, 1) := by decide +kernel
theorem dX10_weight_1 : decode cX10_weight 1 = .ok (.istore_n 2, 1) := by decide +kernel
theorem dX10_weight_2 : decode cX10_weight 2 = .ok (.aload_n 0, 1) := by decide +kernel
theorem dX10_weight_3 : decode cX10_weight 3 = .ok (.getfield 72, 3) := by decide +kernel
theorem dX10_weight_6 : decode cX10_weight 6 = .ok (.iload_n 1, 1) := by decide +kernel
theorem dX10_weight_7 : decode cX10_weight 7 = .ok (.iaload, 1) := by decide +kernel
theorem dX10_weight_8 : decode cX10_weight 8 = .ok (.istore_n 3, 1) := by decide +kernel
theorem dX10_weight_9 : decode cX10_weight 9 = .ok (.iload_n 3, 1) := by decide +kernel
theorem dX10_weight_10 : decode cX10_weight 10 = .ok (.ifCond .lt 38, 3) := by decide +kernel
theorem dX10_weight_13 : decode cX10_weight 13 = .ok (.aload_n 0, 1) := by decide +kernel
theorem dX10_weight_14 : decode cX10_weight 14 = .ok (.iload_n 1, 1) := by decide +kernel
theorem dX10_weight_15 : decode cX10_weight 15 = .ok (.iload_n 3, 1) := by decide +kernel
theorem dX10_weight_16 : decode cX10_weight 16 = .ok (.invokevirtual 148, 3) := by decide +kernel
theorem dX10_weight_19 : decode cX10_weight 19 = .ok (.istore 4, 2) := by decide +kernel
theorem dX10_weight_21 : decode cX10_weight 21 = .ok (.aload_n 0, 1) := by decide +kernel
theorem dX10_weight_22 : decode cX10_weight 22 = .ok (.getfield 60, 3) := by decide +kernel
theorem dX10_weight_25 : decode cX10_weight 25 = .ok (.iload 4, 2) := by decide +kernel
theorem dX10_weight_27 : decode cX10_weight 27 = .ok (.iaload, 1) := by decide +kernel
theorem dX10_weight_28 : decode cX10_weight 28 = .ok (.iconst 1, 1) := by decide +kernel
theorem dX10_weight_29 : decode cX10_weight 29 = .ok (.iload_n 2, 1) := by decide +kernel
theorem dX10_weight_30 : decode cX10_weight 30 = .ok (.iadd, 1) := by decide +kernel
theorem dX10_weight_31 : decode cX10_weight 31 = .ok (.aload_n 0, 1) := by decide +kernel
theorem dX10_weight_32 : decode cX10_weight 32 = .ok (.getfield 66, 3) := by decide +kernel
theorem dX10_weight_35 : decode cX10_weight 35 = .ok (.iload 4, 2) := by decide +kernel
theorem dX10_weight_37 : decode cX10_weight 37 = .ok (.iaload, 1) := by decide +kernel
theorem dX10_weight_38 : decode cX10_weight 38 = .ok (.invokestatic 152, 3) := by decide +kernel
theorem dX10_weight_41 : decode cX10_weight 41 = .ok (.istore_n 2, 1) := by decide +kernel
theorem dX10_weight_42 : decode cX10_weight 42 = .ok (.iinc 3 (-1), 3) := by decide +kernel
theorem dX10_weight_45 : decode cX10_weight 45 = .ok (.goto (-36), 3) := by decide +kernel
theorem dX10_weight_48 : decode cX10_weight 48 = .ok (.iload_n 2, 1) := by decide +kernel
theorem dX10_weight_49 : decode cX10_weight 49 = .ok (.ireturn, 1) := by decide +kernel
theorem dX10_push_0 : decode cX10_push 0 = .ok (.aload_n 0, 1) := by decide +kernel
theorem dX10_push_1 : decode cX10_push 1 = .ok (.getfield 79, 3) := by decide +kernel
theorem dX10_push_4 : decode cX10_push 4 = .ok (.aload_n 0, 1) := by decide +kernel
theorem dX10_push_5 : decode cX10_push 5 = .ok (.getfield 156, 3) := by decide +kernel
theorem dX10_push_8 : decode cX10_push 8 = .ok (.iload_n 1, 1) := by decide +kernel
theorem dX10_push_9 : decode cX10_push 9 = .ok (.iastore, 1) := by decide +kernel
theorem dX10_push_10 : decode cX10_push 10 = .ok (.aload_n 0, 1) := by decide +kernel
theorem dX10_push_11 : decode cX10_push 11 = .ok (.getfield 82, 3) := by decide +kernel
theorem dX10_push_14 : decode cX10_push 14 = .ok (.aload_n 0, 1) := by decide +kernel
theorem dX10_push_15 : decode cX10_push 15 = .ok (.getfield 156, 3) := by decide +kernel
theorem dX10_push_18 : decode cX10_push 18 = .ok (.iload_n 2, 1) := by decide +kernel
theorem dX10_push_19 : decode cX10_push 19 = .ok (.iastore, 1) := by decide +kernel
theorem dX10_push_20 : decode cX10_push 20 = .ok (.aload_n 0, 1) := by decide +kernel
theorem dX10_push_21 : decode cX10_push 21 = .ok (.getfield 85, 3) := by decide +kernel
theorem dX10_push_24 : decode cX10_push 24 = .ok (.aload_n 0, 1) := by decide +kernel
theorem dX10_push_25 : decode cX10_push 25 = .ok (.getfield 156, 3) := by decide +kernel
theorem dX10_push_28 : decode cX10_push 28 = .ok (.iload_n 3, 1) := by decide +kernel
theorem dX10_push_29 : decode cX10_push 29 = .ok (.iastore, 1) := by decide +kernel
theorem dX10_push_30 : decode cX10_push 30 = .ok (.aload_n 0, 1) := by decide +kernel
theorem dX10_push_31 : decode cX10_push 31 = .ok (.getfield 88, 3) := by decide +kernel
theorem dX10_push_34 : decode cX10_push 34 = .ok (.aload_n 0, 1) := by decide +kernel
theorem dX10_push_35 : decode cX10_push 35 = .ok (.getfield 156, 3) := by decide +kernel
theorem dX10_push_38 : decode cX10_push 38 = .ok (.iconst (-1), 1) := by decide +kernel
theorem dX10_push_39 : decode cX10_push 39 = .ok (.iastore, 1) := by decide +kernel
theorem dX10_push_40 : decode cX10_push 40 = .ok (.aload_n 0, 1) := by decide +kernel
theorem dX10_push_41 : decode cX10_push 41 = .ok (.getfield 91, 3) := by decide +kernel
theorem dX10_push_44 : decode cX10_push 44 = .ok (.aload_n 0, 1) := by decide +kernel
theorem dX10_push_45 : decode cX10_push 45 = .ok (.getfield 156, 3) := by decide +kernel
theorem dX10_push_48 : decode cX10_push 48 = .ok (.iconst 0, 1) := by decide +kernel
theorem dX10_push_49 : decode cX10_push 49 = .ok (.iastore, 1) := by decide +kernel
theorem dX10_push_50 : decode cX10_push 50 = .ok (.aload_n 0, 1) := by decide +kernel
theorem dX10_push_51 : decode cX10_push 51 = .ok (.dup, 1) := by decide +kernel
theorem dX10_push_52 : decode cX10_push 52 = .ok (.getfield 156, 3) := by decide +kernel
theorem dX10_push_55 : decode cX10_push 55 = .ok (.iconst 1, 1) := by decide +kernel
theorem dX10_push_56 : decode cX10_push 56 = .ok (.iadd, 1) := by decide +kernel
theorem dX10_push_57 : decode cX10_push 57 = .ok (.putfield 156, 3) := by decide +kernel
theorem dX10_push_60 : decode cX10_push 60 = .ok (.return_, 1) := by decide +kernel
theorem dX10_begin_0 : decode cX10_begin 0 = .ok (.aload_n 0, 1) := by decide +kernel
theorem dX10_begin_1 : decode cX10_begin 1 = .ok (.iconst 0, 1) := by decide +kernel
theorem dX10_begin_2 : decode cX10_begin 2 = .ok (.iload_n 1, 1) := by decide +kernel
theorem dX10_begin_3 : decode cX10_begin 3 = .ok (.iload_n 2, 1) := by decide +kernel
theorem dX10_begin_4 : decode cX10_begin 4 = .ok (.invokevirtual 159, 3) := by decide +kernel
theorem dX10_begin_7 : decode cX10_begin 7 = .ok (.aload_n 0, 1) := by decide +kernel
theorem dX10_begin_8 : decode cX10_begin 8 = .ok (.bipush 40, 2) := by decide +kernel
theorem dX10_begin_10 : decode cX10_begin 10 = .ok (.iload_n 1, 1) := by decide +kernel
theorem dX10_begin_11 : decode cX10_begin 11 = .ok (.imul, 1) := by decide +kernel
theorem dX10_begin_12 : decode cX10_begin 12 = .ok (.putfield 141, 3) := by decide +kernel
theorem dX10_begin_15 : decode cX10_begin 15 = .ok (.return_, 1) := by decide +kernel
theorem dX10_over_0 : decode cX10_over 0 = .ok (.aload_n 0, 1) := by decide +kernel
theorem dX10_over_1 : decode cX10_over 1 = .ok (.dup, 1) := by decide +kernel
theorem dX10_over_2 : decode cX10_over 2 = .ok (.getfield 156, 3) := by decide +kernel
theorem dX10_over_5 : decode cX10_over 5 = .ok (.iconst 1, 1) := by decide +kernel
theorem dX10_over_6 : decode cX10_over 6 = .ok (.isub, 1) := by decide +kernel
theorem dX10_over_7 : decode cX10_over 7 = .ok (.putfield 156, 3) := by decide +kernel
theorem dX10_over_10 : decode cX10_over 10 = .ok (.aload_n 0, 1) := by decide +kernel
theorem dX10_over_11 : decode cX10_over 11 = .ok (.aload_n 0, 1) := by decide +kernel
theorem dX10_over_12 : decode cX10_over 12 = .ok (.getfield 85, 3) := by decide +kernel
theorem dX10_over_15 : decode cX10_over 15 = .ok (.aload_n 0, 1) := by decide +kernel
theorem dX10_over_16 : decode cX10_over 16 = .ok (.getfield 156, 3) := by decide +kernel
theorem dX10_over_19 : decode cX10_over 19 = .ok (.iaload, 1) := by decide +kernel
theorem dX10_over_20 : decode cX10_over 20 = .ok (.putfield 141, 3) := by decide +kernel
theorem dX10_over_23 : decode cX10_over 23 = .ok (.aload_n 0, 1) := by decide +kernel
theorem dX10_over_24 : decode cX10_over 24 = .ok (.dup, 1) := by decide +kernel
theorem dX10_over_25 : decode cX10_over 25 = .ok (.getfield 163, 3) := by decide +kernel
theorem dX10_over_28 : decode cX10_over 28 = .ok (.iconst 1, 1) := by decide +kernel
theorem dX10_over_29 : decode cX10_over 29 = .ok (.isub, 1) := by decide +kernel
theorem dX10_over_30 : decode cX10_over 30 = .ok (.putfield 163, 3) := by decide +kernel
theorem dX10_over_33 : decode cX10_over 33 = .ok (.aload_n 0, 1) := by decide +kernel
theorem dX10_over_34 : decode cX10_over 34 = .ok (.iconst 0, 1) := by decide +kernel
theorem dX10_over_35 : decode cX10_over 35 = .ok (.putfield 138, 3) := by decide +kernel
theorem dX10_over_38 : decode cX10_over 38 = .ok (.return_, 1) := by decide +kernel
theorem dX10_lastPart_0 : decode cX10_lastPart 0 = .ok (.aload_n 0, 1) := by decide +kernel
theorem dX10_lastPart_1 : decode cX10_lastPart 1 = .ok (.getfield 156, 3) := by decide +kernel
theorem dX10_lastPart_4 : decode cX10_lastPart 4 = .ok (.iconst 1, 1) := by decide +kernel
theorem dX10_lastPart_5 : decode cX10_lastPart 5 = .ok (.isub, 1) := by decide +kernel
theorem dX10_lastPart_6 : decode cX10_lastPart 6 = .ok (.istore_n 1, 1) := by decide +kernel
theorem dX10_lastPart_7 : decode cX10_lastPart 7 = .ok (.aload_n 0, 1) := by decide +kernel
theorem dX10_lastPart_8 : decode cX10_lastPart 8 = .ok (.getfield 82, 3) := by decide +kernel
theorem dX10_lastPart_11 : decode cX10_lastPart 11 = .ok (.iload_n 1, 1) := by decide +kernel
theorem dX10_lastPart_12 : decode cX10_lastPart 12 = .ok (.iaload, 1) := by decide +kernel
theorem dX10_lastPart_13 : decode cX10_lastPart 13 = .ok (.istore_n 2, 1) := by decide +kernel
theorem dX10_lastPart_14 : decode cX10_lastPart 14 = .ok (.iconst 0, 1) := by decide +kernel
theorem dX10_lastPart_15 : decode cX10_lastPart 15 = .ok (.istore_n 3, 1) := by decide +kernel
theorem dX10_lastPart_16 : decode cX10_lastPart 16 = .ok (.iload_n 3, 1) := by decide +kernel
theorem dX10_lastPart_17 : decode cX10_lastPart 17 = .ok (.iconst 4, 1) := by decide +kernel
theorem dX10_lastPart_18 : decode cX10_lastPart 18 = .ok (.if_icmp .ge 35, 3) := by decide +kernel
theorem dX10_lastPart_21 : decode cX10_lastPart 21 = .ok (.aload_n 0, 1) := by decide +kernel
theorem dX10_lastPart_22 : decode cX10_lastPart 22 = .ok (.getfield 7, 3) := by decide +kernel
theorem dX10_lastPart_25 : decode cX10_lastPart 25 = .ok (.iload_n 2, 1) := by decide +kernel
theorem dX10_lastPart_26 : decode cX10_lastPart 26 = .ok (.iaload, 1) := by decide +kernel
theorem dX10_lastPart_27 : decode cX10_lastPart 27 = .ok (.iconst 3, 1) := by decide +kernel
theorem dX10_lastPart_28 : decode cX10_lastPart 28 = .ok (.if_icmp .eq 25, 3) := by decide +kernel
theorem dX10_lastPart_31 : decode cX10_lastPart 31 = .ok (.aload_n 0, 1) := by decide +kernel
theorem dX10_lastPart_32 : decode cX10_lastPart 32 = .ok (.getfield 7, 3) := by decide +kernel
theorem dX10_lastPart_35 : decode cX10_lastPart 35 = .ok (.iload_n 2, 1) := by decide +kernel
theorem dX10_lastPart_36 : decode cX10_lastPart 36 = .ok (.iaload, 1) := by decide +kernel
theorem dX10_lastPart_37 : decode cX10_lastPart 37 = .ok (.ifCond .eq 16, 3) := by decide +kernel
theorem dX10_lastPart_40 : decode cX10_lastPart 40 = .ok (.aload_n 0, 1) := by decide +kernel
theorem dX10_lastPart_41 : decode cX10_lastPart 41 = .ok (.getfield 25, 3) := by decide +kernel
theorem dX10_lastPart_44 : decode cX10_lastPart 44 = .ok (.iload_n 2, 1) := by decide +kernel
theorem dX10_lastPart_45 : decode cX10_lastPart 45 = .ok (.iaload, 1) := by decide +kernel
theorem dX10_lastPart_46 : decode cX10_lastPart 46 = .ok (.istore_n 2, 1) := by decide +kernel
theorem dX10_lastPart_47 : decode cX10_lastPart 47 = .ok (.iinc 3 1, 3) := by decide +kernel
theorem dX10_lastPart_50 : decode cX10_lastPart 50 = .ok (.goto (-34), 3) := by decide +kernel
theorem dX10_lastPart_53 : decode cX10_lastPart 53 = .ok (.aload_n 0, 1) := by decide +kernel
theorem dX10_lastPart_54 : decode cX10_lastPart 54 = .ok (.getfield 7, 3) := by decide +kernel
theorem dX10_lastPart_57 : decode cX10_lastPart 57 = .ok (.iload_n 2, 1) := by decide +kernel
theorem dX10_lastPart_58 : decode cX10_lastPart 58 = .ok (.iaload, 1) := by decide +kernel
theorem dX10_lastPart_59 : decode cX10_lastPart 59 = .ok (.iconst 3, 1) := by decide +kernel
theorem dX10_lastPart_60 : decode cX10_lastPart 60 = .ok (.if_icmp .ne 55, 3) := by decide +kernel
theorem dX10_lastPart_63 : decode cX10_lastPart 63 = .ok (.aload_n 0, 1) := by decide +kernel
theorem dX10_lastPart_64 : decode cX10_lastPart 64 = .ok (.getfield 79, 3) := by decide +kernel
theorem dX10_lastPart_67 : decode cX10_lastPart 67 = .ok (.iload_n 1, 1) := by decide +kernel
theorem dX10_lastPart_68 : decode cX10_lastPart 68 = .ok (.iconst 5, 1) := by decide +kernel
theorem dX10_lastPart_69 : decode cX10_lastPart 69 = .ok (.iastore, 1) := by decide +kernel
theorem dX10_lastPart_70 : decode cX10_lastPart 70 = .ok (.aload_n 0, 1) := by decide +kernel
theorem dX10_lastPart_71 : decode cX10_lastPart 71 = .ok (.getfield 91, 3) := by decide +kernel
theorem dX10_lastPart_74 : decode cX10_lastPart 74 = .ok (.iload_n 1, 1) := by decide +kernel
theorem dX10_lastPart_75 : decode cX10_lastPart 75 = .ok (.aload_n 0, 1) := by decide +kernel
theorem dX10_lastPart_76 : decode cX10_lastPart 76 = .ok (.getfield 138, 3) := by decide +kernel
theorem dX10_lastPart_79 : decode cX10_lastPart 79 = .ok (.iastore, 1) := by decide +kernel
theorem dX10_lastPart_80 : decode cX10_lastPart 80 = .ok (.aload_n 0, 1) := by decide +kernel
theorem dX10_lastPart_81 : decode cX10_lastPart 81 = .ok (.getfield 88, 3) := by decide +kernel
theorem dX10_lastPart_84 : decode cX10_lastPart 84 = .ok (.iload_n 1, 1) := by decide +kernel
theorem dX10_lastPart_85 : decode cX10_lastPart 85 = .ok (.aload_n 0, 1) := by decide +kernel
theorem dX10_lastPart_86 : decode cX10_lastPart 86 = .ok (.getfield 135, 3) := by decide +kernel
theorem dX10_lastPart_89 : decode cX10_lastPart 89 = .ok (.iastore, 1) := by decide +kernel
theorem dX10_lastPart_90 : decode cX10_lastPart 90 = .ok (.aload_n 0, 1) := by decide +kernel
theorem dX10_lastPart_91 : decode cX10_lastPart 91 = .ok (.dup, 1) := by decide +kernel
theorem dX10_lastPart_92 : decode cX10_lastPart 92 = .ok (.getfield 166, 3) := by decide +kernel
theorem dX10_lastPart_95 : decode cX10_lastPart 95 = .ok (.iconst 1, 1) := by decide +kernel
theorem dX10_lastPart_96 : decode cX10_lastPart 96 = .ok (.iadd, 1) := by decide +kernel
theorem dX10_lastPart_97 : decode cX10_lastPart 97 = .ok (.putfield 166, 3) := by decide +kernel
theorem dX10_lastPart_100 : decode cX10_lastPart 100 = .ok (.aload_n 0, 1) := by decide +kernel
theorem dX10_lastPart_101 : decode cX10_lastPart 101 = .ok (.iload_n 2, 1) := by decide +kernel
theorem dX10_lastPart_102 : decode cX10_lastPart 102 = .ok (.iconst 1, 1) := by decide +kernel
theorem dX10_lastPart_103 : decode cX10_lastPart 103 = .ok (.iadd, 1) := by decide +kernel
theorem dX10_lastPart_104 : decode cX10_lastPart 104 = .ok (.putfield 141, 3) := by decide +kernel
theorem dX10_lastPart_107 : decode cX10_lastPart 107 = .ok (.aload_n 0, 1) := by decide +kernel
theorem dX10_lastPart_108 : decode cX10_lastPart 108 = .ok (.iconst 0, 1) := by decide +kernel
theorem dX10_lastPart_109 : decode cX10_lastPart 109 = .ok (.putfield 138, 3) := by decide +kernel
theorem dX10_lastPart_112 : decode cX10_lastPart 112 = .ok (.goto 44, 3) := by decide +kernel
theorem dX10_lastPart_115 : decode cX10_lastPart 115 = .ok (.aload_n 0, 1) := by decide +kernel
theorem dX10_lastPart_116 : decode cX10_lastPart 116 = .ok (.aload_n 0, 1) := by decide +kernel
theorem dX10_lastPart_117 : decode cX10_lastPart 117 = .ok (.getfield 138, 3) := by decide +kernel
theorem dX10_lastPart_120 : decode cX10_lastPart 120 = .ok (.ifCond .ne 19, 3) := by decide +kernel
theorem dX10_lastPart_123 : decode cX10_lastPart 123 = .ok (.aload_n 0, 1) := by decide +kernel
theorem dX10_lastPart_124 : decode cX10_lastPart 124 = .ok (.getfield 22, 3) := by decide +kernel
theorem dX10_lastPart_127 : decode cX10_lastPart 127 = .ok (.aload_n 0, 1) := by decide +kernel
theorem dX10_lastPart_128 : decode cX10_lastPart 128 = .ok (.getfield 82, 3) := by decide +kernel
theorem dX10_lastPart_131 : decode cX10_lastPart 131 = .ok (.iload_n 1, 1) := by decide +kernel
theorem dX10_lastPart_132 : decode cX10_lastPart 132 = .ok (.iaload, 1) := by decide +kernel
theorem dX10_lastPart_133 : decode cX10_lastPart 133 = .ok (.iaload, 1) := by decide +kernel
theorem dX10_lastPart_134 : decode cX10_lastPart 134 = .ok (.iconst 1, 1) := by decide +kernel
theorem dX10_lastPart_135 : decode cX10_lastPart 135 = .ok (.iadd, 1) := by decide +kernel
theorem dX10_lastPart_136 : decode cX10_lastPart 136 = .ok (.goto 7, 3) := by decide +kernel
theorem dX10_lastPart_139 : decode cX10_lastPart 139 = .ok (.aload_n 0, 1) := by decide +kernel
theorem dX10_lastPart_140 : decode cX10_lastPart 140 = .ok (.getfield 141, 3) := by decide +kernel
theorem dX10_lastPart_143 : decode cX10_lastPart 143 = .ok (.putfield 141, 3) := by decide +kernel
theorem dX10_lastPart_146 : decode cX10_lastPart 146 = .ok (.aload_n 0, 1) := by decide +kernel
theorem dX10_lastPart_147 : decode cX10_lastPart 147 = .ok (.dup, 1) := by decide +kernel
theorem dX10_lastPart_148 : decode cX10_lastPart 148 = .ok (.getfield 156, 3) := by decide +kernel
theorem dX10_lastPart_151 : decode cX10_lastPart 151 = .ok (.iconst 1, 1) := by decide +kernel
theorem dX10_lastPart_152 : decode cX10_lastPart 152 = .ok (.isub, 1) := by decide +kernel
theorem dX10_lastPart_153 : decode cX10_lastPart 153 = .ok (.putfield 156, 3) := by decide +kernel
theorem dX10_lastPart_156 : decode cX10_lastPart 156 = .ok (.return_, 1) := by decide +kernel
theorem dX10_seekCatch_0 : decode cX10_seekCatch 0 = .ok (.aload_n 0, 1) := by decide +kernel
theorem dX10_seekCatch_1 : decode cX10_seekCatch 1 = .ok (.getfield 156, 3) := by decide +kernel
theorem dX10_seekCatch_4 : decode cX10_seekCatch 4 = .ok (.iconst 1, 1) := by decide +kernel
theorem dX10_seekCatch_5 : decode cX10_seekCatch 5 = .ok (.isub, 1) := by decide +kernel
theorem dX10_seekCatch_6 : decode cX10_seekCatch 6 = .ok (.istore_n 1, 1) := by decide +kernel
theorem dX10_seekCatch_7 : decode cX10_seekCatch 7 = .ok (.aload_n 0, 1) := by decide +kernel
theorem dX10_seekCatch_8 : decode cX10_seekCatch 8 = .ok (.getfield 25, 3) := by decide +kernel
theorem dX10_seekCatch_11 : decode cX10_seekCatch 11 = .ok (.aload_n 0, 1) := by decide +kernel
theorem dX10_seekCatch_12 : decode cX10_seekCatch 12 = .ok (.getfield 82, 3) := by decide +kernel
theorem dX10_seekCatch_15 : decode cX10_seekCatch 15 = .ok (.iload_n 1, 1) := by decide +kernel
theorem dX10_seekCatch_16 : decode cX10_seekCatch 16 = .ok (.iaload, 1) := by decide +kernel
theorem dX10_seekCatch_17 : decode cX10_seekCatch 17 = .ok (.iaload, 1) := by decide +kernel
theorem dX10_seekCatch_18 : decode cX10_seekCatch 18 = .ok (.istore_n 2, 1) := by decide +kernel
theorem dX10_seekCatch_19 : decode cX10_seekCatch 19 = .ok (.iconst 0, 1) := by decide +kernel
theorem dX10_seekCatch_20 : decode cX10_seekCatch 20 = .ok (.istore_n 3, 1) := by decide +kernel
theorem dX10_seekCatch_21 : decode cX10_seekCatch 21 = .ok (.iload_n 3, 1) := by decide +kernel
theorem dX10_seekCatch_22 : decode cX10_seekCatch 22 = .ok (.iconst 3, 1) := by decide +kernel
theorem dX10_seekCatch_23 : decode cX10_seekCatch 23 = .ok (.if_icmp .ge 48, 3) := by decide +kernel
theorem dX10_seekCatch_26 : decode cX10_seekCatch 26 = .ok (.aload_n 0, 1) := by decide +kernel
theorem dX10_seekCatch_27 : decode cX10_seekCatch 27 = .ok (.getfield 7, 3) := by decide +kernel
theorem dX10_seekCatch_30 : decode cX10_seekCatch 30 = .ok (.iload_n 2, 1) := by decide +kernel
theorem dX10_seekCatch_31 : decode cX10_seekCatch 31 = .ok (.iaload, 1) := by decide +kernel
theorem dX10_seekCatch_32 : decode cX10_seekCatch 32 = .ok (.iconst 2, 1) := by decide +kernel
theorem dX10_seekCatch_33 : decode cX10_seekCatch 33 = .ok (.if_icmp .ne 38, 3) := by decide +kernel
theorem dX10_seekCatch_36 : decode cX10_seekCatch 36 = .ok (.aload_n 0, 1) := by decide +kernel
theorem dX10_seekCatch_37 : decode cX10_seekCatch 37 = .ok (.aload_n 0, 1) := by decide +kernel
theorem dX10_seekCatch_38 : decode cX10_seekCatch 38 = .ok (.getfield 60, 3) := by decide +kernel
theorem dX10_seekCatch_41 : decode cX10_seekCatch 41 = .ok (.aload_n 0, 1) := by decide +kernel
theorem dX10_seekCatch_42 : decode cX10_seekCatch 42 = .ok (.getfield 135, 3) := by decide +kernel
theorem dX10_seekCatch_45 : decode cX10_seekCatch 45 = .ok (.iaload, 1) := by decide +kernel
theorem dX10_seekCatch_46 : decode cX10_seekCatch 46 = .ok (.aload_n 0, 1) := by decide +kernel
theorem dX10_seekCatch_47 : decode cX10_seekCatch 47 = .ok (.getfield 13, 3) := by decide +kernel
theorem dX10_seekCatch_50 : decode cX10_seekCatch 50 = .ok (.iload_n 2, 1) := by decide +kernel
theorem dX10_seekCatch_51 : decode cX10_seekCatch 51 = .ok (.iaload, 1) := by decide +kernel
theorem dX10_seekCatch_52 : decode cX10_seekCatch 52 = .ok (.invokevirtual 169, 3) := by decide +kernel
theorem dX10_seekCatch_55 : decode cX10_seekCatch 55 = .ok (.ifCond .ne 16, 3) := by decide +kernel
theorem dX10_seekCatch_58 : decode cX10_seekCatch 58 = .ok (.aload_n 0, 1) := by decide +kernel
theorem dX10_seekCatch_59 : decode cX10_seekCatch 59 = .ok (.getfield 25, 3) := by decide +kernel
theorem dX10_seekCatch_62 : decode cX10_seekCatch 62 = .ok (.iload_n 2, 1) := by decide +kernel
theorem dX10_seekCatch_63 : decode cX10_seekCatch 63 = .ok (.iaload, 1) := by decide +kernel
theorem dX10_seekCatch_64 : decode cX10_seekCatch 64 = .ok (.istore_n 2, 1) := by decide +kernel
theorem dX10_seekCatch_65 : decode cX10_seekCatch 65 = .ok (.iinc 3 1, 3) := by decide +kernel
theorem dX10_seekCatch_68 : decode cX10_seekCatch 68 = .ok (.goto (-47), 3) := by decide +kernel
theorem dX10_seekCatch_71 : decode cX10_seekCatch 71 = .ok (.aload_n 0, 1) := by decide +kernel
theorem dX10_seekCatch_72 : decode cX10_seekCatch 72 = .ok (.getfield 7, 3) := by decide +kernel
theorem dX10_seekCatch_75 : decode cX10_seekCatch 75 = .ok (.iload_n 2, 1) := by decide +kernel
theorem dX10_seekCatch_76 : decode cX10_seekCatch 76 = .ok (.iaload, 1) := by decide +kernel
theorem dX10_seekCatch_77 : decode cX10_seekCatch 77 = .ok (.iconst 2, 1) := by decide +kernel
theorem dX10_seekCatch_78 : decode cX10_seekCatch 78 = .ok (.if_icmp .eq 8, 3) := by decide +kernel
theorem dX10_seekCatch_81 : decode cX10_seekCatch 81 = .ok (.aload_n 0, 1) := by decide +kernel
theorem dX10_seekCatch_82 : decode cX10_seekCatch 82 = .ok (.invokevirtual 172, 3) := by decide +kernel
theorem dX10_seekCatch_85 : decode cX10_seekCatch 85 = .ok (.return_, 1) := by decide +kernel
theorem dX10_seekCatch_86 : decode cX10_seekCatch 86 = .ok (.aload_n 0, 1) := by decide +kernel
theorem dX10_seekCatch_87 : decode cX10_seekCatch 87 = .ok (.getfield 79, 3) := by decide +kernel
theorem dX10_seekCatch_90 : decode cX10_seekCatch 90 = .ok (.iload_n 1, 1) := by decide +kernel
theorem dX10_seekCatch_91 : decode cX10_seekCatch 91 = .ok (.iconst 4, 1) := by decide +kernel
theorem dX10_seekCatch_92 : decode cX10_seekCatch 92 = .ok (.iastore, 1) := by decide +kernel
theorem dX10_seekCatch_93 : decode cX10_seekCatch 93 = .ok (.aload_n 0, 1) := by decide +kernel
theorem dX10_seekCatch_94 : decode cX10_seekCatch 94 = .ok (.getfield 88, 3) := by decide +kernel
theorem dX10_seekCatch_97 : decode cX10_seekCatch 97 = .ok (.iload_n 1, 1) := by decide +kernel
theorem dX10_seekCatch_98 : decode cX10_seekCatch 98 = .ok (.aload_n 0, 1) := by decide +kernel
theorem dX10_seekCatch_99 : decode cX10_seekCatch 99 = .ok (.getfield 135, 3) := by decide +kernel
theorem dX10_seekCatch_102 : decode cX10_seekCatch 102 = .ok (.iastore, 1) := by decide +kernel
theorem dX10_seekCatch_103 : decode cX10_seekCatch 103 = .ok (.aload_n 0, 1) := by decide +kernel
theorem dX10_seekCatch_104 : decode cX10_seekCatch 104 = .ok (.dup, 1) := by decide +kernel
theorem dX10_seekCatch_105 : decode cX10_seekCatch 105 = .ok (.getfield 175, 3) := by decide +kernel
theorem dX10_seekCatch_108 : decode cX10_seekCatch 108 = .ok (.iconst 1, 1) := by decide +kernel
theorem dX10_seekCatch_109 : decode cX10_seekCatch 109 = .ok (.iadd, 1) := by decide +kernel
theorem dX10_seekCatch_110 : decode cX10_seekCatch 110 = .ok (.putfield 175, 3) := by decide +kernel
theorem dX10_seekCatch_113 : decode cX10_seekCatch 113 = .ok (.aload_n 0, 1) := by decide +kernel
theorem dX10_seekCatch_114 : decode cX10_seekCatch 114 = .ok (.iload_n 2, 1) := by decide +kernel
theorem dX10_seekCatch_115 : decode cX10_seekCatch 115 = .ok (.iconst 1, 1) := by decide +kernel
theorem dX10_seekCatch_116 : decode cX10_seekCatch 116 = .ok (.iadd, 1) := by decide +kernel
theorem dX10_seekCatch_117 : decode cX10_seekCatch 117 = .ok (.putfield 141, 3) := by decide +kernel
theorem dX10_seekCatch_120 : decode cX10_seekCatch 120 = .ok (.aload_n 0, 1) := by decide +kernel
theorem dX10_seekCatch_121 : decode cX10_seekCatch 121 = .ok (.iconst 0, 1) := by decide +kernel
theorem dX10_seekCatch_122 : decode cX10_seekCatch 122 = .ok (.putfield 138, 3) := by decide +kernel
theorem dX10_seekCatch_125 : decode cX10_seekCatch 125 = .ok (.return_, 1) := by decide +kernel
theorem dX10_leave_0 : decode cX10_leave 0 = .ok (.aload_n 0, 1) := by decide +kernel
theorem dX10_leave_1 : decode cX10_leave 1 = .ok (.getfield 156, 3) := by decide +kernel
theorem dX10_leave_4 : decode cX10_leave 4 = .ok (.iconst 1, 1) := by decide +kernel
theorem dX10_leave_5 : decode cX10_leave 5 = .ok (.isub, 1) := by decide +kernel
theorem dX10_leave_6 : decode cX10_leave 6 = .ok (.istore_n 1, 1) := by decide +kernel
theorem dX10_leave_7 : decode cX10_leave 7 = .ok (.aload_n 0, 1) := by decide +kernel
theorem dX10_leave_8 : decode cX10_leave 8 = .ok (.getfield 79, 3) := by decide +kernel
theorem dX10_leave_11 : decode cX10_leave 11 = .ok (.iload_n 1, 1) := by decide +kernel
theorem dX10_leave_12 : decode cX10_leave 12 = .ok (.iaload, 1) := by decide +kernel
theorem dX10_leave_13 : decode cX10_leave 13 = .ok (.tableswitch 145 0 4 #[35, 73, 145, 116, 138], 35) := by decide +kernel
theorem dX10_leave_48 : decode cX10_leave 48 = .ok (.aload_n 0, 1) := by decide +kernel
theorem dX10_leave_49 : decode cX10_leave 49 = .ok (.getfield 138, 3) := by decide +kernel
theorem dX10_leave_52 : decode cX10_leave 52 = .ok (.iconst 2, 1) := by decide +kernel
theorem dX10_leave_53 : decode cX10_leave 53 = .ok (.if_icmp .ne 10, 3) := by decide +kernel
theorem dX10_leave_56 : decode cX10_leave 56 = .ok (.aload_n 0, 1) := by decide +kernel
theorem dX10_leave_57 : decode cX10_leave 57 = .ok (.invokevirtual 178, 3) := by decide +kernel
theorem dX10_leave_60 : decode cX10_leave 60 = .ok (.goto 108, 3) := by decide +kernel
theorem dX10_leave_63 : decode cX10_leave 63 = .ok (.aload_n 0, 1) := by decide +kernel
theorem dX10_leave_64 : decode cX10_leave 64 = .ok (.dup, 1) := by decide +kernel
theorem dX10_leave_65 : decode cX10_leave 65 = .ok (.getfield 156, 3) := by decide +kernel
theorem dX10_leave_68 : decode cX10_leave 68 = .ok (.iconst 1, 1) := by decide +kernel
theorem dX10_leave_69 : decode cX10_leave 69 = .ok (.isub, 1) := by decide +kernel
theorem dX10_leave_70 : decode cX10_leave 70 = .ok (.putfield 156, 3) := by decide +kernel
theorem dX10_leave_73 : decode cX10_leave 73 = .ok (.aload_n 0, 1) := by decide +kernel
theorem dX10_leave_74 : decode cX10_leave 74 = .ok (.dup, 1) := by decide +kernel
theorem dX10_leave_75 : decode cX10_leave 75 = .ok (.getfield 163, 3) := by decide +kernel
theorem dX10_leave_78 : decode cX10_leave 78 = .ok (.iconst 1, 1) := by decide +kernel
theorem dX10_leave_79 : decode cX10_leave 79 = .ok (.isub, 1) := by decide +kernel
theorem dX10_leave_80 : decode cX10_leave 80 = .ok (.putfield 163, 3) := by decide +kernel
theorem dX10_leave_83 : decode cX10_leave 83 = .ok (.goto 85, 3) := by decide +kernel
theorem dX10_leave_86 : decode cX10_leave 86 = .ok (.aload_n 0, 1) := by decide +kernel
theorem dX10_leave_87 : decode cX10_leave 87 = .ok (.dup, 1) := by decide +kernel
theorem dX10_leave_88 : decode cX10_leave 88 = .ok (.getfield 156, 3) := by decide +kernel
theorem dX10_leave_91 : decode cX10_leave 91 = .ok (.iconst 1, 1) := by decide +kernel
theorem dX10_leave_92 : decode cX10_leave 92 = .ok (.isub, 1) := by decide +kernel
theorem dX10_leave_93 : decode cX10_leave 93 = .ok (.putfield 156, 3) := by decide +kernel
theorem dX10_leave_96 : decode cX10_leave 96 = .ok (.aload_n 0, 1) := by decide +kernel
theorem dX10_leave_97 : decode cX10_leave 97 = .ok (.getfield 138, 3) := by decide +kernel
theorem dX10_leave_100 : decode cX10_leave 100 = .ok (.iconst 1, 1) := by decide +kernel
theorem dX10_leave_101 : decode cX10_leave 101 = .ok (.if_icmp .ne 67, 3) := by decide +kernel
theorem dX10_leave_104 : decode cX10_leave 104 = .ok (.aload_n 0, 1) := by decide +kernel
theorem dX10_leave_105 : decode cX10_leave 105 = .ok (.iconst 0, 1) := by decide +kernel
theorem dX10_leave_106 : decode cX10_leave 106 = .ok (.putfield 138, 3) := by decide +kernel
theorem dX10_leave_109 : decode cX10_leave 109 = .ok (.aload_n 0, 1) := by decide +kernel
theorem dX10_leave_110 : decode cX10_leave 110 = .ok (.aload_n 0, 1) := by decide +kernel
theorem dX10_leave_111 : decode cX10_leave 111 = .ok (.getfield 22, 3) := by decide +kernel
theorem dX10_leave_114 : decode cX10_leave 114 = .ok (.aload_n 0, 1) := by decide +kernel
theorem dX10_leave_115 : decode cX10_leave 115 = .ok (.getfield 82, 3) := by decide +kernel
theorem dX10_leave_118 : decode cX10_leave 118 = .ok (.iload_n 1, 1) := by decide +kernel
theorem dX10_leave_119 : decode cX10_leave 119 = .ok (.iaload, 1) := by decide +kernel
theorem dX10_leave_120 : decode cX10_leave 120 = .ok (.iaload, 1) := by decide +kernel
theorem dX10_leave_121 : decode cX10_leave 121 = .ok (.iconst 1, 1) := by decide +kernel
theorem dX10_leave_122 : decode cX10_leave 122 = .ok (.iadd, 1) := by decide +kernel
theorem dX10_leave_123 : decode cX10_leave 123 = .ok (.putfield 141, 3) := by decide +kernel
theorem dX10_leave_126 : decode cX10_leave 126 = .ok (.goto 42, 3) := by decide +kernel
theorem dX10_leave_129 : decode cX10_leave 129 = .ok (.aload_n 0, 1) := by decide +kernel
theorem dX10_leave_130 : decode cX10_leave 130 = .ok (.getfield 138, 3) := by decide +kernel
theorem dX10_leave_133 : decode cX10_leave 133 = .ok (.iconst 3, 1) := by decide +kernel
theorem dX10_leave_134 : decode cX10_leave 134 = .ok (.if_icmp .ne 10, 3) := by decide +kernel
theorem dX10_leave_137 : decode cX10_leave 137 = .ok (.aload_n 0, 1) := by decide +kernel
theorem dX10_leave_138 : decode cX10_leave 138 = .ok (.invokevirtual 181, 3) := by decide +kernel
theorem dX10_leave_141 : decode cX10_leave 141 = .ok (.goto 27, 3) := by decide +kernel
theorem dX10_leave_144 : decode cX10_leave 144 = .ok (.aload_n 0, 1) := by decide +kernel
theorem dX10_leave_145 : decode cX10_leave 145 = .ok (.invokevirtual 172, 3) := by decide +kernel
theorem dX10_leave_148 : decode cX10_leave 148 = .ok (.goto 20, 3) := by decide +kernel
theorem dX10_leave_151 : decode cX10_leave 151 = .ok (.aload_n 0, 1) := by decide +kernel
theorem dX10_leave_152 : decode cX10_leave 152 = .ok (.invokevirtual 172, 3) := by decide +kernel
theorem dX10_leave_155 : decode cX10_leave 155 = .ok (.goto 13, 3) := by decide +kernel
theorem dX10_leave_158 : decode cX10_leave 158 = .ok (.aload_n 0, 1) := by decide +kernel
theorem dX10_leave_159 : decode cX10_leave 159 = .ok (.dup, 1) := by decide +kernel
theorem dX10_leave_160 : decode cX10_leave 160 = .ok (.getfield 156, 3) := by decide +kernel
theorem dX10_leave_163 : decode cX10_leave 163 = .ok (.iconst 1, 1) := by decide +kernel
theorem dX10_leave_164 : decode cX10_leave 164 = .ok (.isub, 1) := by decide +kernel
theorem dX10_leave_165 : decode cX10_leave 165 = .ok (.putfield 156, 3) := by decide +kernel
theorem dX10_leave_168 : decode cX10_leave 168 = .ok (.return_, 1) := by decide +kernel
theorem dX10_isCounted_0 : decode cX10_isCounted 0 = .ok (.aload_n 0, 1) := by decide +kernel
theorem dX10_isCounted_1 : decode cX10_isCounted 1 = .ok (.getfield 184, 3) := by decide +kernel
theorem dX10_isCounted_4 : decode cX10_isCounted 4 = .ok (.sipush 200, 3) := by decide +kernel
theorem dX10_isCounted_7 : decode cX10_isCounted 7 = .ok (.if_icmp .ne 5, 3) := by decide +kernel
theorem dX10_isCounted_10 : decode cX10_isCounted 10 = .ok (.iconst 0, 1) := by decide +kernel
theorem dX10_isCounted_11 : decode cX10_isCounted 11 = .ok (.ireturn, 1) := by decide +kernel
theorem dX10_isCounted_12 : decode cX10_isCounted 12 = .ok (.aload_n 0, 1) := by decide +kernel
theorem dX10_isCounted_13 : decode cX10_isCounted 13 = .ok (.dup, 1) := by decide +kernel
theorem dX10_isCounted_14 : decode cX10_isCounted 14 = .ok (.getfield 184, 3) := by decide +kernel
theorem dX10_isCounted_17 : decode cX10_isCounted 17 = .ok (.iconst 1, 1) := by decide +kernel
theorem dX10_isCounted_18 : decode cX10_isCounted 18 = .ok (.iadd, 1) := by decide +kernel
theorem dX10_isCounted_19 : decode cX10_isCounted 19 = .ok (.putfield 184, 3) := by decide +kernel
theorem dX10_isCounted_22 : decode cX10_isCounted 22 = .ok (.iconst 1, 1) := by decide +kernel
theorem dX10_isCounted_23 : decode cX10_isCounted 23 = .ok (.ireturn, 1) := by decide +kernel
theorem dX10_round_0 : decode cX10_round 0 = .ok (.aload_n 0, 1) := by decide +kernel
theorem dX10_round_1 : decode cX10_round 1 = .ok (.getfield 156, 3) := by decide +kernel
theorem dX10_round_4 : decode cX10_round 4 = .ok (.iconst 1, 1) := by decide +kernel
theorem dX10_round_5 : decode cX10_round 5 = .ok (.isub, 1) := by decide +kernel
theorem dX10_round_6 : decode cX10_round 6 = .ok (.istore_n 1, 1) := by decide +kernel
theorem dX10_round_7 : decode cX10_round 7 = .ok (.aload_n 0, 1) := by decide +kernel
theorem dX10_round_8 : decode cX10_round 8 = .ok (.getfield 85, 3) := by decide +kernel
theorem dX10_round_11 : decode cX10_round 11 = .ok (.iload_n 1, 1) := by decide +kernel
theorem dX10_round_12 : decode cX10_round 12 = .ok (.iaload, 1) := by decide +kernel
theorem dX10_round_13 : decode cX10_round 13 = .ok (.ifCond .ne 31, 3) := by decide +kernel
theorem dX10_round_16 : decode cX10_round 16 = .ok (.aload_n 0, 1) := by decide +kernel
theorem dX10_round_17 : decode cX10_round 17 = .ok (.dup, 1) := by decide +kernel
theorem dX10_round_18 : decode cX10_round 18 = .ok (.getfield 156, 3) := by decide +kernel
theorem dX10_round_21 : decode cX10_round 21 = .ok (.iconst 1, 1) := by decide +kernel
theorem dX10_round_22 : decode cX10_round 22 = .ok (.isub, 1) := by decide +kernel
theorem dX10_round_23 : decode cX10_round 23 = .ok (.putfield 156, 3) := by decide +kernel
theorem dX10_round_26 : decode cX10_round 26 = .ok (.aload_n 0, 1) := by decide +kernel
theorem dX10_round_27 : decode cX10_round 27 = .ok (.aload_n 0, 1) := by decide +kernel
theorem dX10_round_28 : decode cX10_round 28 = .ok (.getfield 22, 3) := by decide +kernel
theorem dX10_round_31 : decode cX10_round 31 = .ok (.aload_n 0, 1) := by decide +kernel
theorem dX10_round_32 : decode cX10_round 32 = .ok (.getfield 82, 3) := by decide +kernel
theorem dX10_round_35 : decode cX10_round 35 = .ok (.iload_n 1, 1) := by decide +kernel
theorem dX10_round_36 : decode cX10_round 36 = .ok (.iaload, 1) := by decide +kernel
theorem dX10_round_37 : decode cX10_round 37 = .ok (.iaload, 1) := by decide +kernel
theorem dX10_round_38 : decode cX10_round 38 = .ok (.iconst 1, 1) := by decide +kernel
theorem dX10_round_39 : decode cX10_round 39 = .ok (.iadd, 1) := by decide +kernel
theorem dX10_round_40 : decode cX10_round 40 = .ok (.putfield 141, 3) := by decide +kernel
theorem dX10_round_43 : decode cX10_round 43 = .ok (.return_, 1) := by decide +kernel
theorem dX10_round_44 : decode cX10_round 44 = .ok (.aload_n 0, 1) := by decide +kernel
theorem dX10_round_45 : decode cX10_round 45 = .ok (.getfield 85, 3) := by decide +kernel
theorem dX10_round_48 : decode cX10_round 48 = .ok (.iload_n 1, 1) := by decide +kernel
theorem dX10_round_49 : decode cX10_round 49 = .ok (.dup2, 1) := by decide +kernel
theorem dX10_round_50 : decode cX10_round 50 = .ok (.iaload, 1) := by decide +kernel
theorem dX10_round_51 : decode cX10_round 51 = .ok (.iconst 1, 1) := by decide +kernel
theorem dX10_round_52 : decode cX10_round 52 = .ok (.isub, 1) := by decide +kernel
theorem dX10_round_53 : decode cX10_round 53 = .ok (.iastore, 1) := by decide +kernel
theorem dX10_round_54 : decode cX10_round 54 = .ok (.aload_n 0, 1) := by decide +kernel
theorem dX10_round_55 : decode cX10_round 55 = .ok (.aload_n 0, 1) := by decide +kernel
theorem dX10_round_56 : decode cX10_round 56 = .ok (.getfield 82, 3) := by decide +kernel
theorem dX10_round_59 : decode cX10_round 59 = .ok (.iload_n 1, 1) := by decide +kernel
theorem dX10_round_60 : decode cX10_round 60 = .ok (.iaload, 1) := by decide +kernel
theorem dX10_round_61 : decode cX10_round 61 = .ok (.putfield 141, 3) := by decide +kernel
theorem dX10_round_64 : decode cX10_round 64 = .ok (.aload_n 0, 1) := by decide +kernel
theorem dX10_round_65 : decode cX10_round 65 = .ok (.invokevirtual 187, 3) := by decide +kernel
theorem dX10_round_68 : decode cX10_round 68 = .ok (.ifCond .eq 16, 3) := by decide +kernel
theorem dX10_round_71 : decode cX10_round 71 = .ok (.aload_n 0, 1) := by decide +kernel
theorem dX10_round_72 : decode cX10_round 72 = .ok (.dup, 1) := by decide +kernel
theorem dX10_round_73 : decode cX10_round 73 = .ok (.getfield 141, 3) := by decide +kernel
theorem dX10_round_76 : decode cX10_round 76 = .ok (.iconst 1, 1) := by decide +kernel
theorem dX10_round_77 : decode cX10_round 77 = .ok (.iadd, 1) := by decide +kernel
theorem dX10_round_78 : decode cX10_round 78 = .ok (.putfield 141, 3) := by decide +kernel
theorem dX10_round_81 : decode cX10_round 81 = .ok (.goto 9, 3) := by decide +kernel
theorem dX10_round_84 : decode cX10_round 84 = .ok (.aload_n 0, 1) := by decide +kernel
theorem dX10_round_85 : decode cX10_round 85 = .ok (.bipush 10, 2) := by decide +kernel
theorem dX10_round_87 : decode cX10_round 87 = .ok (.invokevirtual 191, 3) := by decide +kernel
theorem dX10_round_90 : decode cX10_round 90 = .ok (.return_, 1) := by decide +kernel
theorem dX10_endPart_0 : decode cX10_endPart 0 = .ok (.aload_n 0, 1) := by decide +kernel
theorem dX10_endPart_1 : decode cX10_endPart 1 = .ok (.getfield 156, 3) := by decide +kernel
theorem dX10_endPart_4 : decode cX10_endPart 4 = .ok (.iconst 1, 1) := by decide +kernel
theorem dX10_endPart_5 : decode cX10_endPart 5 = .ok (.isub, 1) := by decide +kernel
theorem dX10_endPart_6 : decode cX10_endPart 6 = .ok (.istore_n 1, 1) := by decide +kernel
theorem dX10_endPart_7 : decode cX10_endPart 7 = .ok (.aload_n 0, 1) := by decide +kernel
theorem dX10_endPart_8 : decode cX10_endPart 8 = .ok (.getfield 79, 3) := by decide +kernel
theorem dX10_endPart_11 : decode cX10_endPart 11 = .ok (.iload_n 1, 1) := by decide +kernel
theorem dX10_endPart_12 : decode cX10_endPart 12 = .ok (.iaload, 1) := by decide +kernel
theorem dX10_endPart_13 : decode cX10_endPart 13 = .ok (.tableswitch 115 1 5 #[35, 42, 115, 115, 65], 35) := by decide +kernel
theorem dX10_endPart_48 : decode cX10_endPart 48 = .ok (.aload_n 0, 1) := by decide +kernel
theorem dX10_endPart_49 : decode cX10_endPart 49 = .ok (.invokevirtual 195, 3) := by decide +kernel
theorem dX10_endPart_52 : decode cX10_endPart 52 = .ok (.goto 80, 3) := by decide +kernel
theorem dX10_endPart_55 : decode cX10_endPart 55 = .ok (.aload_n 0, 1) := by decide +kernel
theorem dX10_endPart_56 : decode cX10_endPart 56 = .ok (.dup, 1) := by decide +kernel
theorem dX10_endPart_57 : decode cX10_endPart 57 = .ok (.getfield 156, 3) := by decide +kernel
theorem dX10_endPart_60 : decode cX10_endPart 60 = .ok (.iconst 1, 1) := by decide +kernel
theorem dX10_endPart_61 : decode cX10_endPart 61 = .ok (.isub, 1) := by decide +kernel
theorem dX10_endPart_62 : decode cX10_endPart 62 = .ok (.putfield 156, 3) := by decide +kernel
theorem dX10_endPart_65 : decode cX10_endPart 65 = .ok (.aload_n 0, 1) := by decide +kernel
theorem dX10_endPart_66 : decode cX10_endPart 66 = .ok (.dup, 1) := by decide +kernel
theorem dX10_endPart_67 : decode cX10_endPart 67 = .ok (.getfield 141, 3) := by decide +kernel
theorem dX10_endPart_70 : decode cX10_endPart 70 = .ok (.iconst 1, 1) := by decide +kernel
theorem dX10_endPart_71 : decode cX10_endPart 71 = .ok (.iadd, 1) := by decide +kernel
theorem dX10_endPart_72 : decode cX10_endPart 72 = .ok (.putfield 141, 3) := by decide +kernel
theorem dX10_endPart_75 : decode cX10_endPart 75 = .ok (.goto 57, 3) := by decide +kernel
theorem dX10_endPart_78 : decode cX10_endPart 78 = .ok (.aload_n 0, 1) := by decide +kernel
theorem dX10_endPart_79 : decode cX10_endPart 79 = .ok (.aload_n 0, 1) := by decide +kernel
theorem dX10_endPart_80 : decode cX10_endPart 80 = .ok (.getfield 91, 3) := by decide +kernel
theorem dX10_endPart_83 : decode cX10_endPart 83 = .ok (.iload_n 1, 1) := by decide +kernel
theorem dX10_endPart_84 : decode cX10_endPart 84 = .ok (.iaload, 1) := by decide +kernel
theorem dX10_endPart_85 : decode cX10_endPart 85 = .ok (.putfield 138, 3) := by decide +kernel
theorem dX10_endPart_88 : decode cX10_endPart 88 = .ok (.aload_n 0, 1) := by decide +kernel
theorem dX10_endPart_89 : decode cX10_endPart 89 = .ok (.aload_n 0, 1) := by decide +kernel
theorem dX10_endPart_90 : decode cX10_endPart 90 = .ok (.getfield 88, 3) := by decide +kernel
theorem dX10_endPart_93 : decode cX10_endPart 93 = .ok (.iload_n 1, 1) := by decide +kernel
theorem dX10_endPart_94 : decode cX10_endPart 94 = .ok (.iaload, 1) := by decide +kernel
theorem dX10_endPart_95 : decode cX10_endPart 95 = .ok (.putfield 135, 3) := by decide +kernel
theorem dX10_endPart_98 : decode cX10_endPart 98 = .ok (.aload_n 0, 1) := by decide +kernel
theorem dX10_endPart_99 : decode cX10_endPart 99 = .ok (.aload_n 0, 1) := by decide +kernel
theorem dX10_endPart_100 : decode cX10_endPart 100 = .ok (.getfield 22, 3) := by decide +kernel
theorem dX10_endPart_103 : decode cX10_endPart 103 = .ok (.aload_n 0, 1) := by decide +kernel
theorem dX10_endPart_104 : decode cX10_endPart 104 = .ok (.getfield 82, 3) := by decide +kernel
theorem dX10_endPart_107 : decode cX10_endPart 107 = .ok (.iload_n 1, 1) := by decide +kernel
theorem dX10_endPart_108 : decode cX10_endPart 108 = .ok (.iaload, 1) := by decide +kernel
theorem dX10_endPart_109 : decode cX10_endPart 109 = .ok (.iaload, 1) := by decide +kernel
theorem dX10_endPart_110 : decode cX10_endPart 110 = .ok (.iconst 1, 1) := by decide +kernel
theorem dX10_endPart_111 : decode cX10_endPart 111 = .ok (.iadd, 1) := by decide +kernel
theorem dX10_endPart_112 : decode cX10_endPart 112 = .ok (.putfield 141, 3) := by decide +kernel
theorem dX10_endPart_115 : decode cX10_endPart 115 = .ok (.aload_n 0, 1) := by decide +kernel
theorem dX10_endPart_116 : decode cX10_endPart 116 = .ok (.dup, 1) := by decide +kernel
theorem dX10_endPart_117 : decode cX10_endPart 117 = .ok (.getfield 156, 3) := by decide +kernel
theorem dX10_endPart_120 : decode cX10_endPart 120 = .ok (.iconst 1, 1) := by decide +kernel
theorem dX10_endPart_121 : decode cX10_endPart 121 = .ok (.isub, 1) := by decide +kernel
theorem dX10_endPart_122 : decode cX10_endPart 122 = .ok (.putfield 156, 3) := by decide +kernel
theorem dX10_endPart_125 : decode cX10_endPart 125 = .ok (.goto 7, 3) := by decide +kernel
theorem dX10_endPart_128 : decode cX10_endPart 128 = .ok (.aload_n 0, 1) := by decide +kernel
theorem dX10_endPart_129 : decode cX10_endPart 129 = .ok (.invokevirtual 172, 3) := by decide +kernel
theorem dX10_endPart_132 : decode cX10_endPart 132 = .ok (.return_, 1) := by decide +kernel
theorem dX10_go_0 : decode cX10_go 0 = .ok (.aload_n 0, 1) := by decide +kernel
theorem dX10_go_1 : decode cX10_go 1 = .ok (.getfield 156, 3) := by decide +kernel
theorem dX10_go_4 : decode cX10_go 4 = .ok (.iconst 1, 1) := by decide +kernel
theorem dX10_go_5 : decode cX10_go 5 = .ok (.isub, 1) := by decide +kernel
theorem dX10_go_6 : decode cX10_go 6 = .ok (.istore_n 1, 1) := by decide +kernel
theorem dX10_go_7 : decode cX10_go 7 = .ok (.aload_n 0, 1) := by decide +kernel
theorem dX10_go_8 : decode cX10_go 8 = .ok (.getfield 79, 3) := by decide +kernel
theorem dX10_go_11 : decode cX10_go 11 = .ok (.iload_n 1, 1) := by decide +kernel
theorem dX10_go_12 : decode cX10_go 12 = .ok (.iaload, 1) := by decide +kernel
theorem dX10_go_13 : decode cX10_go 13 = .ok (.ifCond .eq 9, 3) := by decide +kernel
theorem dX10_go_16 : decode cX10_go 16 = .ok (.iinc 1 (-1), 3) := by decide +kernel
theorem dX10_go_19 : decode cX10_go 19 = .ok (.goto (-12), 3) := by decide +kernel
theorem dX10_go_22 : decode cX10_go 22 = .ok (.aload_n 0, 1) := by decide +kernel
theorem dX10_go_23 : decode cX10_go 23 = .ok (.getfield 141, 3) := by decide +kernel
theorem dX10_go_26 : decode cX10_go 26 = .ok (.bipush 40, 2) := by decide +kernel
theorem dX10_go_28 : decode cX10_go 28 = .ok (.aload_n 0, 1) := by decide +kernel
theorem dX10_go_29 : decode cX10_go 29 = .ok (.getfield 82, 3) := by decide +kernel
theorem dX10_go_32 : decode cX10_go 32 = .ok (.iload_n 1, 1) := by decide +kernel
theorem dX10_go_33 : decode cX10_go 33 = .ok (.iaload, 1) := by decide +kernel
theorem dX10_go_34 : decode cX10_go 34 = .ok (.imul, 1) := by decide +kernel
theorem dX10_go_35 : decode cX10_go 35 = .ok (.aload_n 0, 1) := by decide +kernel
theorem dX10_go_36 : decode cX10_go 36 = .ok (.getfield 28, 3) := by decide +kernel
theorem dX10_go_39 : decode cX10_go 39 = .ok (.aload_n 0, 1) := by decide +kernel
theorem dX10_go_40 : decode cX10_go 40 = .ok (.getfield 82, 3) := by decide +kernel
theorem dX10_go_43 : decode cX10_go 43 = .ok (.iload_n 1, 1) := by decide +kernel
theorem dX10_go_44 : decode cX10_go 44 = .ok (.iaload, 1) := by decide +kernel
theorem dX10_go_45 : decode cX10_go 45 = .ok (.iaload, 1) := by decide +kernel
theorem dX10_go_46 : decode cX10_go 46 = .ok (.iadd, 1) := by decide +kernel
theorem dX10_go_47 : decode cX10_go 47 = .ok (.if_icmp .ne 10, 3) := by decide +kernel
theorem dX10_go_50 : decode cX10_go 50 = .ok (.aload_n 0, 1) := by decide +kernel
theorem dX10_go_51 : decode cX10_go 51 = .ok (.invokevirtual 178, 3) := by decide +kernel
theorem dX10_go_54 : decode cX10_go 54 = .ok (.goto 118, 3) := by decide +kernel
theorem dX10_go_57 : decode cX10_go 57 = .ok (.aload_n 0, 1) := by decide +kernel
theorem dX10_go_58 : decode cX10_go 58 = .ok (.getfield 7, 3) := by decide +kernel
theorem dX10_go_61 : decode cX10_go 61 = .ok (.aload_n 0, 1) := by decide +kernel
theorem dX10_go_62 : decode cX10_go 62 = .ok (.getfield 141, 3) := by decide +kernel
theorem dX10_go_65 : decode cX10_go 65 = .ok (.iaload, 1) := by decide +kernel
theorem dX10_go_66 : decode cX10_go 66 = .ok (.ifCond .eq 29, 3) := by decide +kernel
theorem dX10_go_69 : decode cX10_go 69 = .ok (.aload_n 0, 1) := by decide +kernel
theorem dX10_go_70 : decode cX10_go 70 = .ok (.getfield 7, 3) := by decide +kernel
theorem dX10_go_73 : decode cX10_go 73 = .ok (.aload_n 0, 1) := by decide +kernel
theorem dX10_go_74 : decode cX10_go 74 = .ok (.getfield 141, 3) := by decide +kernel
theorem dX10_go_77 : decode cX10_go 77 = .ok (.iaload, 1) := by decide +kernel
theorem dX10_go_78 : decode cX10_go 78 = .ok (.iconst 2, 1) := by decide +kernel
theorem dX10_go_79 : decode cX10_go 79 = .ok (.if_icmp .eq 16, 3) := by decide +kernel
theorem dX10_go_82 : decode cX10_go 82 = .ok (.aload_n 0, 1) := by decide +kernel
theorem dX10_go_83 : decode cX10_go 83 = .ok (.getfield 7, 3) := by decide +kernel
theorem dX10_go_86 : decode cX10_go 86 = .ok (.aload_n 0, 1) := by decide +kernel
theorem dX10_go_87 : decode cX10_go 87 = .ok (.getfield 141, 3) := by decide +kernel
theorem dX10_go_90 : decode cX10_go 90 = .ok (.iaload, 1) := by decide +kernel
theorem dX10_go_91 : decode cX10_go 91 = .ok (.iconst 3, 1) := by decide +kernel
theorem dX10_go_92 : decode cX10_go 92 = .ok (.if_icmp .ne 10, 3) := by decide +kernel
theorem dX10_go_95 : decode cX10_go 95 = .ok (.aload_n 0, 1) := by decide +kernel
theorem dX10_go_96 : decode cX10_go 96 = .ok (.invokevirtual 198, 3) := by decide +kernel
theorem dX10_go_99 : decode cX10_go 99 = .ok (.goto 73, 3) := by decide +kernel
theorem dX10_go_102 : decode cX10_go 102 = .ok (.aload_n 0, 1) := by decide +kernel
theorem dX10_go_103 : decode cX10_go 103 = .ok (.invokevirtual 187, 3) := by decide +kernel
theorem dX10_go_106 : decode cX10_go 106 = .ok (.ifCond .ne 12, 3) := by decide +kernel
theorem dX10_go_109 : decode cX10_go 109 = .ok (.aload_n 0, 1) := by decide +kernel
theorem dX10_go_110 : decode cX10_go 110 = .ok (.bipush 10, 2) := by decide +kernel
theorem dX10_go_112 : decode cX10_go 112 = .ok (.invokevirtual 191, 3) := by decide +kernel
theorem dX10_go_115 : decode cX10_go 115 = .ok (.goto 57, 3) := by decide +kernel
theorem dX10_go_118 : decode cX10_go 118 = .ok (.aload_n 0, 1) := by decide +kernel
theorem dX10_go_119 : decode cX10_go 119 = .ok (.getfield 7, 3) := by decide +kernel
theorem dX10_go_122 : decode cX10_go 122 = .ok (.aload_n 0, 1) := by decide +kernel
theorem dX10_go_123 : decode cX10_go 123 = .ok (.getfield 141, 3) := by decide +kernel
theorem dX10_go_126 : decode cX10_go 126 = .ok (.iaload, 1) := by decide +kernel
theorem dX10_go_127 : decode cX10_go 127 = .ok (.bipush 13, 2) := by decide +kernel
theorem dX10_go_129 : decode cX10_go 129 = .ok (.if_icmp .ge 14, 3) := by decide +kernel
theorem dX10_go_132 : decode cX10_go 132 = .ok (.aload_n 0, 1) := by decide +kernel
theorem dX10_go_133 : decode cX10_go 133 = .ok (.aload_n 0, 1) := by decide +kernel
theorem dX10_go_134 : decode cX10_go 134 = .ok (.getfield 141, 3) := by decide +kernel
theorem dX10_go_137 : decode cX10_go 137 = .ok (.invokevirtual 201, 3) := by decide +kernel
theorem dX10_go_140 : decode cX10_go 140 = .ok (.goto 32, 3) := by decide +kernel
theorem dX10_go_143 : decode cX10_go 143 = .ok (.aload_n 0, 1) := by decide +kernel
theorem dX10_go_144 : decode cX10_go 144 = .ok (.aload_n 0, 1) := by decide +kernel
theorem dX10_go_145 : decode cX10_go 145 = .ok (.getfield 141, 3) := by decide +kernel
theorem dX10_go_148 : decode cX10_go 148 = .ok (.invokevirtual 204, 3) := by decide +kernel
theorem dX10_go_151 : decode cX10_go 151 = .ok (.aload_n 0, 1) := by decide +kernel
theorem dX10_go_152 : decode cX10_go 152 = .ok (.dup, 1) := by decide +kernel
theorem dX10_go_153 : decode cX10_go 153 = .ok (.getfield 141, 3) := by decide +kernel
theorem dX10_go_156 : decode cX10_go 156 = .ok (.aload_n 0, 1) := by decide +kernel
theorem dX10_go_157 : decode cX10_go 157 = .ok (.getfield 138, 3) := by decide +kernel
theorem dX10_go_160 : decode cX10_go 160 = .ok (.ifCond .ne 7, 3) := by decide +kernel
theorem dX10_go_163 : decode cX10_go 163 = .ok (.iconst 1, 1) := by decide +kernel
theorem dX10_go_164 : decode cX10_go 164 = .ok (.goto 4, 3) := by decide +kernel
theorem dX10_go_167 : decode cX10_go 167 = .ok (.iconst 0, 1) := by decide +kernel
theorem dX10_go_168 : decode cX10_go 168 = .ok (.iadd, 1) := by decide +kernel
theorem dX10_go_169 : decode cX10_go 169 = .ok (.putfield 141, 3) := by decide +kernel
theorem dX10_go_172 : decode cX10_go 172 = .ok (.return_, 1) := by decide +kernel
theorem dX10_run_0 : decode cX10_run 0 = .ok (.aload_n 0, 1) := by decide +kernel
theorem dX10_run_1 : decode cX10_run 1 = .ok (.getfield 31, 3) := by decide +kernel
theorem dX10_run_4 : decode cX10_run 4 = .ok (.aload_n 0, 1) := by decide +kernel
theorem dX10_run_5 : decode cX10_run 5 = .ok (.getfield 104, 3) := by decide +kernel
theorem dX10_run_8 : decode cX10_run 8 = .ok (.iaload, 1) := by decide +kernel
theorem dX10_run_9 : decode cX10_run 9 = .ok (.ifCond .le 5, 3) := by decide +kernel
theorem dX10_run_12 : decode cX10_run 12 = .ok (.iconst (-1), 1) := by decide +kernel
theorem dX10_run_13 : decode cX10_run 13 = .ok (.ireturn, 1) := by decide +kernel
theorem dX10_run_14 : decode cX10_run 14 = .ok (.aload_n 0, 1) := by decide +kernel
theorem dX10_run_15 : decode cX10_run 15 = .ok (.iconst 0, 1) := by decide +kernel
theorem dX10_run_16 : decode cX10_run 16 = .ok (.putfield 132, 3) := by decide +kernel
theorem dX10_run_19 : decode cX10_run 19 = .ok (.aload_n 0, 1) := by decide +kernel
theorem dX10_run_20 : decode cX10_run 20 = .ok (.iconst 0, 1) := by decide +kernel
theorem dX10_run_21 : decode cX10_run 21 = .ok (.putfield 156, 3) := by decide +kernel
theorem dX10_run_24 : decode cX10_run 24 = .ok (.aload_n 0, 1) := by decide +kernel
theorem dX10_run_25 : decode cX10_run 25 = .ok (.iconst 0, 1) := by decide +kernel
theorem dX10_run_26 : decode cX10_run 26 = .ok (.putfield 138, 3) := by decide +kernel
theorem dX10_run_29 : decode cX10_run 29 = .ok (.aload_n 0, 1) := by decide +kernel
theorem dX10_run_30 : decode cX10_run 30 = .ok (.iconst (-1), 1) := by decide +kernel
theorem dX10_run_31 : decode cX10_run 31 = .ok (.putfield 135, 3) := by decide +kernel
theorem dX10_run_34 : decode cX10_run 34 = .ok (.aload_n 0, 1) := by decide +kernel
theorem dX10_run_35 : decode cX10_run 35 = .ok (.iconst 0, 1) := by decide +kernel
theorem dX10_run_36 : decode cX10_run 36 = .ok (.putfield 163, 3) := by decide +kernel
theorem dX10_run_39 : decode cX10_run 39 = .ok (.aload_n 0, 1) := by decide +kernel
theorem dX10_run_40 : decode cX10_run 40 = .ok (.iconst 0, 1) := by decide +kernel
theorem dX10_run_41 : decode cX10_run 41 = .ok (.putfield 184, 3) := by decide +kernel
theorem dX10_run_44 : decode cX10_run 44 = .ok (.aload_n 0, 1) := by decide +kernel
theorem dX10_run_45 : decode cX10_run 45 = .ok (.iconst 0, 1) := by decide +kernel
theorem dX10_run_46 : decode cX10_run 46 = .ok (.putfield 175, 3) := by decide +kernel
theorem dX10_run_49 : decode cX10_run 49 = .ok (.aload_n 0, 1) := by decide +kernel
theorem dX10_run_50 : decode cX10_run 50 = .ok (.iconst 0, 1) := by decide +kernel
theorem dX10_run_51 : decode cX10_run 51 = .ok (.putfield 166, 3) := by decide +kernel
theorem dX10_run_54 : decode cX10_run 54 = .ok (.aload_n 0, 1) := by decide +kernel
theorem dX10_run_55 : decode cX10_run 55 = .ok (.iconst 0, 1) := by decide +kernel
theorem dX10_run_56 : decode cX10_run 56 = .ok (.putfield 207, 3) := by decide +kernel
theorem dX10_run_59 : decode cX10_run 59 = .ok (.aload_n 0, 1) := by decide +kernel
theorem dX10_run_60 : decode cX10_run 60 = .ok (.iconst (-1), 1) := by decide +kernel
theorem dX10_run_61 : decode cX10_run 61 = .ok (.putfield 75, 3) := by decide +kernel
theorem dX10_run_64 : decode cX10_run 64 = .ok (.aload_n 0, 1) := by decide +kernel
theorem dX10_run_65 : decode cX10_run 65 = .ok (.aload_n 0, 1) := by decide +kernel
theorem dX10_run_66 : decode cX10_run 66 = .ok (.getfield 104, 3) := by decide +kernel
theorem dX10_run_69 : decode cX10_run 69 = .ok (.iconst (-1), 1) := by decide +kernel
theorem dX10_run_70 : decode cX10_run 70 = .ok (.invokevirtual 210, 3) := by decide +kernel
theorem dX10_run_73 : decode cX10_run 73 = .ok (.iconst 0, 1) := by decide +kernel
theorem dX10_run_74 : decode cX10_run 74 = .ok (.istore_n 1, 1) := by decide +kernel
theorem dX10_run_75 : decode cX10_run 75 = .ok (.iload_n 1, 1) := by decide +kernel
theorem dX10_run_76 : decode cX10_run 76 = .ok (.ldc 214, 2) := by decide +kernel
theorem dX10_run_78 : decode cX10_run 78 = .ok (.if_icmp .ge 34, 3) := by decide +kernel
theorem dX10_run_81 : decode cX10_run 81 = .ok (.aload_n 0, 1) := by decide +kernel
theorem dX10_run_82 : decode cX10_run 82 = .ok (.getfield 156, 3) := by decide +kernel
theorem dX10_run_85 : decode cX10_run 85 = .ok (.ifCond .le 27, 3) := by decide +kernel
theorem dX10_run_88 : decode cX10_run 88 = .ok (.aload_n 0, 1) := by decide +kernel
theorem dX10_run_89 : decode cX10_run 89 = .ok (.getfield 138, 3) := by decide +kernel
theorem dX10_run_92 : decode cX10_run 92 = .ok (.ifCond .ne 10, 3) := by decide +kernel
theorem dX10_run_95 : decode cX10_run 95 = .ok (.aload_n 0, 1) := by decide +kernel
end
section
theorem dX10_run_96 : decode cX10_run 96 = .ok (.invokevirtual 215, 3) := by decide +kernel
theorem dX10_run_99 : decode cX10_run 99 = .ok (.goto 7, 3) := by decide +kernel
theorem dX10_run_102 : decode cX10_run 102 = .ok (.aload_n 0, 1) := by decide +kernel
theorem dX10_run_103 : decode cX10_run 103 = .ok (.invokevirtual 218, 3) := by decide +kernel
theorem dX10_run_106 : decode cX10_run 106 = .ok (.iinc 1 1, 3) := by decide +kernel
theorem dX10_run_109 : decode cX10_run 109 = .ok (.goto (-34), 3) := by decide +kernel
theorem dX10_run_112 : decode cX10_run 112 = .ok (.aload_n 0, 1) := by decide +kernel
theorem dX10_run_113 : decode cX10_run 113 = .ok (.getfield 138, 3) := by decide +kernel
theorem dX10_run_116 : decode cX10_run 116 = .ok (.iconst 3, 1) := by decide +kernel
theorem dX10_run_117 : decode cX10_run 117 = .ok (.if_icmp .eq 5, 3) := by decide +kernel
theorem dX10_run_120 : decode cX10_run 120 = .ok (.iconst 0, 1) := by decide +kernel
theorem dX10_run_121 : decode cX10_run 121 = .ok (.ireturn, 1) := by decide +kernel
theorem dX10_run_122 : decode cX10_run 122 = .ok (.aload_n 0, 1) := by decide +kernel
theorem dX10_run_123 : decode cX10_run 123 = .ok (.aload_n 0, 1) := by decide +kernel
theorem dX10_run_124 : decode cX10_run 124 = .ok (.getfield 135, 3) := by decide +kernel
theorem dX10_run_127 : decode cX10_run 127 = .ok (.putfield 75, 3) := by decide +kernel
theorem dX10_run_130 : decode cX10_run 130 = .ok (.aload_n 0, 1) := by decide +kernel
theorem dX10_run_131 : decode cX10_run 131 = .ok (.getfield 60, 3) := by decide +kernel
theorem dX10_run_134 : decode cX10_run 134 = .ok (.aload_n 0, 1) := by decide +kernel
theorem dX10_run_135 : decode cX10_run 135 = .ok (.getfield 75, 3) := by decide +kernel
theorem dX10_run_138 : decode cX10_run 138 = .ok (.iaload, 1) := by decide +kernel
theorem dX10_run_139 : decode cX10_run 139 = .ok (.ireturn, 1) := by decide +kernel
theorem dX10_caught_0 : decode cX10_caught 0 = .ok (.aload_n 0, 1) := by decide +kernel
theorem dX10_caught_1 : decode cX10_caught 1 = .ok (.getfield 156, 3) := by decide +kernel
theorem dX10_caught_4 : decode cX10_caught 4 = .ok (.iconst 1, 1) := by decide +kernel
theorem dX10_caught_5 : decode cX10_caught 5 = .ok (.isub, 1) := by decide +kernel
theorem dX10_caught_6 : decode cX10_caught 6 = .ok (.istore_n 1, 1) := by decide +kernel
theorem dX10_caught_7 : decode cX10_caught 7 = .ok (.aload_n 0, 1) := by decide +kernel
theorem dX10_caught_8 : decode cX10_caught 8 = .ok (.getfield 79, 3) := by decide +kernel
theorem dX10_caught_11 : decode cX10_caught 11 = .ok (.iload_n 1, 1) := by decide +kernel
theorem dX10_caught_12 : decode cX10_caught 12 = .ok (.iaload, 1) := by decide +kernel
theorem dX10_caught_13 : decode cX10_caught 13 = .ok (.iconst 4, 1) := by decide +kernel
theorem dX10_caught_14 : decode cX10_caught 14 = .ok (.if_icmp .eq 9, 3) := by decide +kernel
theorem dX10_caught_17 : decode cX10_caught 17 = .ok (.iinc 1 (-1), 3) := by decide +kernel
theorem dX10_caught_20 : decode cX10_caught 20 = .ok (.goto (-13), 3) := by decide +kernel
theorem dX10_caught_23 : decode cX10_caught 23 = .ok (.aload_n 0, 1) := by decide +kernel
theorem dX10_caught_24 : decode cX10_caught 24 = .ok (.getfield 88, 3) := by decide +kernel
theorem dX10_caught_27 : decode cX10_caught 27 = .ok (.iload_n 1, 1) := by decide +kernel
theorem dX10_caught_28 : decode cX10_caught 28 = .ok (.iaload, 1) := by decide +kernel
theorem dX10_caught_29 : decode cX10_caught 29 = .ok (.ireturn, 1) := by decide +kernel
theorem dX10_note_0 : decode cX10_note 0 = .ok (.aload_n 0, 1) := by decide +kernel
theorem dX10_note_1 : decode cX10_note 1 = .ok (.getfield 94, 3) := by decide +kernel
theorem dX10_note_4 : decode cX10_note 4 = .ok (.aload_n 0, 1) := by decide +kernel
theorem dX10_note_5 : decode cX10_note 5 = .ok (.getfield 207, 3) := by decide +kernel
theorem dX10_note_8 : decode cX10_note 8 = .ok (.dload_n 1, 1) := by decide +kernel
theorem dX10_note_9 : decode cX10_note 9 = .ok (.dastore, 1) := by decide +kernel
theorem dX10_note_10 : decode cX10_note 10 = .ok (.aload_n 0, 1) := by decide +kernel
theorem dX10_note_11 : decode cX10_note 11 = .ok (.dup, 1) := by decide +kernel
theorem dX10_note_12 : decode cX10_note 12 = .ok (.getfield 207, 3) := by decide +kernel
theorem dX10_note_15 : decode cX10_note 15 = .ok (.iconst 1, 1) := by decide +kernel
theorem dX10_note_16 : decode cX10_note 16 = .ok (.iadd, 1) := by decide +kernel
theorem dX10_note_17 : decode cX10_note 17 = .ok (.putfield 207, 3) := by decide +kernel
theorem dX10_note_20 : decode cX10_note 20 = .ok (.return_, 1) := by decide +kernel
theorem dX10_isSo_0 : decode cX10_isSo 0 = .ok (.aload_n 0, 1) := by decide +kernel
theorem dX10_isSo_1 : decode cX10_isSo 1 = .ok (.getfield 43, 3) := by decide +kernel
theorem dX10_isSo_4 : decode cX10_isSo 4 = .ok (.aload_n 0, 1) := by decide +kernel
theorem dX10_isSo_5 : decode cX10_isSo 5 = .ok (.getfield 13, 3) := by decide +kernel
theorem dX10_isSo_8 : decode cX10_isSo 8 = .ok (.iload_n 1, 1) := by decide +kernel
theorem dX10_isSo_9 : decode cX10_isSo 9 = .ok (.iaload, 1) := by decide +kernel
theorem dX10_isSo_10 : decode cX10_isSo 10 = .ok (.daload, 1) := by decide +kernel
theorem dX10_isSo_11 : decode cX10_isSo 11 = .ok (.dstore_n 2, 1) := by decide +kernel
theorem dX10_isSo_12 : decode cX10_isSo 12 = .ok (.aload_n 0, 1) := by decide +kernel
theorem dX10_isSo_13 : decode cX10_isSo 13 = .ok (.getfield 43, 3) := by decide +kernel
theorem dX10_isSo_16 : decode cX10_isSo 16 = .ok (.aload_n 0, 1) := by decide +kernel
theorem dX10_isSo_17 : decode cX10_isSo 17 = .ok (.getfield 19, 3) := by decide +kernel
theorem dX10_isSo_20 : decode cX10_isSo 20 = .ok (.iload_n 1, 1) := by decide +kernel
theorem dX10_isSo_21 : decode cX10_isSo 21 = .ok (.iaload, 1) := by decide +kernel
theorem dX10_isSo_22 : decode cX10_isSo 22 = .ok (.daload, 1) := by decide +kernel
theorem dX10_isSo_23 : decode cX10_isSo 23 = .ok (.dstore 4, 2) := by decide +kernel
theorem dX10_isSo_25 : decode cX10_isSo 25 = .ok (.aload_n 0, 1) := by decide +kernel
theorem dX10_isSo_26 : decode cX10_isSo 26 = .ok (.getfield 16, 3) := by decide +kernel
theorem dX10_isSo_29 : decode cX10_isSo 29 = .ok (.iload_n 1, 1) := by decide +kernel
theorem dX10_isSo_30 : decode cX10_isSo 30 = .ok (.iaload, 1) := by decide +kernel
theorem dX10_isSo_31 : decode cX10_isSo 31 = .ok (.tableswitch 64 0 2 #[25, 38, 51], 25) := by decide +kernel
theorem dX10_isSo_56 : decode cX10_isSo 56 = .ok (.dload_n 2, 1) := by decide +kernel
theorem dX10_isSo_57 : decode cX10_isSo 57 = .ok (.dload 4, 2) := by decide +kernel
theorem dX10_isSo_59 : decode cX10_isSo 59 = .ok (.dcmp .g, 1) := by decide +kernel
theorem dX10_isSo_60 : decode cX10_isSo 60 = .ok (.ifCond .ge 7, 3) := by decide +kernel
theorem dX10_isSo_63 : decode cX10_isSo 63 = .ok (.iconst 1, 1) := by decide +kernel
theorem dX10_isSo_64 : decode cX10_isSo 64 = .ok (.goto 4, 3) := by decide +kernel
theorem dX10_isSo_67 : decode cX10_isSo 67 = .ok (.iconst 0, 1) := by decide +kernel
theorem dX10_isSo_68 : decode cX10_isSo 68 = .ok (.ireturn, 1) := by decide +kernel
theorem dX10_isSo_69 : decode cX10_isSo 69 = .ok (.dload_n 2, 1) := by decide +kernel
theorem dX10_isSo_70 : decode cX10_isSo 70 = .ok (.dload 4, 2) := by decide +kernel
theorem dX10_isSo_72 : decode cX10_isSo 72 = .ok (.dcmp .l, 1) := by decide +kernel
theorem dX10_isSo_73 : decode cX10_isSo 73 = .ok (.ifCond .ne 7, 3) := by decide +kernel
theorem dX10_isSo_76 : decode cX10_isSo 76 = .ok (.iconst 1, 1) := by decide +kernel
theorem dX10_isSo_77 : decode cX10_isSo 77 = .ok (.goto 4, 3) := by decide +kernel
theorem dX10_isSo_80 : decode cX10_isSo 80 = .ok (.iconst 0, 1) := by decide +kernel
theorem dX10_isSo_81 : decode cX10_isSo 81 = .ok (.ireturn, 1) := by decide +kernel
theorem dX10_isSo_82 : decode cX10_isSo 82 = .ok (.dload_n 2, 1) := by decide +kernel
theorem dX10_isSo_83 : decode cX10_isSo 83 = .ok (.dload 4, 2) := by decide +kernel
theorem dX10_isSo_85 : decode cX10_isSo 85 = .ok (.dcmp .l, 1) := by decide +kernel
theorem dX10_isSo_86 : decode cX10_isSo 86 = .ok (.ifCond .eq 7, 3) := by decide +kernel
theorem dX10_isSo_89 : decode cX10_isSo 89 = .ok (.iconst 1, 1) := by decide +kernel
theorem dX10_isSo_90 : decode cX10_isSo 90 = .ok (.goto 4, 3) := by decide +kernel
theorem dX10_isSo_93 : decode cX10_isSo 93 = .ok (.iconst 0, 1) := by decide +kernel
theorem dX10_isSo_94 : decode cX10_isSo 94 = .ok (.ireturn, 1) := by decide +kernel
theorem dX10_isSo_95 : decode cX10_isSo 95 = .ok (.dload_n 2, 1) := by decide +kernel
theorem dX10_isSo_96 : decode cX10_isSo 96 = .ok (.dload 4, 2) := by decide +kernel
theorem dX10_isSo_98 : decode cX10_isSo 98 = .ok (.dcmp .l, 1) := by decide +kernel
theorem dX10_isSo_99 : decode cX10_isSo 99 = .ok (.ifCond .lt 7, 3) := by decide +kernel
theorem dX10_isSo_102 : decode cX10_isSo 102 = .ok (.iconst 1, 1) := by decide +kernel
theorem dX10_isSo_103 : decode cX10_isSo 103 = .ok (.goto 4, 3) := by decide +kernel
theorem dX10_isSo_106 : decode cX10_isSo 106 = .ok (.iconst 0, 1) := by decide +kernel
theorem dX10_isSo_107 : decode cX10_isSo 107 = .ok (.ireturn, 1) := by decide +kernel
theorem dX10_call_0 : decode cX10_call 0 = .ok (.aload_n 0, 1) := by decide +kernel
theorem dX10_call_1 : decode cX10_call 1 = .ok (.getfield 31, 3) := by decide +kernel
theorem dX10_call_4 : decode cX10_call 4 = .ok (.aload_n 0, 1) := by decide +kernel
theorem dX10_call_5 : decode cX10_call 5 = .ok (.getfield 13, 3) := by decide +kernel
theorem dX10_call_8 : decode cX10_call 8 = .ok (.iload_n 1, 1) := by decide +kernel
theorem dX10_call_9 : decode cX10_call 9 = .ok (.iaload, 1) := by decide +kernel
theorem dX10_call_10 : decode cX10_call 10 = .ok (.iaload, 1) := by decide +kernel
theorem dX10_call_11 : decode cX10_call 11 = .ok (.ifCond .gt 11, 3) := by decide +kernel
theorem dX10_call_14 : decode cX10_call 14 = .ok (.aload_n 0, 1) := by decide +kernel
theorem dX10_call_15 : decode cX10_call 15 = .ok (.getfield 163, 3) := by decide +kernel
theorem dX10_call_18 : decode cX10_call 18 = .ok (.iconst 4, 1) := by decide +kernel
theorem dX10_call_19 : decode cX10_call 19 = .ok (.if_icmp .ne 10, 3) := by decide +kernel
theorem dX10_call_22 : decode cX10_call 22 = .ok (.aload_n 0, 1) := by decide +kernel
theorem dX10_call_23 : decode cX10_call 23 = .ok (.bipush 10, 2) := by decide +kernel
theorem dX10_call_25 : decode cX10_call 25 = .ok (.invokevirtual 191, 3) := by decide +kernel
theorem dX10_call_28 : decode cX10_call 28 = .ok (.return_, 1) := by decide +kernel
theorem dX10_call_29 : decode cX10_call 29 = .ok (.aload_n 0, 1) := by decide +kernel
theorem dX10_call_30 : decode cX10_call 30 = .ok (.dup, 1) := by decide +kernel
theorem dX10_call_31 : decode cX10_call 31 = .ok (.getfield 163, 3) := by decide +kernel
theorem dX10_call_34 : decode cX10_call 34 = .ok (.iconst 1, 1) := by decide +kernel
theorem dX10_call_35 : decode cX10_call 35 = .ok (.iadd, 1) := by decide +kernel
theorem dX10_call_36 : decode cX10_call 36 = .ok (.putfield 163, 3) := by decide +kernel
theorem dX10_call_39 : decode cX10_call 39 = .ok (.aload_n 0, 1) := by decide +kernel
theorem dX10_call_40 : decode cX10_call 40 = .ok (.aload_n 0, 1) := by decide +kernel
theorem dX10_call_41 : decode cX10_call 41 = .ok (.getfield 13, 3) := by decide +kernel
theorem dX10_call_44 : decode cX10_call 44 = .ok (.iload_n 1, 1) := by decide +kernel
theorem dX10_call_45 : decode cX10_call 45 = .ok (.iaload, 1) := by decide +kernel
theorem dX10_call_46 : decode cX10_call 46 = .ok (.iload_n 1, 1) := by decide +kernel
theorem dX10_call_47 : decode cX10_call 47 = .ok (.iconst 1, 1) := by decide +kernel
theorem dX10_call_48 : decode cX10_call 48 = .ok (.iadd, 1) := by decide +kernel
theorem dX10_call_49 : decode cX10_call 49 = .ok (.invokevirtual 210, 3) := by decide +kernel
theorem dX10_call_52 : decode cX10_call 52 = .ok (.return_, 1) := by decide +kernel
theorem dX10_wrap_0 : decode cX10_wrap 0 = .ok (.aload_n 0, 1) := by decide +kernel
theorem dX10_wrap_1 : decode cX10_wrap 1 = .ok (.invokevirtual 221, 3) := by decide +kernel
theorem dX10_wrap_4 : decode cX10_wrap 4 = .ok (.istore_n 2, 1) := by decide +kernel
theorem dX10_wrap_5 : decode cX10_wrap 5 = .ok (.aload_n 0, 1) := by decide +kernel
theorem dX10_wrap_6 : decode cX10_wrap 6 = .ok (.getfield 72, 3) := by decide +kernel
theorem dX10_wrap_9 : decode cX10_wrap 9 = .ok (.iload_n 2, 1) := by decide +kernel
theorem dX10_wrap_10 : decode cX10_wrap 10 = .ok (.iaload, 1) := by decide +kernel
theorem dX10_wrap_11 : decode cX10_wrap 11 = .ok (.iconst 5, 1) := by decide +kernel
theorem dX10_wrap_12 : decode cX10_wrap 12 = .ok (.if_icmp .ne 12, 3) := by decide +kernel
theorem dX10_wrap_15 : decode cX10_wrap 15 = .ok (.aload_n 0, 1) := by decide +kernel
theorem dX10_wrap_16 : decode cX10_wrap 16 = .ok (.bipush 10, 2) := by decide +kernel
theorem dX10_wrap_18 : decode cX10_wrap 18 = .ok (.invokevirtual 191, 3) := by decide +kernel
theorem dX10_wrap_21 : decode cX10_wrap 21 = .ok (.goto 17, 3) := by decide +kernel
theorem dX10_wrap_24 : decode cX10_wrap 24 = .ok (.aload_n 0, 1) := by decide +kernel
theorem dX10_wrap_25 : decode cX10_wrap 25 = .ok (.bipush 11, 2) := by decide +kernel
theorem dX10_wrap_27 : decode cX10_wrap 27 = .ok (.iload_n 1, 1) := by decide +kernel
theorem dX10_wrap_28 : decode cX10_wrap 28 = .ok (.aload_n 0, 1) := by decide +kernel
theorem dX10_wrap_29 : decode cX10_wrap 29 = .ok (.getfield 13, 3) := by decide +kernel
theorem dX10_wrap_32 : decode cX10_wrap 32 = .ok (.iload_n 1, 1) := by decide +kernel
theorem dX10_wrap_33 : decode cX10_wrap 33 = .ok (.iaload, 1) := by decide +kernel
theorem dX10_wrap_34 : decode cX10_wrap 34 = .ok (.iload_n 2, 1) := by decide +kernel
theorem dX10_wrap_35 : decode cX10_wrap 35 = .ok (.invokevirtual 144, 3) := by decide +kernel
theorem dX10_wrap_38 : decode cX10_wrap 38 = .ok (.return_, 1) := by decide +kernel
theorem dX10_tell_0 : decode cX10_tell 0 = .ok (.aload_n 0, 1) := by decide +kernel
theorem dX10_tell_1 : decode cX10_tell 1 = .ok (.invokevirtual 221, 3) := by decide +kernel
theorem dX10_tell_4 : decode cX10_tell 4 = .ok (.istore_n 1, 1) := by decide +kernel
theorem dX10_tell_5 : decode cX10_tell 5 = .ok (.aload_n 0, 1) := by decide +kernel
theorem dX10_tell_6 : decode cX10_tell 6 = .ok (.aload_n 0, 1) := by decide +kernel
theorem dX10_tell_7 : decode cX10_tell 7 = .ok (.getfield 60, 3) := by decide +kernel
theorem dX10_tell_10 : decode cX10_tell 10 = .ok (.iload_n 1, 1) := by decide +kernel
theorem dX10_tell_11 : decode cX10_tell 11 = .ok (.iaload, 1) := by decide +kernel
theorem dX10_tell_12 : decode cX10_tell 12 = .ok (.i2d, 1) := by decide +kernel
theorem dX10_tell_13 : decode cX10_tell 13 = .ok (.invokevirtual 225, 3) := by decide +kernel
theorem dX10_tell_16 : decode cX10_tell 16 = .ok (.aload_n 0, 1) := by decide +kernel
theorem dX10_tell_17 : decode cX10_tell 17 = .ok (.aload_n 0, 1) := by decide +kernel
theorem dX10_tell_18 : decode cX10_tell 18 = .ok (.getfield 63, 3) := by decide +kernel
theorem dX10_tell_21 : decode cX10_tell 21 = .ok (.iload_n 1, 1) := by decide +kernel
theorem dX10_tell_22 : decode cX10_tell 22 = .ok (.iaload, 1) := by decide +kernel
theorem dX10_tell_23 : decode cX10_tell 23 = .ok (.i2d, 1) := by decide +kernel
theorem dX10_tell_24 : decode cX10_tell 24 = .ok (.invokevirtual 225, 3) := by decide +kernel
theorem dX10_tell_27 : decode cX10_tell 27 = .ok (.aload_n 0, 1) := by decide +kernel
theorem dX10_tell_28 : decode cX10_tell 28 = .ok (.aload_n 0, 1) := by decide +kernel
theorem dX10_tell_29 : decode cX10_tell 29 = .ok (.iload_n 1, 1) := by decide +kernel
theorem dX10_tell_30 : decode cX10_tell 30 = .ok (.invokevirtual 229, 3) := by decide +kernel
theorem dX10_tell_33 : decode cX10_tell 33 = .ok (.i2d, 1) := by decide +kernel
theorem dX10_tell_34 : decode cX10_tell 34 = .ok (.invokevirtual 225, 3) := by decide +kernel
theorem dX10_tell_37 : decode cX10_tell 37 = .ok (.aload_n 0, 1) := by decide +kernel
theorem dX10_tell_38 : decode cX10_tell 38 = .ok (.aload_n 0, 1) := by decide +kernel
theorem dX10_tell_39 : decode cX10_tell 39 = .ok (.getfield 72, 3) := by decide +kernel
theorem dX10_tell_42 : decode cX10_tell 42 = .ok (.iload_n 1, 1) := by decide +kernel
theorem dX10_tell_43 : decode cX10_tell 43 = .ok (.iaload, 1) := by decide +kernel
theorem dX10_tell_44 : decode cX10_tell 44 = .ok (.i2d, 1) := by decide +kernel
theorem dX10_tell_45 : decode cX10_tell 45 = .ok (.invokevirtual 225, 3) := by decide +kernel
theorem dX10_tell_48 : decode cX10_tell 48 = .ok (.aload_n 0, 1) := by decide +kernel
theorem dX10_tell_49 : decode cX10_tell 49 = .ok (.dup, 1) := by decide +kernel
theorem dX10_tell_50 : decode cX10_tell 50 = .ok (.getfield 141, 3) := by decide +kernel
theorem dX10_tell_53 : decode cX10_tell 53 = .ok (.iconst 1, 1) := by decide +kernel
theorem dX10_tell_54 : decode cX10_tell 54 = .ok (.iadd, 1) := by decide +kernel
theorem dX10_tell_55 : decode cX10_tell 55 = .ok (.putfield 141, 3) := by decide +kernel
theorem dX10_tell_58 : decode cX10_tell 58 = .ok (.return_, 1) := by decide +kernel
theorem dX10_order_0 : decode cX10_order 0 = .ok (.aload_n 0, 1) := by decide +kernel
theorem dX10_order_1 : decode cX10_order 1 = .ok (.getfield 7, 3) := by decide +kernel
theorem dX10_order_4 : decode cX10_order 4 = .ok (.iload_n 1, 1) := by decide +kernel
theorem dX10_order_5 : decode cX10_order 5 = .ok (.iaload, 1) := by decide +kernel
theorem dX10_order_6 : decode cX10_order 6 = .ok (.tableswitch 205 1 11 #[58, 205, 205, 78, 141, 149, 157, 174, 190, 198, 97], 58) := by decide +kernel
theorem dX10_order_64 : decode cX10_order 64 = .ok (.aload_n 0, 1) := by decide +kernel
theorem dX10_order_65 : decode cX10_order 65 = .ok (.iconst 3, 1) := by decide +kernel
theorem dX10_order_66 : decode cX10_order 66 = .ok (.iload_n 1, 1) := by decide +kernel
theorem dX10_order_67 : decode cX10_order 67 = .ok (.iconst 0, 1) := by decide +kernel
theorem dX10_order_68 : decode cX10_order 68 = .ok (.invokevirtual 159, 3) := by decide +kernel
theorem dX10_order_71 : decode cX10_order 71 = .ok (.aload_n 0, 1) := by decide +kernel
theorem dX10_order_72 : decode cX10_order 72 = .ok (.dup, 1) := by decide +kernel
theorem dX10_order_73 : decode cX10_order 73 = .ok (.getfield 141, 3) := by decide +kernel
theorem dX10_order_76 : decode cX10_order 76 = .ok (.iconst 1, 1) := by decide +kernel
theorem dX10_order_77 : decode cX10_order 77 = .ok (.iadd, 1) := by decide +kernel
theorem dX10_order_78 : decode cX10_order 78 = .ok (.putfield 141, 3) := by decide +kernel
theorem dX10_order_81 : decode cX10_order 81 = .ok (.goto 135, 3) := by decide +kernel
theorem dX10_order_84 : decode cX10_order 84 = .ok (.aload_n 0, 1) := by decide +kernel
theorem dX10_order_85 : decode cX10_order 85 = .ok (.iconst 1, 1) := by decide +kernel
theorem dX10_order_86 : decode cX10_order 86 = .ok (.iload_n 1, 1) := by decide +kernel
theorem dX10_order_87 : decode cX10_order 87 = .ok (.aload_n 0, 1) := by decide +kernel
theorem dX10_order_88 : decode cX10_order 88 = .ok (.getfield 13, 3) := by decide +kernel
theorem dX10_order_91 : decode cX10_order 91 = .ok (.iload_n 1, 1) := by decide +kernel
theorem dX10_order_92 : decode cX10_order 92 = .ok (.iaload, 1) := by decide +kernel
theorem dX10_order_93 : decode cX10_order 93 = .ok (.invokevirtual 159, 3) := by decide +kernel
theorem dX10_order_96 : decode cX10_order 96 = .ok (.aload_n 0, 1) := by decide +kernel
theorem dX10_order_97 : decode cX10_order 97 = .ok (.invokevirtual 195, 3) := by decide +kernel
theorem dX10_order_100 : decode cX10_order 100 = .ok (.goto 116, 3) := by decide +kernel
theorem dX10_order_103 : decode cX10_order 103 = .ok (.aload_n 0, 1) := by decide +kernel
theorem dX10_order_104 : decode cX10_order 104 = .ok (.iload_n 1, 1) := by decide +kernel
theorem dX10_order_105 : decode cX10_order 105 = .ok (.invokevirtual 232, 3) := by decide +kernel
theorem dX10_order_108 : decode cX10_order 108 = .ok (.ifCond .eq 10, 3) := by decide +kernel
theorem dX10_order_111 : decode cX10_order 111 = .ok (.aload_n 0, 1) := by decide +kernel
theorem dX10_order_112 : decode cX10_order 112 = .ok (.iconst 2, 1) := by decide +kernel
theorem dX10_order_113 : decode cX10_order 113 = .ok (.iload_n 1, 1) := by decide +kernel
theorem dX10_order_114 : decode cX10_order 114 = .ok (.iconst 0, 1) := by decide +kernel
theorem dX10_order_115 : decode cX10_order 115 = .ok (.invokevirtual 159, 3) := by decide +kernel
theorem dX10_order_118 : decode cX10_order 118 = .ok (.aload_n 0, 1) := by decide +kernel
theorem dX10_order_119 : decode cX10_order 119 = .ok (.aload_n 0, 1) := by decide +kernel
theorem dX10_order_120 : decode cX10_order 120 = .ok (.iload_n 1, 1) := by decide +kernel
theorem dX10_order_121 : decode cX10_order 121 = .ok (.invokevirtual 232, 3) := by decide +kernel
theorem dX10_order_124 : decode cX10_order 124 = .ok (.ifCond .eq 9, 3) := by decide +kernel
theorem dX10_order_127 : decode cX10_order 127 = .ok (.iload_n 1, 1) := by decide +kernel
theorem dX10_order_128 : decode cX10_order 128 = .ok (.iconst 1, 1) := by decide +kernel
theorem dX10_order_129 : decode cX10_order 129 = .ok (.iadd, 1) := by decide +kernel
theorem dX10_order_130 : decode cX10_order 130 = .ok (.goto 11, 3) := by decide +kernel
theorem dX10_order_133 : decode cX10_order 133 = .ok (.aload_n 0, 1) := by decide +kernel
theorem dX10_order_134 : decode cX10_order 134 = .ok (.getfield 22, 3) := by decide +kernel
theorem dX10_order_137 : decode cX10_order 137 = .ok (.iload_n 1, 1) := by decide +kernel
theorem dX10_order_138 : decode cX10_order 138 = .ok (.iaload, 1) := by decide +kernel
theorem dX10_order_139 : decode cX10_order 139 = .ok (.iconst 1, 1) := by decide +kernel
theorem dX10_order_140 : decode cX10_order 140 = .ok (.iadd, 1) := by decide +kernel
theorem dX10_order_141 : decode cX10_order 141 = .ok (.putfield 141, 3) := by decide +kernel
theorem dX10_order_144 : decode cX10_order 144 = .ok (.goto 72, 3) := by decide +kernel
theorem dX10_order_147 : decode cX10_order 147 = .ok (.aload_n 0, 1) := by decide +kernel
theorem dX10_order_148 : decode cX10_order 148 = .ok (.iconst 1, 1) := by decide +kernel
theorem dX10_order_149 : decode cX10_order 149 = .ok (.putfield 138, 3) := by decide +kernel
theorem dX10_order_152 : decode cX10_order 152 = .ok (.goto 64, 3) := by decide +kernel
theorem dX10_order_155 : decode cX10_order 155 = .ok (.aload_n 0, 1) := by decide +kernel
theorem dX10_order_156 : decode cX10_order 156 = .ok (.iconst 2, 1) := by decide +kernel
theorem dX10_order_157 : decode cX10_order 157 = .ok (.putfield 138, 3) := by decide +kernel
theorem dX10_order_160 : decode cX10_order 160 = .ok (.goto 56, 3) := by decide +kernel
theorem dX10_order_163 : decode cX10_order 163 = .ok (.aload_n 0, 1) := by decide +kernel
theorem dX10_order_164 : decode cX10_order 164 = .ok (.bipush 9, 2) := by decide +kernel
theorem dX10_order_166 : decode cX10_order 166 = .ok (.iload_n 1, 1) := by decide +kernel
theorem dX10_order_167 : decode cX10_order 167 = .ok (.aload_n 0, 1) := by decide +kernel
theorem dX10_order_168 : decode cX10_order 168 = .ok (.getfield 13, 3) := by decide +kernel
theorem dX10_order_171 : decode cX10_order 171 = .ok (.iload_n 1, 1) := by decide +kernel
theorem dX10_order_172 : decode cX10_order 172 = .ok (.iaload, 1) := by decide +kernel
theorem dX10_order_173 : decode cX10_order 173 = .ok (.iconst (-1), 1) := by decide +kernel
theorem dX10_order_174 : decode cX10_order 174 = .ok (.invokevirtual 144, 3) := by decide +kernel
theorem dX10_order_177 : decode cX10_order 177 = .ok (.goto 39, 3) := by decide +kernel
theorem dX10_order_180 : decode cX10_order 180 = .ok (.aload_n 0, 1) := by decide +kernel
theorem dX10_order_181 : decode cX10_order 181 = .ok (.aload_n 0, 1) := by decide +kernel
theorem dX10_order_182 : decode cX10_order 182 = .ok (.invokevirtual 221, 3) := by decide +kernel
theorem dX10_order_185 : decode cX10_order 185 = .ok (.putfield 135, 3) := by decide +kernel
theorem dX10_order_188 : decode cX10_order 188 = .ok (.aload_n 0, 1) := by decide +kernel
theorem dX10_order_189 : decode cX10_order 189 = .ok (.iconst 3, 1) := by decide +kernel
theorem dX10_order_190 : decode cX10_order 190 = .ok (.putfield 138, 3) := by decide +kernel
theorem dX10_order_193 : decode cX10_order 193 = .ok (.goto 23, 3) := by decide +kernel
theorem dX10_order_196 : decode cX10_order 196 = .ok (.aload_n 0, 1) := by decide +kernel
theorem dX10_order_197 : decode cX10_order 197 = .ok (.iload_n 1, 1) := by decide +kernel
theorem dX10_order_198 : decode cX10_order 198 = .ok (.invokevirtual 235, 3) := by decide +kernel
theorem dX10_order_201 : decode cX10_order 201 = .ok (.goto 15, 3) := by decide +kernel
theorem dX10_order_204 : decode cX10_order 204 = .ok (.aload_n 0, 1) := by decide +kernel
theorem dX10_order_205 : decode cX10_order 205 = .ok (.invokevirtual 238, 3) := by decide +kernel
theorem dX10_order_208 : decode cX10_order 208 = .ok (.goto 8, 3) := by decide +kernel
theorem dX10_order_211 : decode cX10_order 211 = .ok (.aload_n 0, 1) := by decide +kernel
theorem dX10_order_212 : decode cX10_order 212 = .ok (.iload_n 1, 1) := by decide +kernel
theorem dX10_order_213 : decode cX10_order 213 = .ok (.invokevirtual 241, 3) := by decide +kernel
theorem dX10_order_216 : decode cX10_order 216 = .ok (.return_, 1) := by decide +kernel
theorem dX10_faultOf_0 : decode cX10_faultOf 0 = .ok (.aload_n 0, 1) := by decide +kernel
theorem dX10_faultOf_1 : decode cX10_faultOf 1 = .ok (.getfield 47, 3) := by decide +kernel
theorem dX10_faultOf_4 : decode cX10_faultOf 4 = .ok (.iload_n 1, 1) := by decide +kernel
theorem dX10_faultOf_5 : decode cX10_faultOf 5 = .ok (.baload, 1) := by decide +kernel
theorem dX10_faultOf_6 : decode cX10_faultOf 6 = .ok (.ifCond .ne 5, 3) := by decide +kernel
theorem dX10_faultOf_9 : decode cX10_faultOf 9 = .ok (.iconst 3, 1) := by decide +kernel
theorem dX10_faultOf_10 : decode cX10_faultOf 10 = .ok (.ireturn, 1) := by decide +kernel
theorem dX10_faultOf_11 : decode cX10_faultOf 11 = .ok (.iload_n 2, 1) := by decide +kernel
theorem dX10_faultOf_12 : decode cX10_faultOf 12 = .ok (.iconst 0, 1) := by decide +kernel
theorem dX10_faultOf_13 : decode cX10_faultOf 13 = .ok (.aload_n 0, 1) := by decide +kernel
theorem dX10_faultOf_14 : decode cX10_faultOf 14 = .ok (.getfield 51, 3) := by decide +kernel
theorem dX10_faultOf_17 : decode cX10_faultOf 17 = .ok (.iload_n 1, 1) := by decide +kernel
theorem dX10_faultOf_18 : decode cX10_faultOf 18 = .ok (.iaload, 1) := by decide +kernel
theorem dX10_faultOf_19 : decode cX10_faultOf 19 = .ok (.iconst 1, 1) := by decide +kernel
theorem dX10_faultOf_20 : decode cX10_faultOf 20 = .ok (.isub, 1) := by decide +kernel
theorem dX10_faultOf_21 : decode cX10_faultOf 21 = .ok (.invokestatic 100, 3) := by decide +kernel
theorem dX10_faultOf_24 : decode cX10_faultOf 24 = .ok (.ifCond .ne 5, 3) := by decide +kernel
theorem dX10_faultOf_27 : decode cX10_faultOf 27 = .ok (.iconst 4, 1) := by decide +kernel
theorem dX10_faultOf_28 : decode cX10_faultOf 28 = .ok (.ireturn, 1) := by decide +kernel
theorem dX10_faultOf_29 : decode cX10_faultOf 29 = .ok (.iload_n 3, 1) := by decide +kernel
theorem dX10_faultOf_30 : decode cX10_faultOf 30 = .ok (.ifCond .eq 27, 3) := by decide +kernel
theorem dX10_faultOf_33 : decode cX10_faultOf 33 = .ok (.iload_n 1, 1) := by decide +kernel
theorem dX10_faultOf_34 : decode cX10_faultOf 34 = .ok (.bipush 16, 2) := by decide +kernel
theorem dX10_faultOf_36 : decode cX10_faultOf 36 = .ok (.if_icmp .lt 21, 3) := by decide +kernel
theorem dX10_faultOf_39 : decode cX10_faultOf 39 = .ok (.aload_n 0, 1) := by decide +kernel
theorem dX10_faultOf_40 : decode cX10_faultOf 40 = .ok (.getfield 57, 3) := by decide +kernel
theorem dX10_faultOf_43 : decode cX10_faultOf 43 = .ok (.bipush 16, 2) := by decide +kernel
theorem dX10_faultOf_45 : decode cX10_faultOf 45 = .ok (.iload_n 1, 1) := by decide +kernel
theorem dX10_faultOf_46 : decode cX10_faultOf 46 = .ok (.imul, 1) := by decide +kernel
theorem dX10_faultOf_47 : decode cX10_faultOf 47 = .ok (.iload_n 2, 1) := by decide +kernel
theorem dX10_faultOf_48 : decode cX10_faultOf 48 = .ok (.iadd, 1) := by decide +kernel
theorem dX10_faultOf_49 : decode cX10_faultOf 49 = .ok (.baload, 1) := by decide +kernel
theorem dX10_faultOf_50 : decode cX10_faultOf 50 = .ok (.ifCond .ne 7, 3) := by decide +kernel
theorem dX10_faultOf_53 : decode cX10_faultOf 53 = .ok (.iconst 3, 1) := by decide +kernel
theorem dX10_faultOf_54 : decode cX10_faultOf 54 = .ok (.goto 4, 3) := by decide +kernel
theorem dX10_faultOf_57 : decode cX10_faultOf 57 = .ok (.iconst 0, 1) := by decide +kernel
theorem dX10_faultOf_58 : decode cX10_faultOf 58 = .ok (.ireturn, 1) := by decide +kernel
theorem dX10_kept_0 : decode cX10_kept 0 = .ok (.iload_n 0, 1) := by decide +kernel
theorem dX10_kept_1 : decode cX10_kept 1 = .ok (.tableswitch 82 0 6 #[43, 55, 60, 65, 70, 74, 78], 43) := by decide +kernel
theorem dX10_kept_44 : decode cX10_kept 44 = .ok (.dload_n 1, 1) := by decide +kernel
theorem dX10_kept_45 : decode cX10_kept 45 = .ok (.dconst 0, 1) := by decide +kernel
theorem dX10_kept_46 : decode cX10_kept 46 = .ok (.dcmp .l, 1) := by decide +kernel
theorem dX10_kept_47 : decode cX10_kept 47 = .ok (.ifCond .eq 7, 3) := by decide +kernel
theorem dX10_kept_50 : decode cX10_kept 50 = .ok (.dconst 1, 1) := by decide +kernel
theorem dX10_kept_51 : decode cX10_kept 51 = .ok (.goto 4, 3) := by decide +kernel
theorem dX10_kept_54 : decode cX10_kept 54 = .ok (.dconst 0, 1) := by decide +kernel
theorem dX10_kept_55 : decode cX10_kept 55 = .ok (.dreturn, 1) := by decide +kernel
theorem dX10_kept_56 : decode cX10_kept 56 = .ok (.dload_n 1, 1) := by decide +kernel
theorem dX10_kept_57 : decode cX10_kept 57 = .ok (.d2i, 1) := by decide +kernel
theorem dX10_kept_58 : decode cX10_kept 58 = .ok (.i2b, 1) := by decide +kernel
theorem dX10_kept_59 : decode cX10_kept 59 = .ok (.i2d, 1) := by decide +kernel
theorem dX10_kept_60 : decode cX10_kept 60 = .ok (.dreturn, 1) := by decide +kernel
theorem dX10_kept_61 : decode cX10_kept 61 = .ok (.dload_n 1, 1) := by decide +kernel
theorem dX10_kept_62 : decode cX10_kept 62 = .ok (.d2i, 1) := by decide +kernel
theorem dX10_kept_63 : decode cX10_kept 63 = .ok (.i2c, 1) := by decide +kernel
theorem dX10_kept_64 : decode cX10_kept 64 = .ok (.i2d, 1) := by decide +kernel
theorem dX10_kept_65 : decode cX10_kept 65 = .ok (.dreturn, 1) := by decide +kernel
theorem dX10_kept_66 : decode cX10_kept 66 = .ok (.dload_n 1, 1) := by decide +kernel
theorem dX10_kept_67 : decode cX10_kept 67 = .ok (.d2i, 1) := by decide +kernel
theorem dX10_kept_68 : decode cX10_kept 68 = .ok (.i2s, 1) := by decide +kernel
theorem dX10_kept_69 : decode cX10_kept 69 = .ok (.i2d, 1) := by decide +kernel
theorem dX10_kept_70 : decode cX10_kept 70 = .ok (.dreturn, 1) := by decide +kernel
theorem dX10_kept_71 : decode cX10_kept 71 = .ok (.dload_n 1, 1) := by decide +kernel
theorem dX10_kept_72 : decode cX10_kept 72 = .ok (.d2i, 1) := by decide +kernel
theorem dX10_kept_73 : decode cX10_kept 73 = .ok (.i2d, 1) := by decide +kernel
theorem dX10_kept_74 : decode cX10_kept 74 = .ok (.dreturn, 1) := by decide +kernel
theorem dX10_kept_75 : decode cX10_kept 75 = .ok (.dload_n 1, 1) := by decide +kernel
theorem dX10_kept_76 : decode cX10_kept 76 = .ok (.d2l, 1) := by decide +kernel
theorem dX10_kept_77 : decode cX10_kept 77 = .ok (.l2d, 1) := by decide +kernel
theorem dX10_kept_78 : decode cX10_kept 78 = .ok (.dreturn, 1) := by decide +kernel
theorem dX10_kept_79 : decode cX10_kept 79 = .ok (.dload_n 1, 1) := by decide +kernel
theorem dX10_kept_80 : decode cX10_kept 80 = .ok (.d2f, 1) := by decide +kernel
theorem dX10_kept_81 : decode cX10_kept 81 = .ok (.f2d, 1) := by decide +kernel
theorem dX10_kept_82 : decode cX10_kept 82 = .ok (.dreturn, 1) := by decide +kernel
theorem dX10_kept_83 : decode cX10_kept 83 = .ok (.dload_n 1, 1) := by decide +kernel
theorem dX10_kept_84 : decode cX10_kept 84 = .ok (.dreturn, 1) := by decide +kernel
theorem dX10_make_0 : decode cX10_make 0 = .ok (.iload_n 2, 1) := by decide +kernel
theorem dX10_make_1 : decode cX10_make 1 = .ok (.bipush 16, 2) := by decide +kernel
theorem dX10_make_3 : decode cX10_make 3 = .ok (.if_icmp .le 12, 3) := by decide +kernel
theorem dX10_make_6 : decode cX10_make 6 = .ok (.aload_n 0, 1) := by decide +kernel
theorem dX10_make_7 : decode cX10_make 7 = .ok (.bipush 8, 2) := by decide +kernel
theorem dX10_make_9 : decode cX10_make 9 = .ok (.invokevirtual 191, 3) := by decide +kernel
theorem dX10_make_12 : decode cX10_make 12 = .ok (.goto 67, 3) := by decide +kernel
theorem dX10_make_15 : decode cX10_make 15 = .ok (.iload_n 2, 1) := by decide +kernel
theorem dX10_make_16 : decode cX10_make 16 = .ok (.ifCond .ge 11, 3) := by decide +kernel
theorem dX10_make_19 : decode cX10_make 19 = .ok (.aload_n 0, 1) := by decide +kernel
theorem dX10_make_20 : decode cX10_make 20 = .ok (.iconst 5, 1) := by decide +kernel
theorem dX10_make_21 : decode cX10_make 21 = .ok (.invokevirtual 191, 3) := by decide +kernel
theorem dX10_make_24 : decode cX10_make 24 = .ok (.goto 55, 3) := by decide +kernel
theorem dX10_make_27 : decode cX10_make 27 = .ok (.aload_n 0, 1) := by decide +kernel
theorem dX10_make_28 : decode cX10_make 28 = .ok (.getfield 47, 3) := by decide +kernel
theorem dX10_make_31 : decode cX10_make 31 = .ok (.iload_n 1, 1) := by decide +kernel
theorem dX10_make_32 : decode cX10_make 32 = .ok (.iconst 1, 1) := by decide +kernel
theorem dX10_make_33 : decode cX10_make 33 = .ok (.bastore, 1) := by decide +kernel
theorem dX10_make_34 : decode cX10_make 34 = .ok (.aload_n 0, 1) := by decide +kernel
theorem dX10_make_35 : decode cX10_make 35 = .ok (.getfield 51, 3) := by decide +kernel
theorem dX10_make_38 : decode cX10_make 38 = .ok (.iload_n 1, 1) := by decide +kernel
theorem dX10_make_39 : decode cX10_make 39 = .ok (.iload_n 2, 1) := by decide +kernel
theorem dX10_make_40 : decode cX10_make 40 = .ok (.iastore, 1) := by decide +kernel
theorem dX10_make_41 : decode cX10_make 41 = .ok (.iconst 0, 1) := by decide +kernel
theorem dX10_make_42 : decode cX10_make 42 = .ok (.istore_n 3, 1) := by decide +kernel
theorem dX10_make_43 : decode cX10_make 43 = .ok (.iload_n 3, 1) := by decide +kernel
theorem dX10_make_44 : decode cX10_make 44 = .ok (.bipush 16, 2) := by decide +kernel
theorem dX10_make_46 : decode cX10_make 46 = .ok (.if_icmp .ge 33, 3) := by decide +kernel
theorem dX10_make_49 : decode cX10_make 49 = .ok (.aload_n 0, 1) := by decide +kernel
theorem dX10_make_50 : decode cX10_make 50 = .ok (.getfield 54, 3) := by decide +kernel
theorem dX10_make_53 : decode cX10_make 53 = .ok (.bipush 16, 2) := by decide +kernel
theorem dX10_make_55 : decode cX10_make 55 = .ok (.iload_n 1, 1) := by decide +kernel
theorem dX10_make_56 : decode cX10_make 56 = .ok (.imul, 1) := by decide +kernel
theorem dX10_make_57 : decode cX10_make 57 = .ok (.iload_n 3, 1) := by decide +kernel
theorem dX10_make_58 : decode cX10_make 58 = .ok (.iadd, 1) := by decide +kernel
theorem dX10_make_59 : decode cX10_make 59 = .ok (.dconst 0, 1) := by decide +kernel
theorem dX10_make_60 : decode cX10_make 60 = .ok (.dastore, 1) := by decide +kernel
theorem dX10_make_61 : decode cX10_make 61 = .ok (.aload_n 0, 1) := by decide +kernel
theorem dX10_make_62 : decode cX10_make 62 = .ok (.getfield 57, 3) := by decide +kernel
theorem dX10_make_65 : decode cX10_make 65 = .ok (.bipush 16, 2) := by decide +kernel
theorem dX10_make_67 : decode cX10_make 67 = .ok (.iload_n 1, 1) := by decide +kernel
theorem dX10_make_68 : decode cX10_make 68 = .ok (.imul, 1) := by decide +kernel
theorem dX10_make_69 : decode cX10_make 69 = .ok (.iload_n 3, 1) := by decide +kernel
theorem dX10_make_70 : decode cX10_make 70 = .ok (.iadd, 1) := by decide +kernel
theorem dX10_make_71 : decode cX10_make 71 = .ok (.iconst 0, 1) := by decide +kernel
theorem dX10_make_72 : decode cX10_make 72 = .ok (.bastore, 1) := by decide +kernel
theorem dX10_make_73 : decode cX10_make 73 = .ok (.iinc 3 1, 3) := by decide +kernel
theorem dX10_make_76 : decode cX10_make 76 = .ok (.goto (-33), 3) := by decide +kernel
theorem dX10_make_79 : decode cX10_make 79 = .ok (.return_, 1) := by decide +kernel
theorem dX10_onRow_0 : decode cX10_onRow 0 = .ok (.aload_n 0, 1) := by decide +kernel
theorem dX10_onRow_1 : decode cX10_onRow 1 = .ok (.getfield 13, 3) := by decide +kernel
theorem dX10_onRow_4 : decode cX10_onRow 4 = .ok (.iload_n 1, 1) := by decide +kernel
theorem dX10_onRow_5 : decode cX10_onRow 5 = .ok (.iaload, 1) := by decide +kernel
theorem dX10_onRow_6 : decode cX10_onRow 6 = .ok (.istore_n 2, 1) := by decide +kernel
theorem dX10_onRow_7 : decode cX10_onRow 7 = .ok (.aload_n 0, 1) := by decide +kernel
theorem dX10_onRow_8 : decode cX10_onRow 8 = .ok (.getfield 43, 3) := by decide +kernel
theorem dX10_onRow_11 : decode cX10_onRow 11 = .ok (.aload_n 0, 1) := by decide +kernel
theorem dX10_onRow_12 : decode cX10_onRow 12 = .ok (.getfield 16, 3) := by decide +kernel
theorem dX10_onRow_15 : decode cX10_onRow 15 = .ok (.iload_n 1, 1) := by decide +kernel
theorem dX10_onRow_16 : decode cX10_onRow 16 = .ok (.iaload, 1) := by decide +kernel
theorem dX10_onRow_17 : decode cX10_onRow 17 = .ok (.daload, 1) := by decide +kernel
theorem dX10_onRow_18 : decode cX10_onRow 18 = .ok (.d2i, 1) := by decide +kernel
theorem dX10_onRow_19 : decode cX10_onRow 19 = .ok (.istore_n 3, 1) := by decide +kernel
theorem dX10_onRow_20 : decode cX10_onRow 20 = .ok (.aload_n 0, 1) := by decide +kernel
theorem dX10_onRow_21 : decode cX10_onRow 21 = .ok (.iload_n 2, 1) := by decide +kernel
theorem dX10_onRow_22 : decode cX10_onRow 22 = .ok (.iload_n 3, 1) := by decide +kernel
theorem dX10_onRow_23 : decode cX10_onRow 23 = .ok (.aload_n 0, 1) := by decide +kernel
theorem dX10_onRow_24 : decode cX10_onRow 24 = .ok (.getfield 7, 3) := by decide +kernel
theorem dX10_onRow_27 : decode cX10_onRow 27 = .ok (.iload_n 1, 1) := by decide +kernel
theorem dX10_onRow_28 : decode cX10_onRow 28 = .ok (.iaload, 1) := by decide +kernel
theorem dX10_onRow_29 : decode cX10_onRow 29 = .ok (.bipush 18, 2) := by decide +kernel
theorem dX10_onRow_31 : decode cX10_onRow 31 = .ok (.if_icmp .eq 7, 3) := by decide +kernel
theorem dX10_onRow_34 : decode cX10_onRow 34 = .ok (.iconst 1, 1) := by decide +kernel
theorem dX10_onRow_35 : decode cX10_onRow 35 = .ok (.goto 4, 3) := by decide +kernel
theorem dX10_onRow_38 : decode cX10_onRow 38 = .ok (.iconst 0, 1) := by decide +kernel
theorem dX10_onRow_39 : decode cX10_onRow 39 = .ok (.invokevirtual 244, 3) := by decide +kernel
theorem dX10_onRow_42 : decode cX10_onRow 42 = .ok (.istore 4, 2) := by decide +kernel
theorem dX10_onRow_44 : decode cX10_onRow 44 = .ok (.iload 4, 2) := by decide +kernel
theorem dX10_onRow_46 : decode cX10_onRow 46 = .ok (.ifCond .le 12, 3) := by decide +kernel
theorem dX10_onRow_49 : decode cX10_onRow 49 = .ok (.aload_n 0, 1) := by decide +kernel
theorem dX10_onRow_50 : decode cX10_onRow 50 = .ok (.iload 4, 2) := by decide +kernel
theorem dX10_onRow_52 : decode cX10_onRow 52 = .ok (.invokevirtual 191, 3) := by decide +kernel
theorem dX10_onRow_55 : decode cX10_onRow 55 = .ok (.goto 105, 3) := by decide +kernel
theorem dX10_onRow_58 : decode cX10_onRow 58 = .ok (.aload_n 0, 1) := by decide +kernel
theorem dX10_onRow_59 : decode cX10_onRow 59 = .ok (.getfield 7, 3) := by decide +kernel
theorem dX10_onRow_62 : decode cX10_onRow 62 = .ok (.iload_n 1, 1) := by decide +kernel
theorem dX10_onRow_63 : decode cX10_onRow 63 = .ok (.iaload, 1) := by decide +kernel
theorem dX10_onRow_64 : decode cX10_onRow 64 = .ok (.bipush 16, 2) := by decide +kernel
theorem dX10_onRow_66 : decode cX10_onRow 66 = .ok (.if_icmp .ne 28, 3) := by decide +kernel
theorem dX10_onRow_69 : decode cX10_onRow 69 = .ok (.aload_n 0, 1) := by decide +kernel
theorem dX10_onRow_70 : decode cX10_onRow 70 = .ok (.getfield 43, 3) := by decide +kernel
theorem dX10_onRow_73 : decode cX10_onRow 73 = .ok (.aload_n 0, 1) := by decide +kernel
theorem dX10_onRow_74 : decode cX10_onRow 74 = .ok (.getfield 19, 3) := by decide +kernel
theorem dX10_onRow_77 : decode cX10_onRow 77 = .ok (.iload_n 1, 1) := by decide +kernel
theorem dX10_onRow_78 : decode cX10_onRow 78 = .ok (.iaload, 1) := by decide +kernel
theorem dX10_onRow_79 : decode cX10_onRow 79 = .ok (.aload_n 0, 1) := by decide +kernel
theorem dX10_onRow_80 : decode cX10_onRow 80 = .ok (.getfield 54, 3) := by decide +kernel
theorem dX10_onRow_83 : decode cX10_onRow 83 = .ok (.bipush 16, 2) := by decide +kernel
theorem dX10_onRow_85 : decode cX10_onRow 85 = .ok (.iload_n 2, 1) := by decide +kernel
theorem dX10_onRow_86 : decode cX10_onRow 86 = .ok (.imul, 1) := by decide +kernel
theorem dX10_onRow_87 : decode cX10_onRow 87 = .ok (.iload_n 3, 1) := by decide +kernel
theorem dX10_onRow_88 : decode cX10_onRow 88 = .ok (.iadd, 1) := by decide +kernel
theorem dX10_onRow_89 : decode cX10_onRow 89 = .ok (.daload, 1) := by decide +kernel
theorem dX10_onRow_90 : decode cX10_onRow 90 = .ok (.dastore, 1) := by decide +kernel
theorem dX10_onRow_91 : decode cX10_onRow 91 = .ok (.goto 69, 3) := by decide +kernel
theorem dX10_onRow_94 : decode cX10_onRow 94 = .ok (.aload_n 0, 1) := by decide +kernel
theorem dX10_onRow_95 : decode cX10_onRow 95 = .ok (.getfield 7, 3) := by decide +kernel
theorem dX10_onRow_98 : decode cX10_onRow 98 = .ok (.iload_n 1, 1) := by decide +kernel
theorem dX10_onRow_99 : decode cX10_onRow 99 = .ok (.iaload, 1) := by decide +kernel
theorem dX10_onRow_100 : decode cX10_onRow 100 = .ok (.bipush 17, 2) := by decide +kernel
theorem dX10_onRow_102 : decode cX10_onRow 102 = .ok (.if_icmp .ne 34, 3) := by decide +kernel
theorem dX10_onRow_105 : decode cX10_onRow 105 = .ok (.aload_n 0, 1) := by decide +kernel
theorem dX10_onRow_106 : decode cX10_onRow 106 = .ok (.getfield 54, 3) := by decide +kernel
theorem dX10_onRow_109 : decode cX10_onRow 109 = .ok (.bipush 16, 2) := by decide +kernel
theorem dX10_onRow_111 : decode cX10_onRow 111 = .ok (.iload_n 2, 1) := by decide +kernel
theorem dX10_onRow_112 : decode cX10_onRow 112 = .ok (.imul, 1) := by decide +kernel
theorem dX10_onRow_113 : decode cX10_onRow 113 = .ok (.iload_n 3, 1) := by decide +kernel
theorem dX10_onRow_114 : decode cX10_onRow 114 = .ok (.iadd, 1) := by decide +kernel
theorem dX10_onRow_115 : decode cX10_onRow 115 = .ok (.iload_n 2, 1) := by decide +kernel
theorem dX10_onRow_116 : decode cX10_onRow 116 = .ok (.iconst 2, 1) := by decide +kernel
theorem dX10_onRow_117 : decode cX10_onRow 117 = .ok (.idiv, 1) := by decide +kernel
theorem dX10_onRow_118 : decode cX10_onRow 118 = .ok (.aload_n 0, 1) := by decide +kernel
theorem dX10_onRow_119 : decode cX10_onRow 119 = .ok (.getfield 43, 3) := by decide +kernel
theorem dX10_onRow_122 : decode cX10_onRow 122 = .ok (.aload_n 0, 1) := by decide +kernel
theorem dX10_onRow_123 : decode cX10_onRow 123 = .ok (.getfield 19, 3) := by decide +kernel
theorem dX10_onRow_126 : decode cX10_onRow 126 = .ok (.iload_n 1, 1) := by decide +kernel
theorem dX10_onRow_127 : decode cX10_onRow 127 = .ok (.iaload, 1) := by decide +kernel
theorem dX10_onRow_128 : decode cX10_onRow 128 = .ok (.daload, 1) := by decide +kernel
theorem dX10_onRow_129 : decode cX10_onRow 129 = .ok (.invokestatic 248, 3) := by decide +kernel
theorem dX10_onRow_132 : decode cX10_onRow 132 = .ok (.dastore, 1) := by decide +kernel
theorem dX10_onRow_133 : decode cX10_onRow 133 = .ok (.goto 27, 3) := by decide +kernel
theorem dX10_onRow_136 : decode cX10_onRow 136 = .ok (.aload_n 0, 1) := by decide +kernel
theorem dX10_onRow_137 : decode cX10_onRow 137 = .ok (.getfield 57, 3) := by decide +kernel
theorem dX10_onRow_140 : decode cX10_onRow 140 = .ok (.bipush 16, 2) := by decide +kernel
theorem dX10_onRow_142 : decode cX10_onRow 142 = .ok (.iload_n 2, 1) := by decide +kernel
theorem dX10_onRow_143 : decode cX10_onRow 143 = .ok (.imul, 1) := by decide +kernel
theorem dX10_onRow_144 : decode cX10_onRow 144 = .ok (.iload_n 3, 1) := by decide +kernel
theorem dX10_onRow_145 : decode cX10_onRow 145 = .ok (.iadd, 1) := by decide +kernel
theorem dX10_onRow_146 : decode cX10_onRow 146 = .ok (.iconst 1, 1) := by decide +kernel
theorem dX10_onRow_147 : decode cX10_onRow 147 = .ok (.bastore, 1) := by decide +kernel
theorem dX10_onRow_148 : decode cX10_onRow 148 = .ok (.aload_n 0, 1) := by decide +kernel
theorem dX10_onRow_149 : decode cX10_onRow 149 = .ok (.getfield 54, 3) := by decide +kernel
theorem dX10_onRow_152 : decode cX10_onRow 152 = .ok (.bipush 16, 2) := by decide +kernel
theorem dX10_onRow_154 : decode cX10_onRow 154 = .ok (.iload_n 2, 1) := by decide +kernel
theorem dX10_onRow_155 : decode cX10_onRow 155 = .ok (.imul, 1) := by decide +kernel
theorem dX10_onRow_156 : decode cX10_onRow 156 = .ok (.iload_n 3, 1) := by decide +kernel
theorem dX10_onRow_157 : decode cX10_onRow 157 = .ok (.iadd, 1) := by decide +kernel
theorem dX10_onRow_158 : decode cX10_onRow 158 = .ok (.dconst 0, 1) := by decide +kernel
theorem dX10_onRow_159 : decode cX10_onRow 159 = .ok (.dastore, 1) := by decide +kernel
theorem dX10_onRow_160 : decode cX10_onRow 160 = .ok (.return_, 1) := by decide +kernel
theorem dX10_work_0 : decode cX10_work 0 = .ok (.aload_n 0, 1) := by decide +kernel
theorem dX10_work_1 : decode cX10_work 1 = .ok (.getfield 13, 3) := by decide +kernel
theorem dX10_work_4 : decode cX10_work 4 = .ok (.iload_n 1, 1) := by decide +kernel
theorem dX10_work_5 : decode cX10_work 5 = .ok (.iaload, 1) := by decide +kernel
theorem dX10_work_6 : decode cX10_work 6 = .ok (.istore_n 2, 1) := by decide +kernel
theorem dX10_work_7 : decode cX10_work 7 = .ok (.aload_n 0, 1) := by decide +kernel
theorem dX10_work_8 : decode cX10_work 8 = .ok (.getfield 16, 3) := by decide +kernel
theorem dX10_work_11 : decode cX10_work 11 = .ok (.iload_n 1, 1) := by decide +kernel
theorem dX10_work_12 : decode cX10_work 12 = .ok (.iaload, 1) := by decide +kernel
theorem dX10_work_13 : decode cX10_work 13 = .ok (.istore_n 3, 1) := by decide +kernel
theorem dX10_work_14 : decode cX10_work 14 = .ok (.aload_n 0, 1) := by decide +kernel
theorem dX10_work_15 : decode cX10_work 15 = .ok (.getfield 7, 3) := by decide +kernel
theorem dX10_work_18 : decode cX10_work 18 = .ok (.iload_n 1, 1) := by decide +kernel
theorem dX10_work_19 : decode cX10_work 19 = .ok (.iaload, 1) := by decide +kernel
theorem dX10_work_20 : decode cX10_work 20 = .ok (.tableswitch 182 13 24 #[64, 79, 89, 182, 182, 182, 122, 137, 145, 153, 161, 169], 64) := by decide +kernel
theorem dX10_work_84 : decode cX10_work 84 = .ok (.aload_n 0, 1) := by decide +kernel
theorem dX10_work_85 : decode cX10_work 85 = .ok (.iload_n 2, 1) := by decide +kernel
theorem dX10_work_86 : decode cX10_work 86 = .ok (.aload_n 0, 1) := by decide +kernel
theorem dX10_work_87 : decode cX10_work 87 = .ok (.getfield 43, 3) := by decide +kernel
theorem dX10_work_90 : decode cX10_work 90 = .ok (.iload_n 3, 1) := by decide +kernel
theorem dX10_work_91 : decode cX10_work 91 = .ok (.daload, 1) := by decide +kernel
theorem dX10_work_92 : decode cX10_work 92 = .ok (.d2i, 1) := by decide +kernel
theorem dX10_work_93 : decode cX10_work 93 = .ok (.invokevirtual 252, 3) := by decide +kernel
theorem dX10_work_96 : decode cX10_work 96 = .ok (.goto 111, 3) := by decide +kernel
theorem dX10_work_99 : decode cX10_work 99 = .ok (.aload_n 0, 1) := by decide +kernel
theorem dX10_work_100 : decode cX10_work 100 = .ok (.getfield 47, 3) := by decide +kernel
theorem dX10_work_103 : decode cX10_work 103 = .ok (.iload_n 2, 1) := by decide +kernel
theorem dX10_work_104 : decode cX10_work 104 = .ok (.iconst 0, 1) := by decide +kernel
theorem dX10_work_105 : decode cX10_work 105 = .ok (.bastore, 1) := by decide +kernel
theorem dX10_work_106 : decode cX10_work 106 = .ok (.goto 101, 3) := by decide +kernel
theorem dX10_work_109 : decode cX10_work 109 = .ok (.aload_n 0, 1) := by decide +kernel
theorem dX10_work_110 : decode cX10_work 110 = .ok (.getfield 47, 3) := by decide +kernel
theorem dX10_work_113 : decode cX10_work 113 = .ok (.iload_n 2, 1) := by decide +kernel
theorem dX10_work_114 : decode cX10_work 114 = .ok (.baload, 1) := by decide +kernel
theorem dX10_work_115 : decode cX10_work 115 = .ok (.ifCond .eq 19, 3) := by decide +kernel
theorem dX10_work_118 : decode cX10_work 118 = .ok (.aload_n 0, 1) := by decide +kernel
theorem dX10_work_119 : decode cX10_work 119 = .ok (.getfield 43, 3) := by decide +kernel
theorem dX10_work_122 : decode cX10_work 122 = .ok (.iload_n 3, 1) := by decide +kernel
theorem dX10_work_123 : decode cX10_work 123 = .ok (.aload_n 0, 1) := by decide +kernel
theorem dX10_work_124 : decode cX10_work 124 = .ok (.getfield 51, 3) := by decide +kernel
theorem dX10_work_127 : decode cX10_work 127 = .ok (.iload_n 2, 1) := by decide +kernel
theorem dX10_work_128 : decode cX10_work 128 = .ok (.iaload, 1) := by decide +kernel
theorem dX10_work_129 : decode cX10_work 129 = .ok (.i2d, 1) := by decide +kernel
theorem dX10_work_130 : decode cX10_work 130 = .ok (.dastore, 1) := by decide +kernel
theorem dX10_work_131 : decode cX10_work 131 = .ok (.goto 76, 3) := by decide +kernel
theorem dX10_work_134 : decode cX10_work 134 = .ok (.aload_n 0, 1) := by decide +kernel
theorem dX10_work_135 : decode cX10_work 135 = .ok (.iconst 3, 1) := by decide +kernel
theorem dX10_work_136 : decode cX10_work 136 = .ok (.invokevirtual 191, 3) := by decide +kernel
theorem dX10_work_139 : decode cX10_work 139 = .ok (.goto 68, 3) := by decide +kernel
theorem dX10_work_142 : decode cX10_work 142 = .ok (.aload_n 0, 1) := by decide +kernel
theorem dX10_work_143 : decode cX10_work 143 = .ok (.getfield 43, 3) := by decide +kernel
theorem dX10_work_146 : decode cX10_work 146 = .ok (.iload_n 2, 1) := by decide +kernel
theorem dX10_work_147 : decode cX10_work 147 = .ok (.iload_n 3, 1) := by decide +kernel
theorem dX10_work_148 : decode cX10_work 148 = .ok (.i2d, 1) := by decide +kernel
theorem dX10_work_149 : decode cX10_work 149 = .ok (.ldc2_w 255, 3) := by decide +kernel
theorem dX10_work_152 : decode cX10_work 152 = .ok (.ddiv, 1) := by decide +kernel
theorem dX10_work_153 : decode cX10_work 153 = .ok (.dastore, 1) := by decide +kernel
theorem dX10_work_154 : decode cX10_work 154 = .ok (.goto 53, 3) := by decide +kernel
theorem dX10_work_157 : decode cX10_work 157 = .ok (.aload_n 0, 1) := by decide +kernel
theorem dX10_work_158 : decode cX10_work 158 = .ok (.iload_n 1, 1) := by decide +kernel
theorem dX10_work_159 : decode cX10_work 159 = .ok (.invokevirtual 257, 3) := by decide +kernel
theorem dX10_work_162 : decode cX10_work 162 = .ok (.goto 45, 3) := by decide +kernel
theorem dX10_work_165 : decode cX10_work 165 = .ok (.aload_n 0, 1) := by decide +kernel
theorem dX10_work_166 : decode cX10_work 166 = .ok (.iload_n 1, 1) := by decide +kernel
theorem dX10_work_167 : decode cX10_work 167 = .ok (.invokevirtual 260, 3) := by decide +kernel
theorem dX10_work_170 : decode cX10_work 170 = .ok (.goto 37, 3) := by decide +kernel
theorem dX10_work_173 : decode cX10_work 173 = .ok (.aload_n 0, 1) := by decide +kernel
theorem dX10_work_174 : decode cX10_work 174 = .ok (.iload_n 1, 1) := by decide +kernel
theorem dX10_work_175 : decode cX10_work 175 = .ok (.invokevirtual 263, 3) := by decide +kernel
theorem dX10_work_178 : decode cX10_work 178 = .ok (.goto 29, 3) := by decide +kernel
theorem dX10_work_181 : decode cX10_work 181 = .ok (.aload_n 0, 1) := by decide +kernel
theorem dX10_work_182 : decode cX10_work 182 = .ok (.iload_n 1, 1) := by decide +kernel
theorem dX10_work_183 : decode cX10_work 183 = .ok (.invokevirtual 266, 3) := by decide +kernel
theorem dX10_work_186 : decode cX10_work 186 = .ok (.goto 21, 3) := by decide +kernel
theorem dX10_work_189 : decode cX10_work 189 = .ok (.aload_n 0, 1) := by decide +kernel
theorem dX10_work_190 : decode cX10_work 190 = .ok (.aload_n 0, 1) := by decide +kernel
theorem dX10_work_191 : decode cX10_work 191 = .ok (.getfield 43, 3) := by decide +kernel
theorem dX10_work_194 : decode cX10_work 194 = .ok (.iload_n 2, 1) := by decide +kernel
theorem dX10_work_195 : decode cX10_work 195 = .ok (.daload, 1) := by decide +kernel
theorem dX10_work_196 : decode cX10_work 196 = .ok (.invokevirtual 225, 3) := by decide +kernel
theorem dX10_work_199 : decode cX10_work 199 = .ok (.goto 8, 3) := by decide +kernel
theorem dX10_work_202 : decode cX10_work 202 = .ok (.aload_n 0, 1) := by decide +kernel
theorem dX10_work_203 : decode cX10_work 203 = .ok (.iload_n 1, 1) := by decide +kernel
theorem dX10_work_204 : decode cX10_work 204 = .ok (.invokevirtual 269, 3) := by decide +kernel
theorem dX10_work_207 : decode cX10_work 207 = .ok (.return_, 1) := by decide +kernel
theorem dX10_isMinusNumber_0 : decode cX10_isMinusNumber 0 = .ok (.dload_n 0, 1) := by decide +kernel
theorem dX10_isMinusNumber_1 : decode cX10_isMinusNumber 1 = .ok (.dconst 0, 1) := by decide +kernel
theorem dX10_isMinusNumber_2 : decode cX10_isMinusNumber 2 = .ok (.dcmp .g, 1) := by decide +kernel
theorem dX10_isMinusNumber_3 : decode cX10_isMinusNumber 3 = .ok (.ifCond .lt 17, 3) := by decide +kernel
theorem dX10_isMinusNumber_6 : decode cX10_isMinusNumber 6 = .ok (.dload_n 0, 1) := by decide +kernel
theorem dX10_isMinusNumber_7 : decode cX10_isMinusNumber 7 = .ok (.dconst 0, 1) := by decide +kernel
theorem dX10_isMinusNumber_8 : decode cX10_isMinusNumber 8 = .ok (.dcmp .l, 1) := by decide +kernel
theorem dX10_isMinusNumber_9 : decode cX10_isMinusNumber 9 = .ok (.ifCond .ne 15, 3) := by decide +kernel
theorem dX10_isMinusNumber_12 : decode cX10_isMinusNumber 12 = .ok (.dconst 1, 1) := by decide +kernel
theorem dX10_isMinusNumber_13 : decode cX10_isMinusNumber 13 = .ok (.dload_n 0, 1) := by decide +kernel
theorem dX10_isMinusNumber_14 : decode cX10_isMinusNumber 14 = .ok (.ddiv, 1) := by decide +kernel
theorem dX10_isMinusNumber_15 : decode cX10_isMinusNumber 15 = .ok (.dconst 0, 1) := by decide +kernel
theorem dX10_isMinusNumber_16 : decode cX10_isMinusNumber 16 = .ok (.dcmp .g, 1) := by decide +kernel
theorem dX10_isMinusNumber_17 : decode cX10_isMinusNumber 17 = .ok (.ifCond .ge 7, 3) := by decide +kernel
theorem dX10_isMinusNumber_20 : decode cX10_isMinusNumber 20 = .ok (.iconst 1, 1) := by decide +kernel
theorem dX10_isMinusNumber_21 : decode cX10_isMinusNumber 21 = .ok (.goto 4, 3) := by decide +kernel
theorem dX10_isMinusNumber_24 : decode cX10_isMinusNumber 24 = .ok (.iconst 0, 1) := by decide +kernel
theorem dX10_isMinusNumber_25 : decode cX10_isMinusNumber 25 = .ok (.ireturn, 1) := by decide +kernel
theorem dX10_signed_0 : decode cX10_signed 0 = .ok (.dload_n 0, 1) := by decide +kernel
theorem dX10_signed_1 : decode cX10_signed 1 = .ok (.invokestatic 272, 3) := by decide +kernel
theorem dX10_signed_4 : decode cX10_signed 4 = .ok (.iload_n 2, 1) := by decide +kernel
theorem dX10_signed_5 : decode cX10_signed 5 = .ok (.if_icmp .ne 7, 3) := by decide +kernel
theorem dX10_signed_8 : decode cX10_signed 8 = .ok (.dload_n 0, 1) := by decide +kernel
theorem dX10_signed_9 : decode cX10_signed 9 = .ok (.goto 5, 3) := by decide +kernel
theorem dX10_signed_12 : decode cX10_signed 12 = .ok (.dload_n 0, 1) := by decide +kernel
theorem dX10_signed_13 : decode cX10_signed 13 = .ok (.dneg, 1) := by decide +kernel
theorem dX10_signed_14 : decode cX10_signed 14 = .ok (.dreturn, 1) := by decide +kernel
theorem dX10_lower_0 : decode cX10_lower 0 = .ok (.dload_n 0, 1) := by decide +kernel
theorem dX10_lower_1 : decode cX10_lower 1 = .ok (.d2l, 1) := by decide +kernel
theorem dX10_lower_2 : decode cX10_lower 2 = .ok (.l2d, 1) := by decide +kernel
theorem dX10_lower_3 : decode cX10_lower 3 = .ok (.dstore_n 2, 1) := by decide +kernel
theorem dX10_lower_4 : decode cX10_lower 4 = .ok (.dload_n 2, 1) := by decide +kernel
theorem dX10_lower_5 : decode cX10_lower 5 = .ok (.dload_n 0, 1) := by decide +kernel
theorem dX10_lower_6 : decode cX10_lower 6 = .ok (.dcmp .l, 1) := by decide +kernel
theorem dX10_lower_7 : decode cX10_lower 7 = .ok (.ifCond .le 9, 3) := by decide +kernel
theorem dX10_lower_10 : decode cX10_lower 10 = .ok (.dload_n 2, 1) := by decide +kernel
theorem dX10_lower_11 : decode cX10_lower 11 = .ok (.dconst 1, 1) := by decide +kernel
theorem dX10_lower_12 : decode cX10_lower 12 = .ok (.dsub, 1) := by decide +kernel
theorem dX10_lower_13 : decode cX10_lower 13 = .ok (.goto 4, 3) := by decide +kernel
theorem dX10_lower_16 : decode cX10_lower 16 = .ok (.dload_n 2, 1) := by decide +kernel
theorem dX10_lower_17 : decode cX10_lower 17 = .ok (.dload_n 0, 1) := by decide +kernel
theorem dX10_lower_18 : decode cX10_lower 18 = .ok (.invokestatic 276, 3) := by decide +kernel
theorem dX10_lower_21 : decode cX10_lower 21 = .ok (.dreturn, 1) := by decide +kernel
theorem dX10_signed0_0 : decode cX10_signed0 0 = .ok (.dload_n 0, 1) := by decide +kernel
theorem dX10_signed0_1 : decode cX10_signed0 1 = .ok (.dconst 0, 1) := by decide +kernel
theorem dX10_signed0_2 : decode cX10_signed0 2 = .ok (.dcmp .l, 1) := by decide +kernel
theorem dX10_signed0_3 : decode cX10_signed0 3 = .ok (.ifCond .ne 14, 3) := by decide +kernel
theorem dX10_signed0_6 : decode cX10_signed0 6 = .ok (.dload_n 0, 1) := by decide +kernel
theorem dX10_signed0_7 : decode cX10_signed0 7 = .ok (.dload_n 2, 1) := by decide +kernel
theorem dX10_signed0_8 : decode cX10_signed0 8 = .ok (.invokestatic 272, 3) := by decide +kernel
theorem dX10_signed0_11 : decode cX10_signed0 11 = .ok (.invokestatic 280, 3) := by decide +kernel
theorem dX10_signed0_14 : decode cX10_signed0 14 = .ok (.goto 4, 3) := by decide +kernel
theorem dX10_signed0_17 : decode cX10_signed0 17 = .ok (.dload_n 0, 1) := by decide +kernel
theorem dX10_signed0_18 : decode cX10_signed0 18 = .ok (.dreturn, 1) := by decide +kernel
theorem dX10_upper_0 : decode cX10_upper 0 = .ok (.dload_n 0, 1) := by decide +kernel
theorem dX10_upper_1 : decode cX10_upper 1 = .ok (.d2l, 1) := by decide +kernel
theorem dX10_upper_2 : decode cX10_upper 2 = .ok (.l2d, 1) := by decide +kernel
theorem dX10_upper_3 : decode cX10_upper 3 = .ok (.dstore_n 2, 1) := by decide +kernel
theorem dX10_upper_4 : decode cX10_upper 4 = .ok (.dload_n 2, 1) := by decide +kernel
theorem dX10_upper_5 : decode cX10_upper 5 = .ok (.dload_n 0, 1) := by decide +kernel
theorem dX10_upper_6 : decode cX10_upper 6 = .ok (.dcmp .g, 1) := by decide +kernel
theorem dX10_upper_7 : decode cX10_upper 7 = .ok (.ifCond .ge 9, 3) := by decide +kernel
theorem dX10_upper_10 : decode cX10_upper 10 = .ok (.dload_n 2, 1) := by decide +kernel
theorem dX10_upper_11 : decode cX10_upper 11 = .ok (.dconst 1, 1) := by decide +kernel
theorem dX10_upper_12 : decode cX10_upper 12 = .ok (.dadd, 1) := by decide +kernel
theorem dX10_upper_13 : decode cX10_upper 13 = .ok (.goto 4, 3) := by decide +kernel
theorem dX10_upper_16 : decode cX10_upper 16 = .ok (.dload_n 2, 1) := by decide +kernel
theorem dX10_upper_17 : decode cX10_upper 17 = .ok (.dload_n 0, 1) := by decide +kernel
theorem dX10_upper_18 : decode cX10_upper 18 = .ok (.invokestatic 276, 3) := by decide +kernel
theorem dX10_upper_21 : decode cX10_upper 21 = .ok (.dreturn, 1) := by decide +kernel
theorem dX10_nearest_0 : decode cX10_nearest 0 = .ok (.dload_n 0, 1) := by decide +kernel
theorem dX10_nearest_1 : decode cX10_nearest 1 = .ok (.invokestatic 284, 3) := by decide +kernel
theorem dX10_nearest_4 : decode cX10_nearest 4 = .ok (.dstore_n 2, 1) := by decide +kernel
theorem dX10_nearest_5 : decode cX10_nearest 5 = .ok (.dload_n 0, 1) := by decide +kernel
theorem dX10_nearest_6 : decode cX10_nearest 6 = .ok (.dload_n 2, 1) := by decide +kernel
theorem dX10_nearest_7 : decode cX10_nearest 7 = .ok (.dsub, 1) := by decide +kernel
theorem dX10_nearest_8 : decode cX10_nearest 8 = .ok (.dstore 4, 2) := by decide +kernel
theorem dX10_nearest_10 : decode cX10_nearest 10 = .ok (.dload 4, 2) := by decide +kernel
theorem dX10_nearest_12 : decode cX10_nearest 12 = .ok (.ldc2_w 288, 3) := by decide +kernel
theorem dX10_nearest_15 : decode cX10_nearest 15 = .ok (.dcmp .l, 1) := by decide +kernel
theorem dX10_nearest_16 : decode cX10_nearest 16 = .ok (.ifCond .gt 23, 3) := by decide +kernel
theorem dX10_nearest_19 : decode cX10_nearest 19 = .ok (.dload 4, 2) := by decide +kernel
theorem dX10_nearest_21 : decode cX10_nearest 21 = .ok (.ldc2_w 288, 3) := by decide +kernel
theorem dX10_nearest_24 : decode cX10_nearest 24 = .ok (.dcmp .l, 1) := by decide +kernel
theorem dX10_nearest_25 : decode cX10_nearest 25 = .ok (.ifCond .ne 18, 3) := by decide +kernel
theorem dX10_nearest_28 : decode cX10_nearest 28 = .ok (.dload_n 2, 1) := by decide +kernel
theorem dX10_nearest_29 : decode cX10_nearest 29 = .ok (.d2l, 1) := by decide +kernel
theorem dX10_nearest_30 : decode cX10_nearest 30 = .ok (.ldc2_w 290, 3) := by decide +kernel
theorem dX10_nearest_33 : decode cX10_nearest 33 = .ok (.lrem, 1) := by decide +kernel
theorem dX10_nearest_34 : decode cX10_nearest 34 = .ok (.lconst 0, 1) := by decide +kernel
theorem dX10_nearest_35 : decode cX10_nearest 35 = .ok (.lcmp, 1) := by decide +kernel
theorem dX10_nearest_36 : decode cX10_nearest 36 = .ok (.ifCond .eq 7, 3) := by decide +kernel
theorem dX10_nearest_39 : decode cX10_nearest 39 = .ok (.iconst 1, 1) := by decide +kernel
theorem dX10_nearest_40 : decode cX10_nearest 40 = .ok (.goto 4, 3) := by decide +kernel
theorem dX10_nearest_43 : decode cX10_nearest 43 = .ok (.iconst 0, 1) := by decide +kernel
theorem dX10_nearest_44 : decode cX10_nearest 44 = .ok (.istore 6, 2) := by decide +kernel
theorem dX10_nearest_46 : decode cX10_nearest 46 = .ok (.iload 6, 2) := by decide +kernel
theorem dX10_nearest_48 : decode cX10_nearest 48 = .ok (.ifCond .eq 9, 3) := by decide +kernel
theorem dX10_nearest_51 : decode cX10_nearest 51 = .ok (.dload_n 2, 1) := by decide +kernel
theorem dX10_nearest_52 : decode cX10_nearest 52 = .ok (.dconst 1, 1) := by decide +kernel
theorem dX10_nearest_53 : decode cX10_nearest 53 = .ok (.dadd, 1) := by decide +kernel
theorem dX10_nearest_54 : decode cX10_nearest 54 = .ok (.goto 4, 3) := by decide +kernel
theorem dX10_nearest_57 : decode cX10_nearest 57 = .ok (.dload_n 2, 1) := by decide +kernel
theorem dX10_nearest_58 : decode cX10_nearest 58 = .ok (.dload_n 0, 1) := by decide +kernel
theorem dX10_nearest_59 : decode cX10_nearest 59 = .ok (.invokestatic 276, 3) := by decide +kernel
theorem dX10_nearest_62 : decode cX10_nearest 62 = .ok (.dreturn, 1) := by decide +kernel
theorem dX10_chosen_0 : decode cX10_chosen 0 = .ok (.iload_n 0, 1) := by decide +kernel
theorem dX10_chosen_1 : decode cX10_chosen 1 = .ok (.tableswitch 123 5 11 #[43, 68, 93, 102, 108, 113, 118], 43) := by decide +kernel
theorem dX10_chosen_44 : decode cX10_chosen 44 = .ok (.dload_n 1, 1) := by decide +kernel
theorem dX10_chosen_45 : decode cX10_chosen 45 = .ok (.dload_n 3, 1) := by decide +kernel
theorem dX10_chosen_46 : decode cX10_chosen 46 = .ok (.dcmp .g, 1) := by decide +kernel
theorem dX10_chosen_47 : decode cX10_chosen 47 = .ok (.ifCond .lt 16, 3) := by decide +kernel
theorem dX10_chosen_50 : decode cX10_chosen 50 = .ok (.dload_n 1, 1) := by decide +kernel
theorem dX10_chosen_51 : decode cX10_chosen 51 = .ok (.dload_n 3, 1) := by decide +kernel
theorem dX10_chosen_52 : decode cX10_chosen 52 = .ok (.dcmp .l, 1) := by decide +kernel
theorem dX10_chosen_53 : decode cX10_chosen 53 = .ok (.ifCond .ne 14, 3) := by decide +kernel
theorem dX10_chosen_56 : decode cX10_chosen 56 = .ok (.dload_n 1, 1) := by decide +kernel
theorem dX10_chosen_57 : decode cX10_chosen 57 = .ok (.invokestatic 272, 3) := by decide +kernel
theorem dX10_chosen_60 : decode cX10_chosen 60 = .ok (.ifCond .eq 7, 3) := by decide +kernel
theorem dX10_chosen_63 : decode cX10_chosen 63 = .ok (.dload_n 1, 1) := by decide +kernel
theorem dX10_chosen_64 : decode cX10_chosen 64 = .ok (.goto 4, 3) := by decide +kernel
theorem dX10_chosen_67 : decode cX10_chosen 67 = .ok (.dload_n 3, 1) := by decide +kernel
theorem dX10_chosen_68 : decode cX10_chosen 68 = .ok (.dreturn, 1) := by decide +kernel
theorem dX10_chosen_69 : decode cX10_chosen 69 = .ok (.dload_n 1, 1) := by decide +kernel
theorem dX10_chosen_70 : decode cX10_chosen 70 = .ok (.dload_n 3, 1) := by decide +kernel
theorem dX10_chosen_71 : decode cX10_chosen 71 = .ok (.dcmp .l, 1) := by decide +kernel
theorem dX10_chosen_72 : decode cX10_chosen 72 = .ok (.ifCond .gt 16, 3) := by decide +kernel
theorem dX10_chosen_75 : decode cX10_chosen 75 = .ok (.dload_n 1, 1) := by decide +kernel
theorem dX10_chosen_76 : decode cX10_chosen 76 = .ok (.dload_n 3, 1) := by decide +kernel
theorem dX10_chosen_77 : decode cX10_chosen 77 = .ok (.dcmp .l, 1) := by decide +kernel
theorem dX10_chosen_78 : decode cX10_chosen 78 = .ok (.ifCond .ne 14, 3) := by decide +kernel
theorem dX10_chosen_81 : decode cX10_chosen 81 = .ok (.dload_n 1, 1) := by decide +kernel
theorem dX10_chosen_82 : decode cX10_chosen 82 = .ok (.invokestatic 272, 3) := by decide +kernel
theorem dX10_chosen_85 : decode cX10_chosen 85 = .ok (.ifCond .ne 7, 3) := by decide +kernel
theorem dX10_chosen_88 : decode cX10_chosen 88 = .ok (.dload_n 1, 1) := by decide +kernel
theorem dX10_chosen_89 : decode cX10_chosen 89 = .ok (.goto 4, 3) := by decide +kernel
theorem dX10_chosen_92 : decode cX10_chosen 92 = .ok (.dload_n 3, 1) := by decide +kernel
theorem dX10_chosen_93 : decode cX10_chosen 93 = .ok (.dreturn, 1) := by decide +kernel
theorem dX10_chosen_94 : decode cX10_chosen 94 = .ok (.dload_n 1, 1) := by decide +kernel
theorem dX10_chosen_95 : decode cX10_chosen 95 = .ok (.dload_n 3, 1) := by decide +kernel
theorem dX10_chosen_96 : decode cX10_chosen 96 = .ok (.invokestatic 272, 3) := by decide +kernel
theorem dX10_chosen_99 : decode cX10_chosen 99 = .ok (.invokestatic 280, 3) := by decide +kernel
theorem dX10_chosen_102 : decode cX10_chosen 102 = .ok (.dreturn, 1) := by decide +kernel
theorem dX10_chosen_103 : decode cX10_chosen 103 = .ok (.dload_n 3, 1) := by decide +kernel
theorem dX10_chosen_104 : decode cX10_chosen 104 = .ok (.iconst 0, 1) := by decide +kernel
theorem dX10_chosen_105 : decode cX10_chosen 105 = .ok (.invokestatic 280, 3) := by decide +kernel
theorem dX10_chosen_108 : decode cX10_chosen 108 = .ok (.dreturn, 1) := by decide +kernel
theorem dX10_chosen_109 : decode cX10_chosen 109 = .ok (.dload_n 3, 1) := by decide +kernel
theorem dX10_chosen_110 : decode cX10_chosen 110 = .ok (.invokestatic 284, 3) := by decide +kernel
theorem dX10_chosen_113 : decode cX10_chosen 113 = .ok (.dreturn, 1) := by decide +kernel
theorem dX10_chosen_114 : decode cX10_chosen 114 = .ok (.dload_n 3, 1) := by decide +kernel
theorem dX10_chosen_115 : decode cX10_chosen 115 = .ok (.invokestatic 292, 3) := by decide +kernel
theorem dX10_chosen_118 : decode cX10_chosen 118 = .ok (.dreturn, 1) := by decide +kernel
theorem dX10_chosen_119 : decode cX10_chosen 119 = .ok (.dload_n 3, 1) := by decide +kernel
theorem dX10_chosen_120 : decode cX10_chosen 120 = .ok (.invokestatic 295, 3) := by decide +kernel
theorem dX10_chosen_123 : decode cX10_chosen 123 = .ok (.dreturn, 1) := by decide +kernel
theorem dX10_chosen_124 : decode cX10_chosen 124 = .ok (.dload_n 3, 1) := by decide +kernel
theorem dX10_chosen_125 : decode cX10_chosen 125 = .ok (.dconst 0, 1) := by decide +kernel
theorem dX10_chosen_126 : decode cX10_chosen 126 = .ok (.dcmp .l, 1) := by decide +kernel
theorem dX10_chosen_127 : decode cX10_chosen 127 = .ok (.ifCond .le 7, 3) := by decide +kernel
theorem dX10_chosen_130 : decode cX10_chosen 130 = .ok (.dconst 1, 1) := by decide +kernel
theorem dX10_chosen_131 : decode cX10_chosen 131 = .ok (.goto 16, 3) := by decide +kernel
theorem dX10_chosen_134 : decode cX10_chosen 134 = .ok (.dload_n 3, 1) := by decide +kernel
theorem dX10_chosen_135 : decode cX10_chosen 135 = .ok (.dconst 0, 1) := by decide +kernel
theorem dX10_chosen_136 : decode cX10_chosen 136 = .ok (.dcmp .g, 1) := by decide +kernel
theorem dX10_chosen_137 : decode cX10_chosen 137 = .ok (.ifCond .ge 9, 3) := by decide +kernel
theorem dX10_chosen_140 : decode cX10_chosen 140 = .ok (.ldc2_w 298, 3) := by decide +kernel
theorem dX10_chosen_143 : decode cX10_chosen 143 = .ok (.goto 4, 3) := by decide +kernel
theorem dX10_chosen_146 : decode cX10_chosen 146 = .ok (.dload_n 3, 1) := by decide +kernel
theorem dX10_chosen_147 : decode cX10_chosen 147 = .ok (.dreturn, 1) := by decide +kernel
theorem dX10_turn_0 : decode cX10_turn 0 = .ok (.dload_n 2, 1) := by decide +kernel
theorem dX10_turn_1 : decode cX10_turn 1 = .ok (.ldc2_w 300, 3) := by decide +kernel
theorem dX10_turn_4 : decode cX10_turn 4 = .ok (.dcmp .l, 1) := by decide +kernel
theorem dX10_turn_5 : decode cX10_turn 5 = .ok (.ifCond .gt 11, 3) := by decide +kernel
theorem dX10_turn_8 : decode cX10_turn 8 = .ok (.dload_n 2, 1) := by decide +kernel
theorem dX10_turn_9 : decode cX10_turn 9 = .ok (.ldc2_w 302, 3) := by decide +kernel
theorem dX10_turn_12 : decode cX10_turn 12 = .ok (.dcmp .g, 1) := by decide +kernel
theorem dX10_turn_13 : decode cX10_turn 13 = .ok (.ifCond .ge 12, 3) := by decide +kernel
theorem dX10_turn_16 : decode cX10_turn 16 = .ok (.aload_n 0, 1) := by decide +kernel
theorem dX10_turn_17 : decode cX10_turn 17 = .ok (.bipush 8, 2) := by decide +kernel
theorem dX10_turn_19 : decode cX10_turn 19 = .ok (.invokevirtual 191, 3) := by decide +kernel
theorem dX10_turn_22 : decode cX10_turn 22 = .ok (.goto 10, 3) := by decide +kernel
theorem dX10_turn_25 : decode cX10_turn 25 = .ok (.aload_n 0, 1) := by decide +kernel
theorem dX10_turn_26 : decode cX10_turn 26 = .ok (.getfield 43, 3) := by decide +kernel
theorem dX10_turn_29 : decode cX10_turn 29 = .ok (.iload_n 1, 1) := by decide +kernel
theorem dX10_turn_30 : decode cX10_turn 30 = .ok (.dload_n 2, 1) := by decide +kernel
theorem dX10_turn_31 : decode cX10_turn 31 = .ok (.dastore, 1) := by decide +kernel
theorem dX10_turn_32 : decode cX10_turn 32 = .ok (.return_, 1) := by decide +kernel
theorem dX10_fine_0 : decode cX10_fine 0 = .ok (.aload_n 0, 1) := by decide +kernel
theorem dX10_fine_1 : decode cX10_fine 1 = .ok (.getfield 13, 3) := by decide +kernel
theorem dX10_fine_4 : decode cX10_fine 4 = .ok (.iload_n 1, 1) := by decide +kernel
theorem dX10_fine_5 : decode cX10_fine 5 = .ok (.iaload, 1) := by decide +kernel
theorem dX10_fine_6 : decode cX10_fine 6 = .ok (.istore_n 2, 1) := by decide +kernel
theorem dX10_fine_7 : decode cX10_fine 7 = .ok (.aload_n 0, 1) := by decide +kernel
theorem dX10_fine_8 : decode cX10_fine 8 = .ok (.getfield 43, 3) := by decide +kernel
theorem dX10_fine_11 : decode cX10_fine 11 = .ok (.aload_n 0, 1) := by decide +kernel
theorem dX10_fine_12 : decode cX10_fine 12 = .ok (.getfield 16, 3) := by decide +kernel
theorem dX10_fine_15 : decode cX10_fine 15 = .ok (.iload_n 1, 1) := by decide +kernel
theorem dX10_fine_16 : decode cX10_fine 16 = .ok (.iaload, 1) := by decide +kernel
theorem dX10_fine_17 : decode cX10_fine 17 = .ok (.daload, 1) := by decide +kernel
theorem dX10_fine_18 : decode cX10_fine 18 = .ok (.dstore_n 3, 1) := by decide +kernel
theorem dX10_fine_19 : decode cX10_fine 19 = .ok (.aload_n 0, 1) := by decide +kernel
theorem dX10_fine_20 : decode cX10_fine 20 = .ok (.getfield 43, 3) := by decide +kernel
theorem dX10_fine_23 : decode cX10_fine 23 = .ok (.aload_n 0, 1) := by decide +kernel
theorem dX10_fine_24 : decode cX10_fine 24 = .ok (.getfield 19, 3) := by decide +kernel
theorem dX10_fine_27 : decode cX10_fine 27 = .ok (.iload_n 1, 1) := by decide +kernel
theorem dX10_fine_28 : decode cX10_fine 28 = .ok (.iaload, 1) := by decide +kernel
theorem dX10_fine_29 : decode cX10_fine 29 = .ok (.daload, 1) := by decide +kernel
theorem dX10_fine_30 : decode cX10_fine 30 = .ok (.dstore 5, 2) := by decide +kernel
theorem dX10_fine_32 : decode cX10_fine 32 = .ok (.iload_n 2, 1) := by decide +kernel
theorem dX10_fine_33 : decode cX10_fine 33 = .ok (.iconst 3, 1) := by decide +kernel
theorem dX10_fine_34 : decode cX10_fine 34 = .ok (.if_icmp .eq 8, 3) := by decide +kernel
theorem dX10_fine_37 : decode cX10_fine 37 = .ok (.iload_n 2, 1) := by decide +kernel
theorem dX10_fine_38 : decode cX10_fine 38 = .ok (.iconst 4, 1) := by decide +kernel
theorem dX10_fine_39 : decode cX10_fine 39 = .ok (.if_icmp .ne 17, 3) := by decide +kernel
theorem dX10_fine_42 : decode cX10_fine 42 = .ok (.dload 5, 2) := by decide +kernel
theorem dX10_fine_44 : decode cX10_fine 44 = .ok (.dconst 0, 1) := by decide +kernel
theorem dX10_fine_45 : decode cX10_fine 45 = .ok (.dcmp .l, 1) := by decide +kernel
theorem dX10_fine_46 : decode cX10_fine 46 = .ok (.ifCond .ne 10, 3) := by decide +kernel
theorem dX10_fine_49 : decode cX10_fine 49 = .ok (.aload_n 0, 1) := by decide +kernel
theorem dX10_fine_50 : decode cX10_fine 50 = .ok (.bipush 7, 2) := by decide +kernel
theorem dX10_fine_52 : decode cX10_fine 52 = .ok (.invokevirtual 191, 3) := by decide +kernel
theorem dX10_fine_55 : decode cX10_fine 55 = .ok (.return_, 1) := by decide +kernel
theorem dX10_fine_56 : decode cX10_fine 56 = .ok (.iload_n 2, 1) := by decide +kernel
theorem dX10_fine_57 : decode cX10_fine 57 = .ok (.tableswitch 125 0 13 #[71, 80, 89, 98, 107, 125, 125, 125, 125, 125, 125, 125, 125, 116], 71) := by decide +kernel
theorem dX10_fine_128 : decode cX10_fine 128 = .ok (.dload_n 3, 1) := by decide +kernel
theorem dX10_fine_129 : decode cX10_fine 129 = .ok (.dload 5, 2) := by decide +kernel
theorem dX10_fine_131 : decode cX10_fine 131 = .ok (.dadd, 1) := by decide +kernel
theorem dX10_fine_132 : decode cX10_fine 132 = .ok (.dstore 7, 2) := by decide +kernel
theorem dX10_fine_134 : decode cX10_fine 134 = .ok (.goto 57, 3) := by decide +kernel
theorem dX10_fine_137 : decode cX10_fine 137 = .ok (.dload_n 3, 1) := by decide +kernel
theorem dX10_fine_138 : decode cX10_fine 138 = .ok (.dload 5, 2) := by decide +kernel
theorem dX10_fine_140 : decode cX10_fine 140 = .ok (.dsub, 1) := by decide +kernel
theorem dX10_fine_141 : decode cX10_fine 141 = .ok (.dstore 7, 2) := by decide +kernel
theorem dX10_fine_143 : decode cX10_fine 143 = .ok (.goto 48, 3) := by decide +kernel
theorem dX10_fine_146 : decode cX10_fine 146 = .ok (.dload_n 3, 1) := by decide +kernel
theorem dX10_fine_147 : decode cX10_fine 147 = .ok (.dload 5, 2) := by decide +kernel
theorem dX10_fine_149 : decode cX10_fine 149 = .ok (.dmul, 1) := by decide +kernel
theorem dX10_fine_150 : decode cX10_fine 150 = .ok (.dstore 7, 2) := by decide +kernel
theorem dX10_fine_152 : decode cX10_fine 152 = .ok (.goto 39, 3) := by decide +kernel
theorem dX10_fine_155 : decode cX10_fine 155 = .ok (.dload_n 3, 1) := by decide +kernel
theorem dX10_fine_156 : decode cX10_fine 156 = .ok (.dload 5, 2) := by decide +kernel
theorem dX10_fine_158 : decode cX10_fine 158 = .ok (.ddiv, 1) := by decide +kernel
theorem dX10_fine_159 : decode cX10_fine 159 = .ok (.dstore 7, 2) := by decide +kernel
theorem dX10_fine_161 : decode cX10_fine 161 = .ok (.goto 30, 3) := by decide +kernel
theorem dX10_fine_164 : decode cX10_fine 164 = .ok (.dload_n 3, 1) := by decide +kernel
theorem dX10_fine_165 : decode cX10_fine 165 = .ok (.dload 5, 2) := by decide +kernel
theorem dX10_fine_167 : decode cX10_fine 167 = .ok (.drem, 1) := by decide +kernel
theorem dX10_fine_168 : decode cX10_fine 168 = .ok (.dstore 7, 2) := by decide +kernel
theorem dX10_fine_170 : decode cX10_fine 170 = .ok (.goto 21, 3) := by decide +kernel
theorem dX10_fine_173 : decode cX10_fine 173 = .ok (.dload 5, 2) := by decide +kernel
theorem dX10_fine_175 : decode cX10_fine 175 = .ok (.d2l, 1) := by decide +kernel
theorem dX10_fine_176 : decode cX10_fine 176 = .ok (.l2d, 1) := by decide +kernel
theorem dX10_fine_177 : decode cX10_fine 177 = .ok (.dstore 7, 2) := by decide +kernel
theorem dX10_fine_179 : decode cX10_fine 179 = .ok (.goto 12, 3) := by decide +kernel
theorem dX10_fine_182 : decode cX10_fine 182 = .ok (.iload_n 2, 1) := by decide +kernel
theorem dX10_fine_183 : decode cX10_fine 183 = .ok (.dload_n 3, 1) := by decide +kernel
theorem dX10_fine_184 : decode cX10_fine 184 = .ok (.dload 5, 2) := by decide +kernel
theorem dX10_fine_186 : decode cX10_fine 186 = .ok (.invokestatic 304, 3) := by decide +kernel
theorem dX10_fine_189 : decode cX10_fine 189 = .ok (.dstore 7, 2) := by decide +kernel
theorem dX10_fine_191 : decode cX10_fine 191 = .ok (.aload_n 0, 1) := by decide +kernel
theorem dX10_fine_192 : decode cX10_fine 192 = .ok (.aload_n 0, 1) := by decide +kernel
theorem dX10_fine_193 : decode cX10_fine 193 = .ok (.getfield 16, 3) := by decide +kernel
theorem dX10_fine_196 : decode cX10_fine 196 = .ok (.iload_n 1, 1) := by decide +kernel
theorem dX10_fine_197 : decode cX10_fine 197 = .ok (.iaload, 1) := by decide +kernel
theorem dX10_fine_198 : decode cX10_fine 198 = .ok (.dload 7, 2) := by decide +kernel
theorem dX10_fine_200 : decode cX10_fine 200 = .ok (.invokevirtual 308, 3) := by decide +kernel
theorem dX10_fine_203 : decode cX10_fine 203 = .ok (.return_, 1) := by decide +kernel
theorem dX10_rough_0 : decode cX10_rough 0 = .ok (.aload_n 0, 1) := by decide +kernel
theorem dX10_rough_1 : decode cX10_rough 1 = .ok (.getfield 13, 3) := by decide +kernel
theorem dX10_rough_4 : decode cX10_rough 4 = .ok (.iload_n 1, 1) := by decide +kernel
theorem dX10_rough_5 : decode cX10_rough 5 = .ok (.iaload, 1) := by decide +kernel
theorem dX10_rough_6 : decode cX10_rough 6 = .ok (.istore_n 2, 1) := by decide +kernel
theorem dX10_rough_7 : decode cX10_rough 7 = .ok (.aload_n 0, 1) := by decide +kernel
theorem dX10_rough_8 : decode cX10_rough 8 = .ok (.getfield 43, 3) := by decide +kernel
theorem dX10_rough_11 : decode cX10_rough 11 = .ok (.aload_n 0, 1) := by decide +kernel
theorem dX10_rough_12 : decode cX10_rough 12 = .ok (.getfield 16, 3) := by decide +kernel
theorem dX10_rough_15 : decode cX10_rough 15 = .ok (.iload_n 1, 1) := by decide +kernel
theorem dX10_rough_16 : decode cX10_rough 16 = .ok (.iaload, 1) := by decide +kernel
theorem dX10_rough_17 : decode cX10_rough 17 = .ok (.daload, 1) := by decide +kernel
theorem dX10_rough_18 : decode cX10_rough 18 = .ok (.d2f, 1) := by decide +kernel
theorem dX10_rough_19 : decode cX10_rough 19 = .ok (.fstore_n 3, 1) := by decide +kernel
theorem dX10_rough_20 : decode cX10_rough 20 = .ok (.aload_n 0, 1) := by decide +kernel
theorem dX10_rough_21 : decode cX10_rough 21 = .ok (.getfield 43, 3) := by decide +kernel
theorem dX10_rough_24 : decode cX10_rough 24 = .ok (.aload_n 0, 1) := by decide +kernel
theorem dX10_rough_25 : decode cX10_rough 25 = .ok (.getfield 19, 3) := by decide +kernel
theorem dX10_rough_28 : decode cX10_rough 28 = .ok (.iload_n 1, 1) := by decide +kernel
theorem dX10_rough_29 : decode cX10_rough 29 = .ok (.iaload, 1) := by decide +kernel
theorem dX10_rough_30 : decode cX10_rough 30 = .ok (.daload, 1) := by decide +kernel
theorem dX10_rough_31 : decode cX10_rough 31 = .ok (.d2f, 1) := by decide +kernel
theorem dX10_rough_32 : decode cX10_rough 32 = .ok (.fstore 4, 2) := by decide +kernel
theorem dX10_rough_34 : decode cX10_rough 34 = .ok (.iload_n 2, 1) := by decide +kernel
theorem dX10_rough_35 : decode cX10_rough 35 = .ok (.iconst 3, 1) := by decide +kernel
theorem dX10_rough_36 : decode cX10_rough 36 = .ok (.if_icmp .eq 8, 3) := by decide +kernel
theorem dX10_rough_39 : decode cX10_rough 39 = .ok (.iload_n 2, 1) := by decide +kernel
theorem dX10_rough_40 : decode cX10_rough 40 = .ok (.iconst 4, 1) := by decide +kernel
theorem dX10_rough_41 : decode cX10_rough 41 = .ok (.if_icmp .ne 17, 3) := by decide +kernel
theorem dX10_rough_44 : decode cX10_rough 44 = .ok (.fload 4, 2) := by decide +kernel
theorem dX10_rough_46 : decode cX10_rough 46 = .ok (.fconst 0, 1) := by decide +kernel
theorem dX10_rough_47 : decode cX10_rough 47 = .ok (.fcmp .l, 1) := by decide +kernel
end
section
theorem dX10_rough_48 : decode cX10_rough 48 = .ok (.ifCond .ne 10, 3) := by decide +kernel
theorem dX10_rough_51 : decode cX10_rough 51 = .ok (.aload_n 0, 1) := by decide +kernel
theorem dX10_rough_52 : decode cX10_rough 52 = .ok (.bipush 7, 2) := by decide +kernel
theorem dX10_rough_54 : decode cX10_rough 54 = .ok (.invokevirtual 191, 3) := by decide +kernel
theorem dX10_rough_57 : decode cX10_rough 57 = .ok (.return_, 1) := by decide +kernel
theorem dX10_rough_58 : decode cX10_rough 58 = .ok (.iload_n 2, 1) := by decide +kernel
theorem dX10_rough_59 : decode cX10_rough 59 = .ok (.tableswitch 128 0 13 #[69, 79, 89, 99, 109, 128, 128, 128, 128, 128, 128, 128, 128, 119], 69) := by decide +kernel
theorem dX10_rough_128 : decode cX10_rough 128 = .ok (.fload_n 3, 1) := by decide +kernel
theorem dX10_rough_129 : decode cX10_rough 129 = .ok (.fload 4, 2) := by decide +kernel
theorem dX10_rough_131 : decode cX10_rough 131 = .ok (.fadd, 1) := by decide +kernel
theorem dX10_rough_132 : decode cX10_rough 132 = .ok (.f2d, 1) := by decide +kernel
theorem dX10_rough_133 : decode cX10_rough 133 = .ok (.dstore 5, 2) := by decide +kernel
theorem dX10_rough_135 : decode cX10_rough 135 = .ok (.goto 63, 3) := by decide +kernel
theorem dX10_rough_138 : decode cX10_rough 138 = .ok (.fload_n 3, 1) := by decide +kernel
theorem dX10_rough_139 : decode cX10_rough 139 = .ok (.fload 4, 2) := by decide +kernel
theorem dX10_rough_141 : decode cX10_rough 141 = .ok (.fsub, 1) := by decide +kernel
theorem dX10_rough_142 : decode cX10_rough 142 = .ok (.f2d, 1) := by decide +kernel
theorem dX10_rough_143 : decode cX10_rough 143 = .ok (.dstore 5, 2) := by decide +kernel
theorem dX10_rough_145 : decode cX10_rough 145 = .ok (.goto 53, 3) := by decide +kernel
theorem dX10_rough_148 : decode cX10_rough 148 = .ok (.fload_n 3, 1) := by decide +kernel
theorem dX10_rough_149 : decode cX10_rough 149 = .ok (.fload 4, 2) := by decide +kernel
theorem dX10_rough_151 : decode cX10_rough 151 = .ok (.fmul, 1) := by decide +kernel
theorem dX10_rough_152 : decode cX10_rough 152 = .ok (.f2d, 1) := by decide +kernel
theorem dX10_rough_153 : decode cX10_rough 153 = .ok (.dstore 5, 2) := by decide +kernel
theorem dX10_rough_155 : decode cX10_rough 155 = .ok (.goto 43, 3) := by decide +kernel
theorem dX10_rough_158 : decode cX10_rough 158 = .ok (.fload_n 3, 1) := by decide +kernel
theorem dX10_rough_159 : decode cX10_rough 159 = .ok (.fload 4, 2) := by decide +kernel
theorem dX10_rough_161 : decode cX10_rough 161 = .ok (.fdiv, 1) := by decide +kernel
theorem dX10_rough_162 : decode cX10_rough 162 = .ok (.f2d, 1) := by decide +kernel
theorem dX10_rough_163 : decode cX10_rough 163 = .ok (.dstore 5, 2) := by decide +kernel
theorem dX10_rough_165 : decode cX10_rough 165 = .ok (.goto 33, 3) := by decide +kernel
theorem dX10_rough_168 : decode cX10_rough 168 = .ok (.fload_n 3, 1) := by decide +kernel
theorem dX10_rough_169 : decode cX10_rough 169 = .ok (.fload 4, 2) := by decide +kernel
theorem dX10_rough_171 : decode cX10_rough 171 = .ok (.frem, 1) := by decide +kernel
theorem dX10_rough_172 : decode cX10_rough 172 = .ok (.f2d, 1) := by decide +kernel
theorem dX10_rough_173 : decode cX10_rough 173 = .ok (.dstore 5, 2) := by decide +kernel
theorem dX10_rough_175 : decode cX10_rough 175 = .ok (.goto 23, 3) := by decide +kernel
theorem dX10_rough_178 : decode cX10_rough 178 = .ok (.fload 4, 2) := by decide +kernel
theorem dX10_rough_180 : decode cX10_rough 180 = .ok (.f2l, 1) := by decide +kernel
theorem dX10_rough_181 : decode cX10_rough 181 = .ok (.l2d, 1) := by decide +kernel
theorem dX10_rough_182 : decode cX10_rough 182 = .ok (.dstore 5, 2) := by decide +kernel
theorem dX10_rough_184 : decode cX10_rough 184 = .ok (.goto 14, 3) := by decide +kernel
theorem dX10_rough_187 : decode cX10_rough 187 = .ok (.iload_n 2, 1) := by decide +kernel
theorem dX10_rough_188 : decode cX10_rough 188 = .ok (.fload_n 3, 1) := by decide +kernel
theorem dX10_rough_189 : decode cX10_rough 189 = .ok (.f2d, 1) := by decide +kernel
theorem dX10_rough_190 : decode cX10_rough 190 = .ok (.fload 4, 2) := by decide +kernel
theorem dX10_rough_192 : decode cX10_rough 192 = .ok (.f2d, 1) := by decide +kernel
theorem dX10_rough_193 : decode cX10_rough 193 = .ok (.invokestatic 304, 3) := by decide +kernel
theorem dX10_rough_196 : decode cX10_rough 196 = .ok (.dstore 5, 2) := by decide +kernel
theorem dX10_rough_198 : decode cX10_rough 198 = .ok (.aload_n 0, 1) := by decide +kernel
theorem dX10_rough_199 : decode cX10_rough 199 = .ok (.aload_n 0, 1) := by decide +kernel
theorem dX10_rough_200 : decode cX10_rough 200 = .ok (.getfield 16, 3) := by decide +kernel
theorem dX10_rough_203 : decode cX10_rough 203 = .ok (.iload_n 1, 1) := by decide +kernel
theorem dX10_rough_204 : decode cX10_rough 204 = .ok (.iaload, 1) := by decide +kernel
theorem dX10_rough_205 : decode cX10_rough 205 = .ok (.dload 5, 2) := by decide +kernel
theorem dX10_rough_207 : decode cX10_rough 207 = .ok (.invokevirtual 308, 3) := by decide +kernel
theorem dX10_rough_210 : decode cX10_rough 210 = .ok (.return_, 1) := by decide +kernel
theorem dX10_whole_0 : decode cX10_whole 0 = .ok (.aload_n 0, 1) := by decide +kernel
theorem dX10_whole_1 : decode cX10_whole 1 = .ok (.getfield 43, 3) := by decide +kernel
theorem dX10_whole_4 : decode cX10_whole 4 = .ok (.aload_n 0, 1) := by decide +kernel
theorem dX10_whole_5 : decode cX10_whole 5 = .ok (.getfield 16, 3) := by decide +kernel
theorem dX10_whole_8 : decode cX10_whole 8 = .ok (.iload_n 1, 1) := by decide +kernel
theorem dX10_whole_9 : decode cX10_whole 9 = .ok (.iaload, 1) := by decide +kernel
theorem dX10_whole_10 : decode cX10_whole 10 = .ok (.daload, 1) := by decide +kernel
theorem dX10_whole_11 : decode cX10_whole 11 = .ok (.d2i, 1) := by decide +kernel
theorem dX10_whole_12 : decode cX10_whole 12 = .ok (.istore_n 2, 1) := by decide +kernel
theorem dX10_whole_13 : decode cX10_whole 13 = .ok (.aload_n 0, 1) := by decide +kernel
theorem dX10_whole_14 : decode cX10_whole 14 = .ok (.getfield 43, 3) := by decide +kernel
theorem dX10_whole_17 : decode cX10_whole 17 = .ok (.aload_n 0, 1) := by decide +kernel
theorem dX10_whole_18 : decode cX10_whole 18 = .ok (.getfield 19, 3) := by decide +kernel
theorem dX10_whole_21 : decode cX10_whole 21 = .ok (.iload_n 1, 1) := by decide +kernel
theorem dX10_whole_22 : decode cX10_whole 22 = .ok (.iaload, 1) := by decide +kernel
theorem dX10_whole_23 : decode cX10_whole 23 = .ok (.daload, 1) := by decide +kernel
theorem dX10_whole_24 : decode cX10_whole 24 = .ok (.d2i, 1) := by decide +kernel
theorem dX10_whole_25 : decode cX10_whole 25 = .ok (.istore_n 3, 1) := by decide +kernel
theorem dX10_whole_26 : decode cX10_whole 26 = .ok (.aload_n 0, 1) := by decide +kernel
theorem dX10_whole_27 : decode cX10_whole 27 = .ok (.getfield 13, 3) := by decide +kernel
theorem dX10_whole_30 : decode cX10_whole 30 = .ok (.iload_n 1, 1) := by decide +kernel
theorem dX10_whole_31 : decode cX10_whole 31 = .ok (.iaload, 1) := by decide +kernel
theorem dX10_whole_32 : decode cX10_whole 32 = .ok (.istore 4, 2) := by decide +kernel
theorem dX10_whole_34 : decode cX10_whole 34 = .ok (.iload 4, 2) := by decide +kernel
theorem dX10_whole_36 : decode cX10_whole 36 = .ok (.iconst 3, 1) := by decide +kernel
theorem dX10_whole_37 : decode cX10_whole 37 = .ok (.if_icmp .eq 9, 3) := by decide +kernel
theorem dX10_whole_40 : decode cX10_whole 40 = .ok (.iload 4, 2) := by decide +kernel
theorem dX10_whole_42 : decode cX10_whole 42 = .ok (.iconst 4, 1) := by decide +kernel
theorem dX10_whole_43 : decode cX10_whole 43 = .ok (.if_icmp .ne 14, 3) := by decide +kernel
theorem dX10_whole_46 : decode cX10_whole 46 = .ok (.iload_n 3, 1) := by decide +kernel
theorem dX10_whole_47 : decode cX10_whole 47 = .ok (.ifCond .ne 10, 3) := by decide +kernel
theorem dX10_whole_50 : decode cX10_whole 50 = .ok (.aload_n 0, 1) := by decide +kernel
theorem dX10_whole_51 : decode cX10_whole 51 = .ok (.bipush 7, 2) := by decide +kernel
theorem dX10_whole_53 : decode cX10_whole 53 = .ok (.invokevirtual 191, 3) := by decide +kernel
theorem dX10_whole_56 : decode cX10_whole 56 = .ok (.return_, 1) := by decide +kernel
theorem dX10_whole_57 : decode cX10_whole 57 = .ok (.iload 4, 2) := by decide +kernel
theorem dX10_whole_59 : decode cX10_whole 59 = .ok (.tableswitch 97 0 6 #[41, 49, 57, 65, 73, 81, 89], 41) := by decide +kernel
theorem dX10_whole_100 : decode cX10_whole 100 = .ok (.iload_n 2, 1) := by decide +kernel
theorem dX10_whole_101 : decode cX10_whole 101 = .ok (.iload_n 3, 1) := by decide +kernel
theorem dX10_whole_102 : decode cX10_whole 102 = .ok (.iadd, 1) := by decide +kernel
theorem dX10_whole_103 : decode cX10_whole 103 = .ok (.istore 5, 2) := by decide +kernel
theorem dX10_whole_105 : decode cX10_whole 105 = .ok (.goto 56, 3) := by decide +kernel
theorem dX10_whole_108 : decode cX10_whole 108 = .ok (.iload_n 2, 1) := by decide +kernel
theorem dX10_whole_109 : decode cX10_whole 109 = .ok (.iload_n 3, 1) := by decide +kernel
theorem dX10_whole_110 : decode cX10_whole 110 = .ok (.isub, 1) := by decide +kernel
theorem dX10_whole_111 : decode cX10_whole 111 = .ok (.istore 5, 2) := by decide +kernel
theorem dX10_whole_113 : decode cX10_whole 113 = .ok (.goto 48, 3) := by decide +kernel
theorem dX10_whole_116 : decode cX10_whole 116 = .ok (.iload_n 2, 1) := by decide +kernel
theorem dX10_whole_117 : decode cX10_whole 117 = .ok (.iload_n 3, 1) := by decide +kernel
theorem dX10_whole_118 : decode cX10_whole 118 = .ok (.imul, 1) := by decide +kernel
theorem dX10_whole_119 : decode cX10_whole 119 = .ok (.istore 5, 2) := by decide +kernel
theorem dX10_whole_121 : decode cX10_whole 121 = .ok (.goto 40, 3) := by decide +kernel
theorem dX10_whole_124 : decode cX10_whole 124 = .ok (.iload_n 2, 1) := by decide +kernel
theorem dX10_whole_125 : decode cX10_whole 125 = .ok (.iload_n 3, 1) := by decide +kernel
theorem dX10_whole_126 : decode cX10_whole 126 = .ok (.idiv, 1) := by decide +kernel
theorem dX10_whole_127 : decode cX10_whole 127 = .ok (.istore 5, 2) := by decide +kernel
theorem dX10_whole_129 : decode cX10_whole 129 = .ok (.goto 32, 3) := by decide +kernel
theorem dX10_whole_132 : decode cX10_whole 132 = .ok (.iload_n 2, 1) := by decide +kernel
theorem dX10_whole_133 : decode cX10_whole 133 = .ok (.iload_n 3, 1) := by decide +kernel
theorem dX10_whole_134 : decode cX10_whole 134 = .ok (.irem, 1) := by decide +kernel
theorem dX10_whole_135 : decode cX10_whole 135 = .ok (.istore 5, 2) := by decide +kernel
theorem dX10_whole_137 : decode cX10_whole 137 = .ok (.goto 24, 3) := by decide +kernel
theorem dX10_whole_140 : decode cX10_whole 140 = .ok (.iload_n 2, 1) := by decide +kernel
theorem dX10_whole_141 : decode cX10_whole 141 = .ok (.iload_n 3, 1) := by decide +kernel
theorem dX10_whole_142 : decode cX10_whole 142 = .ok (.iand, 1) := by decide +kernel
theorem dX10_whole_143 : decode cX10_whole 143 = .ok (.istore 5, 2) := by decide +kernel
theorem dX10_whole_145 : decode cX10_whole 145 = .ok (.goto 16, 3) := by decide +kernel
theorem dX10_whole_148 : decode cX10_whole 148 = .ok (.iload_n 2, 1) := by decide +kernel
theorem dX10_whole_149 : decode cX10_whole 149 = .ok (.iload_n 3, 1) := by decide +kernel
theorem dX10_whole_150 : decode cX10_whole 150 = .ok (.ior, 1) := by decide +kernel
theorem dX10_whole_151 : decode cX10_whole 151 = .ok (.istore 5, 2) := by decide +kernel
theorem dX10_whole_153 : decode cX10_whole 153 = .ok (.goto 8, 3) := by decide +kernel
theorem dX10_whole_156 : decode cX10_whole 156 = .ok (.iload_n 2, 1) := by decide +kernel
theorem dX10_whole_157 : decode cX10_whole 157 = .ok (.iload_n 3, 1) := by decide +kernel
theorem dX10_whole_158 : decode cX10_whole 158 = .ok (.ixor, 1) := by decide +kernel
theorem dX10_whole_159 : decode cX10_whole 159 = .ok (.istore 5, 2) := by decide +kernel
theorem dX10_whole_161 : decode cX10_whole 161 = .ok (.aload_n 0, 1) := by decide +kernel
theorem dX10_whole_162 : decode cX10_whole 162 = .ok (.getfield 43, 3) := by decide +kernel
theorem dX10_whole_165 : decode cX10_whole 165 = .ok (.aload_n 0, 1) := by decide +kernel
theorem dX10_whole_166 : decode cX10_whole 166 = .ok (.getfield 16, 3) := by decide +kernel
theorem dX10_whole_169 : decode cX10_whole 169 = .ok (.iload_n 1, 1) := by decide +kernel
theorem dX10_whole_170 : decode cX10_whole 170 = .ok (.iaload, 1) := by decide +kernel
theorem dX10_whole_171 : decode cX10_whole 171 = .ok (.iload 5, 2) := by decide +kernel
theorem dX10_whole_173 : decode cX10_whole 173 = .ok (.i2d, 1) := by decide +kernel
theorem dX10_whole_174 : decode cX10_whole 174 = .ok (.dastore, 1) := by decide +kernel
theorem dX10_whole_175 : decode cX10_whole 175 = .ok (.return_, 1) := by decide +kernel
theorem dX10_wide_0 : decode cX10_wide 0 = .ok (.aload_n 0, 1) := by decide +kernel
theorem dX10_wide_1 : decode cX10_wide 1 = .ok (.getfield 43, 3) := by decide +kernel
theorem dX10_wide_4 : decode cX10_wide 4 = .ok (.aload_n 0, 1) := by decide +kernel
theorem dX10_wide_5 : decode cX10_wide 5 = .ok (.getfield 16, 3) := by decide +kernel
theorem dX10_wide_8 : decode cX10_wide 8 = .ok (.iload_n 1, 1) := by decide +kernel
theorem dX10_wide_9 : decode cX10_wide 9 = .ok (.iaload, 1) := by decide +kernel
theorem dX10_wide_10 : decode cX10_wide 10 = .ok (.daload, 1) := by decide +kernel
theorem dX10_wide_11 : decode cX10_wide 11 = .ok (.d2l, 1) := by decide +kernel
theorem dX10_wide_12 : decode cX10_wide 12 = .ok (.lstore_n 2, 1) := by decide +kernel
theorem dX10_wide_13 : decode cX10_wide 13 = .ok (.aload_n 0, 1) := by decide +kernel
theorem dX10_wide_14 : decode cX10_wide 14 = .ok (.getfield 43, 3) := by decide +kernel
theorem dX10_wide_17 : decode cX10_wide 17 = .ok (.aload_n 0, 1) := by decide +kernel
theorem dX10_wide_18 : decode cX10_wide 18 = .ok (.getfield 19, 3) := by decide +kernel
theorem dX10_wide_21 : decode cX10_wide 21 = .ok (.iload_n 1, 1) := by decide +kernel
theorem dX10_wide_22 : decode cX10_wide 22 = .ok (.iaload, 1) := by decide +kernel
theorem dX10_wide_23 : decode cX10_wide 23 = .ok (.daload, 1) := by decide +kernel
theorem dX10_wide_24 : decode cX10_wide 24 = .ok (.d2l, 1) := by decide +kernel
theorem dX10_wide_25 : decode cX10_wide 25 = .ok (.lstore 4, 2) := by decide +kernel
theorem dX10_wide_27 : decode cX10_wide 27 = .ok (.aload_n 0, 1) := by decide +kernel
theorem dX10_wide_28 : decode cX10_wide 28 = .ok (.getfield 13, 3) := by decide +kernel
theorem dX10_wide_31 : decode cX10_wide 31 = .ok (.iload_n 1, 1) := by decide +kernel
theorem dX10_wide_32 : decode cX10_wide 32 = .ok (.iaload, 1) := by decide +kernel
theorem dX10_wide_33 : decode cX10_wide 33 = .ok (.istore 6, 2) := by decide +kernel
theorem dX10_wide_35 : decode cX10_wide 35 = .ok (.iload 6, 2) := by decide +kernel
theorem dX10_wide_37 : decode cX10_wide 37 = .ok (.iconst 3, 1) := by decide +kernel
theorem dX10_wide_38 : decode cX10_wide 38 = .ok (.if_icmp .eq 9, 3) := by decide +kernel
theorem dX10_wide_41 : decode cX10_wide 41 = .ok (.iload 6, 2) := by decide +kernel
theorem dX10_wide_43 : decode cX10_wide 43 = .ok (.iconst 4, 1) := by decide +kernel
theorem dX10_wide_44 : decode cX10_wide 44 = .ok (.if_icmp .ne 17, 3) := by decide +kernel
theorem dX10_wide_47 : decode cX10_wide 47 = .ok (.lload 4, 2) := by decide +kernel
theorem dX10_wide_49 : decode cX10_wide 49 = .ok (.lconst 0, 1) := by decide +kernel
theorem dX10_wide_50 : decode cX10_wide 50 = .ok (.lcmp, 1) := by decide +kernel
theorem dX10_wide_51 : decode cX10_wide 51 = .ok (.ifCond .ne 10, 3) := by decide +kernel
theorem dX10_wide_54 : decode cX10_wide 54 = .ok (.aload_n 0, 1) := by decide +kernel
theorem dX10_wide_55 : decode cX10_wide 55 = .ok (.bipush 7, 2) := by decide +kernel
theorem dX10_wide_57 : decode cX10_wide 57 = .ok (.invokevirtual 191, 3) := by decide +kernel
theorem dX10_wide_60 : decode cX10_wide 60 = .ok (.return_, 1) := by decide +kernel
theorem dX10_wide_61 : decode cX10_wide 61 = .ok (.iload 6, 2) := by decide +kernel
theorem dX10_wide_63 : decode cX10_wide 63 = .ok (.tableswitch 104 0 6 #[41, 50, 59, 68, 77, 86, 95], 41) := by decide +kernel
theorem dX10_wide_104 : decode cX10_wide 104 = .ok (.lload_n 2, 1) := by decide +kernel
theorem dX10_wide_105 : decode cX10_wide 105 = .ok (.lload 4, 2) := by decide +kernel
theorem dX10_wide_107 : decode cX10_wide 107 = .ok (.ladd, 1) := by decide +kernel
theorem dX10_wide_108 : decode cX10_wide 108 = .ok (.lstore 7, 2) := by decide +kernel
theorem dX10_wide_110 : decode cX10_wide 110 = .ok (.goto 63, 3) := by decide +kernel
theorem dX10_wide_113 : decode cX10_wide 113 = .ok (.lload_n 2, 1) := by decide +kernel
theorem dX10_wide_114 : decode cX10_wide 114 = .ok (.lload 4, 2) := by decide +kernel
theorem dX10_wide_116 : decode cX10_wide 116 = .ok (.lsub, 1) := by decide +kernel
theorem dX10_wide_117 : decode cX10_wide 117 = .ok (.lstore 7, 2) := by decide +kernel
theorem dX10_wide_119 : decode cX10_wide 119 = .ok (.goto 54, 3) := by decide +kernel
theorem dX10_wide_122 : decode cX10_wide 122 = .ok (.lload_n 2, 1) := by decide +kernel
theorem dX10_wide_123 : decode cX10_wide 123 = .ok (.lload 4, 2) := by decide +kernel
theorem dX10_wide_125 : decode cX10_wide 125 = .ok (.lmul, 1) := by decide +kernel
theorem dX10_wide_126 : decode cX10_wide 126 = .ok (.lstore 7, 2) := by decide +kernel
theorem dX10_wide_128 : decode cX10_wide 128 = .ok (.goto 45, 3) := by decide +kernel
theorem dX10_wide_131 : decode cX10_wide 131 = .ok (.lload_n 2, 1) := by decide +kernel
theorem dX10_wide_132 : decode cX10_wide 132 = .ok (.lload 4, 2) := by decide +kernel
theorem dX10_wide_134 : decode cX10_wide 134 = .ok (.ldiv, 1) := by decide +kernel
theorem dX10_wide_135 : decode cX10_wide 135 = .ok (.lstore 7, 2) := by decide +kernel
theorem dX10_wide_137 : decode cX10_wide 137 = .ok (.goto 36, 3) := by decide +kernel
theorem dX10_wide_140 : decode cX10_wide 140 = .ok (.lload_n 2, 1) := by decide +kernel
theorem dX10_wide_141 : decode cX10_wide 141 = .ok (.lload 4, 2) := by decide +kernel
theorem dX10_wide_143 : decode cX10_wide 143 = .ok (.lrem, 1) := by decide +kernel
theorem dX10_wide_144 : decode cX10_wide 144 = .ok (.lstore 7, 2) := by decide +kernel
theorem dX10_wide_146 : decode cX10_wide 146 = .ok (.goto 27, 3) := by decide +kernel
theorem dX10_wide_149 : decode cX10_wide 149 = .ok (.lload_n 2, 1) := by decide +kernel
theorem dX10_wide_150 : decode cX10_wide 150 = .ok (.lload 4, 2) := by decide +kernel
theorem dX10_wide_152 : decode cX10_wide 152 = .ok (.land, 1) := by decide +kernel
theorem dX10_wide_153 : decode cX10_wide 153 = .ok (.lstore 7, 2) := by decide +kernel
theorem dX10_wide_155 : decode cX10_wide 155 = .ok (.goto 18, 3) := by decide +kernel
theorem dX10_wide_158 : decode cX10_wide 158 = .ok (.lload_n 2, 1) := by decide +kernel
theorem dX10_wide_159 : decode cX10_wide 159 = .ok (.lload 4, 2) := by decide +kernel
theorem dX10_wide_161 : decode cX10_wide 161 = .ok (.lor, 1) := by decide +kernel
theorem dX10_wide_162 : decode cX10_wide 162 = .ok (.lstore 7, 2) := by decide +kernel
theorem dX10_wide_164 : decode cX10_wide 164 = .ok (.goto 9, 3) := by decide +kernel
theorem dX10_wide_167 : decode cX10_wide 167 = .ok (.lload_n 2, 1) := by decide +kernel
theorem dX10_wide_168 : decode cX10_wide 168 = .ok (.lload 4, 2) := by decide +kernel
theorem dX10_wide_170 : decode cX10_wide 170 = .ok (.lxor, 1) := by decide +kernel
theorem dX10_wide_171 : decode cX10_wide 171 = .ok (.lstore 7, 2) := by decide +kernel
theorem dX10_wide_173 : decode cX10_wide 173 = .ok (.aload_n 0, 1) := by decide +kernel
theorem dX10_wide_174 : decode cX10_wide 174 = .ok (.aload_n 0, 1) := by decide +kernel
theorem dX10_wide_175 : decode cX10_wide 175 = .ok (.getfield 16, 3) := by decide +kernel
theorem dX10_wide_178 : decode cX10_wide 178 = .ok (.iload_n 1, 1) := by decide +kernel
theorem dX10_wide_179 : decode cX10_wide 179 = .ok (.iaload, 1) := by decide +kernel
theorem dX10_wide_180 : decode cX10_wide 180 = .ok (.lload 7, 2) := by decide +kernel
theorem dX10_wide_182 : decode cX10_wide 182 = .ok (.l2d, 1) := by decide +kernel
theorem dX10_wide_183 : decode cX10_wide 183 = .ok (.invokevirtual 308, 3) := by decide +kernel
theorem dX10_wide_186 : decode cX10_wide 186 = .ok (.return_, 1) := by decide +kernel
theorem dX10_dial_0 : decode cX10_dial 0 = .ok (.iload_n 1, 1) := by decide +kernel
theorem dX10_dial_1 : decode cX10_dial 1 = .ok (.invokestatic 107, 3) := by decide +kernel
theorem dX10_dial_4 : decode cX10_dial 4 = .ok (.ifCond .eq 12, 3) := by decide +kernel
theorem dX10_dial_7 : decode cX10_dial 7 = .ok (.aload_n 0, 1) := by decide +kernel
theorem dX10_dial_8 : decode cX10_dial 8 = .ok (.getfield 43, 3) := by decide +kernel
theorem dX10_dial_11 : decode cX10_dial 11 = .ok (.iload_n 1, 1) := by decide +kernel
theorem dX10_dial_12 : decode cX10_dial 12 = .ok (.daload, 1) := by decide +kernel
theorem dX10_dial_13 : decode cX10_dial 13 = .ok (.goto 4, 3) := by decide +kernel
theorem dX10_dial_16 : decode cX10_dial 16 = .ok (.dconst 0, 1) := by decide +kernel
theorem dX10_dial_17 : decode cX10_dial 17 = .ok (.dreturn, 1) := by decide +kernel
theorem dX10_size_0 : decode cX10_size 0 = .ok (.iload_n 1, 1) := by decide +kernel
theorem dX10_size_1 : decode cX10_size 1 = .ok (.invokestatic 111, 3) := by decide +kernel
theorem dX10_size_4 : decode cX10_size 4 = .ok (.ifCond .ne 6, 3) := by decide +kernel
theorem dX10_size_7 : decode cX10_size 7 = .ok (.bipush (-2), 2) := by decide +kernel
theorem dX10_size_9 : decode cX10_size 9 = .ok (.ireturn, 1) := by decide +kernel
theorem dX10_size_10 : decode cX10_size 10 = .ok (.aload_n 0, 1) := by decide +kernel
theorem dX10_size_11 : decode cX10_size 11 = .ok (.getfield 47, 3) := by decide +kernel
theorem dX10_size_14 : decode cX10_size 14 = .ok (.iload_n 1, 1) := by decide +kernel
theorem dX10_size_15 : decode cX10_size 15 = .ok (.baload, 1) := by decide +kernel
theorem dX10_size_16 : decode cX10_size 16 = .ok (.ifCond .eq 12, 3) := by decide +kernel
theorem dX10_size_19 : decode cX10_size 19 = .ok (.aload_n 0, 1) := by decide +kernel
theorem dX10_size_20 : decode cX10_size 20 = .ok (.getfield 51, 3) := by decide +kernel
theorem dX10_size_23 : decode cX10_size 23 = .ok (.iload_n 1, 1) := by decide +kernel
theorem dX10_size_24 : decode cX10_size 24 = .ok (.iaload, 1) := by decide +kernel
theorem dX10_size_25 : decode cX10_size 25 = .ok (.goto 4, 3) := by decide +kernel
theorem dX10_size_28 : decode cX10_size 28 = .ok (.iconst (-1), 1) := by decide +kernel
theorem dX10_size_29 : decode cX10_size 29 = .ok (.ireturn, 1) := by decide +kernel
theorem dX10_value_0 : decode cX10_value 0 = .ok (.iload_n 1, 1) := by decide +kernel
theorem dX10_value_1 : decode cX10_value 1 = .ok (.invokestatic 111, 3) := by decide +kernel
theorem dX10_value_4 : decode cX10_value 4 = .ok (.ifCond .eq 27, 3) := by decide +kernel
theorem dX10_value_7 : decode cX10_value 7 = .ok (.aload_n 0, 1) := by decide +kernel
theorem dX10_value_8 : decode cX10_value 8 = .ok (.iload_n 1, 1) := by decide +kernel
theorem dX10_value_9 : decode cX10_value 9 = .ok (.iload_n 2, 1) := by decide +kernel
theorem dX10_value_10 : decode cX10_value 10 = .ok (.iconst 1, 1) := by decide +kernel
theorem dX10_value_11 : decode cX10_value 11 = .ok (.invokevirtual 244, 3) := by decide +kernel
theorem dX10_value_14 : decode cX10_value 14 = .ok (.ifCond .ne 17, 3) := by decide +kernel
theorem dX10_value_17 : decode cX10_value 17 = .ok (.aload_n 0, 1) := by decide +kernel
theorem dX10_value_18 : decode cX10_value 18 = .ok (.getfield 54, 3) := by decide +kernel
theorem dX10_value_21 : decode cX10_value 21 = .ok (.bipush 16, 2) := by decide +kernel
theorem dX10_value_23 : decode cX10_value 23 = .ok (.iload_n 1, 1) := by decide +kernel
theorem dX10_value_24 : decode cX10_value 24 = .ok (.imul, 1) := by decide +kernel
theorem dX10_value_25 : decode cX10_value 25 = .ok (.iload_n 2, 1) := by decide +kernel
theorem dX10_value_26 : decode cX10_value 26 = .ok (.iadd, 1) := by decide +kernel
theorem dX10_value_27 : decode cX10_value 27 = .ok (.daload, 1) := by decide +kernel
theorem dX10_value_28 : decode cX10_value 28 = .ok (.goto 4, 3) := by decide +kernel
theorem dX10_value_31 : decode cX10_value 31 = .ok (.dconst 0, 1) := by decide +kernel
theorem dX10_value_32 : decode cX10_value 32 = .ok (.dreturn, 1) := by decide +kernel
theorem dX10_isFitted_0 : decode cX10_isFitted 0 = .ok (.iload_n 1, 1) := by decide +kernel
theorem dX10_isFitted_1 : decode cX10_isFitted 1 = .ok (.invokestatic 111, 3) := by decide +kernel
theorem dX10_isFitted_4 : decode cX10_isFitted 4 = .ok (.ifCond .eq 23, 3) := by decide +kernel
theorem dX10_isFitted_7 : decode cX10_isFitted 7 = .ok (.iload_n 1, 1) := by decide +kernel
theorem dX10_isFitted_8 : decode cX10_isFitted 8 = .ok (.bipush 16, 2) := by decide +kernel
theorem dX10_isFitted_10 : decode cX10_isFitted 10 = .ok (.if_icmp .lt 17, 3) := by decide +kernel
theorem dX10_isFitted_13 : decode cX10_isFitted 13 = .ok (.aload_n 0, 1) := by decide +kernel
theorem dX10_isFitted_14 : decode cX10_isFitted 14 = .ok (.iload_n 1, 1) := by decide +kernel
theorem dX10_isFitted_15 : decode cX10_isFitted 15 = .ok (.iload_n 2, 1) := by decide +kernel
theorem dX10_isFitted_16 : decode cX10_isFitted 16 = .ok (.iconst 1, 1) := by decide +kernel
theorem dX10_isFitted_17 : decode cX10_isFitted 17 = .ok (.invokevirtual 244, 3) := by decide +kernel
theorem dX10_isFitted_20 : decode cX10_isFitted 20 = .ok (.ifCond .ne 7, 3) := by decide +kernel
theorem dX10_isFitted_23 : decode cX10_isFitted 23 = .ok (.iconst 1, 1) := by decide +kernel
theorem dX10_isFitted_24 : decode cX10_isFitted 24 = .ok (.goto 4, 3) := by decide +kernel
theorem dX10_isFitted_27 : decode cX10_isFitted 27 = .ok (.iconst 0, 1) := by decide +kernel
theorem dX10_isFitted_28 : decode cX10_isFitted 28 = .ok (.ireturn, 1) := by decide +kernel
theorem dX10_log_0 : decode cX10_log 0 = .ok (.iload_n 1, 1) := by decide +kernel
theorem dX10_log_1 : decode cX10_log 1 = .ok (.iconst 0, 1) := by decide +kernel
theorem dX10_log_2 : decode cX10_log 2 = .ok (.aload_n 0, 1) := by decide +kernel
theorem dX10_log_3 : decode cX10_log 3 = .ok (.getfield 207, 3) := by decide +kernel
theorem dX10_log_6 : decode cX10_log 6 = .ok (.iconst 1, 1) := by decide +kernel
theorem dX10_log_7 : decode cX10_log 7 = .ok (.isub, 1) := by decide +kernel
theorem dX10_log_8 : decode cX10_log 8 = .ok (.invokestatic 100, 3) := by decide +kernel
theorem dX10_log_11 : decode cX10_log 11 = .ok (.ifCond .eq 12, 3) := by decide +kernel
theorem dX10_log_14 : decode cX10_log 14 = .ok (.aload_n 0, 1) := by decide +kernel
theorem dX10_log_15 : decode cX10_log 15 = .ok (.getfield 94, 3) := by decide +kernel
theorem dX10_log_18 : decode cX10_log 18 = .ok (.iload_n 1, 1) := by decide +kernel
theorem dX10_log_19 : decode cX10_log 19 = .ok (.daload, 1) := by decide +kernel
theorem dX10_log_20 : decode cX10_log 20 = .ok (.goto 4, 3) := by decide +kernel
theorem dX10_log_23 : decode cX10_log 23 = .ok (.dconst 0, 1) := by decide +kernel
theorem dX10_log_24 : decode cX10_log 24 = .ok (.dreturn, 1) := by decide +kernel
theorem dX10_isMinus_0 : decode cX10_isMinus 0 = .ok (.iload_n 1, 1) := by decide +kernel
theorem dX10_isMinus_1 : decode cX10_isMinus 1 = .ok (.iconst 0, 1) := by decide +kernel
theorem dX10_isMinus_2 : decode cX10_isMinus 2 = .ok (.aload_n 0, 1) := by decide +kernel
theorem dX10_isMinus_3 : decode cX10_isMinus 3 = .ok (.getfield 207, 3) := by decide +kernel
theorem dX10_isMinus_6 : decode cX10_isMinus 6 = .ok (.iconst 1, 1) := by decide +kernel
theorem dX10_isMinus_7 : decode cX10_isMinus 7 = .ok (.isub, 1) := by decide +kernel
theorem dX10_isMinus_8 : decode cX10_isMinus 8 = .ok (.invokestatic 100, 3) := by decide +kernel
theorem dX10_isMinus_11 : decode cX10_isMinus 11 = .ok (.ifCond .eq 19, 3) := by decide +kernel
theorem dX10_isMinus_14 : decode cX10_isMinus 14 = .ok (.aload_n 0, 1) := by decide +kernel
theorem dX10_isMinus_15 : decode cX10_isMinus 15 = .ok (.getfield 94, 3) := by decide +kernel
theorem dX10_isMinus_18 : decode cX10_isMinus 18 = .ok (.iload_n 1, 1) := by decide +kernel
theorem dX10_isMinus_19 : decode cX10_isMinus 19 = .ok (.daload, 1) := by decide +kernel
theorem dX10_isMinus_20 : decode cX10_isMinus 20 = .ok (.invokestatic 272, 3) := by decide +kernel
theorem dX10_isMinus_23 : decode cX10_isMinus 23 = .ok (.ifCond .eq 7, 3) := by decide +kernel
theorem dX10_isMinus_26 : decode cX10_isMinus 26 = .ok (.iconst 1, 1) := by decide +kernel
theorem dX10_isMinus_27 : decode cX10_isMinus 27 = .ok (.goto 4, 3) := by decide +kernel
theorem dX10_isMinus_30 : decode cX10_isMinus 30 = .ok (.iconst 0, 1) := by decide +kernel
theorem dX10_isMinus_31 : decode cX10_isMinus 31 = .ok (.ireturn, 1) := by decide +kernel
theorem dX10_count_0 : decode cX10_count 0 = .ok (.iload_n 1, 1) := by decide +kernel
theorem dX10_count_1 : decode cX10_count 1 = .ok (.tableswitch 79 0 5 #[39, 49, 59, 64, 69, 74], 39) := by decide +kernel
theorem dX10_count_40 : decode cX10_count 40 = .ok (.aload_n 0, 1) := by decide +kernel
theorem dX10_count_41 : decode cX10_count 41 = .ok (.getfield 28, 3) := by decide +kernel
theorem dX10_count_44 : decode cX10_count 44 = .ok (.aload_n 0, 1) := by decide +kernel
theorem dX10_count_45 : decode cX10_count 45 = .ok (.getfield 104, 3) := by decide +kernel
theorem dX10_count_48 : decode cX10_count 48 = .ok (.iaload, 1) := by decide +kernel
theorem dX10_count_49 : decode cX10_count 49 = .ok (.ireturn, 1) := by decide +kernel
theorem dX10_count_50 : decode cX10_count 50 = .ok (.aload_n 0, 1) := by decide +kernel
theorem dX10_count_51 : decode cX10_count 51 = .ok (.getfield 31, 3) := by decide +kernel
theorem dX10_count_54 : decode cX10_count 54 = .ok (.aload_n 0, 1) := by decide +kernel
theorem dX10_count_55 : decode cX10_count 55 = .ok (.getfield 104, 3) := by decide +kernel
theorem dX10_count_58 : decode cX10_count 58 = .ok (.iaload, 1) := by decide +kernel
theorem dX10_count_59 : decode cX10_count 59 = .ok (.ireturn, 1) := by decide +kernel
theorem dX10_count_60 : decode cX10_count 60 = .ok (.aload_n 0, 1) := by decide +kernel
theorem dX10_count_61 : decode cX10_count 61 = .ok (.getfield 184, 3) := by decide +kernel
theorem dX10_count_64 : decode cX10_count 64 = .ok (.ireturn, 1) := by decide +kernel
theorem dX10_count_65 : decode cX10_count 65 = .ok (.aload_n 0, 1) := by decide +kernel
theorem dX10_count_66 : decode cX10_count 66 = .ok (.getfield 207, 3) := by decide +kernel
theorem dX10_count_69 : decode cX10_count 69 = .ok (.ireturn, 1) := by decide +kernel
theorem dX10_count_70 : decode cX10_count 70 = .ok (.aload_n 0, 1) := by decide +kernel
theorem dX10_count_71 : decode cX10_count 71 = .ok (.getfield 175, 3) := by decide +kernel
theorem dX10_count_74 : decode cX10_count 74 = .ok (.ireturn, 1) := by decide +kernel
theorem dX10_count_75 : decode cX10_count 75 = .ok (.aload_n 0, 1) := by decide +kernel
theorem dX10_count_76 : decode cX10_count 76 = .ok (.getfield 166, 3) := by decide +kernel
theorem dX10_count_79 : decode cX10_count 79 = .ok (.ireturn, 1) := by decide +kernel
theorem dX10_count_80 : decode cX10_count 80 = .ok (.iconst (-1), 1) := by decide +kernel
theorem dX10_count_81 : decode cX10_count 81 = .ok (.ireturn, 1) := by decide +kernel
theorem dX10_fault_0 : decode cX10_fault 0 = .ok (.aload_n 0, 1) := by decide +kernel
theorem dX10_fault_1 : decode cX10_fault 1 = .ok (.getfield 75, 3) := by decide +kernel
theorem dX10_fault_4 : decode cX10_fault 4 = .ok (.ifCond .ge 5, 3) := by decide +kernel
theorem dX10_fault_7 : decode cX10_fault 7 = .ok (.iconst (-1), 1) := by decide +kernel
theorem dX10_fault_8 : decode cX10_fault 8 = .ok (.ireturn, 1) := by decide +kernel
theorem dX10_fault_9 : decode cX10_fault 9 = .ok (.iload_n 1, 1) := by decide +kernel
theorem dX10_fault_10 : decode cX10_fault 10 = .ok (.tableswitch 110 0 5 #[38, 48, 58, 67, 77, 87], 38) := by decide +kernel
theorem dX10_fault_48 : decode cX10_fault 48 = .ok (.aload_n 0, 1) := by decide +kernel
theorem dX10_fault_49 : decode cX10_fault 49 = .ok (.getfield 60, 3) := by decide +kernel
theorem dX10_fault_52 : decode cX10_fault 52 = .ok (.aload_n 0, 1) := by decide +kernel
theorem dX10_fault_53 : decode cX10_fault 53 = .ok (.getfield 75, 3) := by decide +kernel
theorem dX10_fault_56 : decode cX10_fault 56 = .ok (.iaload, 1) := by decide +kernel
theorem dX10_fault_57 : decode cX10_fault 57 = .ok (.ireturn, 1) := by decide +kernel
theorem dX10_fault_58 : decode cX10_fault 58 = .ok (.aload_n 0, 1) := by decide +kernel
theorem dX10_fault_59 : decode cX10_fault 59 = .ok (.getfield 63, 3) := by decide +kernel
theorem dX10_fault_62 : decode cX10_fault 62 = .ok (.aload_n 0, 1) := by decide +kernel
theorem dX10_fault_63 : decode cX10_fault 63 = .ok (.getfield 75, 3) := by decide +kernel
theorem dX10_fault_66 : decode cX10_fault 66 = .ok (.iaload, 1) := by decide +kernel
theorem dX10_fault_67 : decode cX10_fault 67 = .ok (.ireturn, 1) := by decide +kernel
theorem dX10_fault_68 : decode cX10_fault 68 = .ok (.aload_n 0, 1) := by decide +kernel
theorem dX10_fault_69 : decode cX10_fault 69 = .ok (.aload_n 0, 1) := by decide +kernel
theorem dX10_fault_70 : decode cX10_fault 70 = .ok (.getfield 75, 3) := by decide +kernel
theorem dX10_fault_73 : decode cX10_fault 73 = .ok (.invokevirtual 229, 3) := by decide +kernel
theorem dX10_fault_76 : decode cX10_fault 76 = .ok (.ireturn, 1) := by decide +kernel
theorem dX10_fault_77 : decode cX10_fault 77 = .ok (.aload_n 0, 1) := by decide +kernel
theorem dX10_fault_78 : decode cX10_fault 78 = .ok (.getfield 66, 3) := by decide +kernel
theorem dX10_fault_81 : decode cX10_fault 81 = .ok (.aload_n 0, 1) := by decide +kernel
theorem dX10_fault_82 : decode cX10_fault 82 = .ok (.getfield 75, 3) := by decide +kernel
theorem dX10_fault_85 : decode cX10_fault 85 = .ok (.iaload, 1) := by decide +kernel
theorem dX10_fault_86 : decode cX10_fault 86 = .ok (.ireturn, 1) := by decide +kernel
theorem dX10_fault_87 : decode cX10_fault 87 = .ok (.aload_n 0, 1) := by decide +kernel
theorem dX10_fault_88 : decode cX10_fault 88 = .ok (.getfield 72, 3) := by decide +kernel
theorem dX10_fault_91 : decode cX10_fault 91 = .ok (.aload_n 0, 1) := by decide +kernel
theorem dX10_fault_92 : decode cX10_fault 92 = .ok (.getfield 75, 3) := by decide +kernel
theorem dX10_fault_95 : decode cX10_fault 95 = .ok (.iaload, 1) := by decide +kernel
theorem dX10_fault_96 : decode cX10_fault 96 = .ok (.ireturn, 1) := by decide +kernel
theorem dX10_fault_97 : decode cX10_fault 97 = .ok (.aload_n 0, 1) := by decide +kernel
theorem dX10_fault_98 : decode cX10_fault 98 = .ok (.getfield 63, 3) := by decide +kernel
theorem dX10_fault_101 : decode cX10_fault 101 = .ok (.aload_n 0, 1) := by decide +kernel
theorem dX10_fault_102 : decode cX10_fault 102 = .ok (.aload_n 0, 1) := by decide +kernel
theorem dX10_fault_103 : decode cX10_fault 103 = .ok (.getfield 75, 3) := by decide +kernel
theorem dX10_fault_106 : decode cX10_fault 106 = .ok (.aload_n 0, 1) := by decide +kernel
theorem dX10_fault_107 : decode cX10_fault 107 = .ok (.getfield 72, 3) := by decide +kernel
theorem dX10_fault_110 : decode cX10_fault 110 = .ok (.aload_n 0, 1) := by decide +kernel
theorem dX10_fault_111 : decode cX10_fault 111 = .ok (.getfield 75, 3) := by decide +kernel
theorem dX10_fault_114 : decode cX10_fault 114 = .ok (.iaload, 1) := by decide +kernel
theorem dX10_fault_115 : decode cX10_fault 115 = .ok (.invokevirtual 148, 3) := by decide +kernel
theorem dX10_fault_118 : decode cX10_fault 118 = .ok (.iaload, 1) := by decide +kernel
theorem dX10_fault_119 : decode cX10_fault 119 = .ok (.ireturn, 1) := by decide +kernel
theorem dX10_fault_120 : decode cX10_fault 120 = .ok (.iconst (-1), 1) := by decide +kernel
theorem dX10_fault_121 : decode cX10_fault 121 = .ok (.ireturn, 1) := by decide +kernel
theorem dJ9_max_7cf53_0 : decode cJ9_max_7cf53 0 = .ok (.iload_n 0, 1) := by decide +kernel
theorem dJ9_max_7cf53_1 : decode cJ9_max_7cf53 1 = .ok (.iload_n 1, 1) := by decide +kernel
theorem dJ9_max_7cf53_2 : decode cJ9_max_7cf53 2 = .ok (.if_icmp .lt 7, 3) := by decide +kernel
theorem dJ9_max_7cf53_5 : decode cJ9_max_7cf53 5 = .ok (.iload_n 0, 1) := by decide +kernel
theorem dJ9_max_7cf53_6 : decode cJ9_max_7cf53 6 = .ok (.goto 4, 3) := by decide +kernel
theorem dJ9_max_7cf53_9 : decode cJ9_max_7cf53 9 = .ok (.iload_n 1, 1) := by decide +kernel
theorem dJ9_max_7cf53_10 : decode cJ9_max_7cf53 10 = .ok (.ireturn, 1) := by decide +kernel
theorem dL_law_0 : decode cL_law 0 = .ok (.new 7, 3) := by decide +kernel
theorem dL_law_3 : decode cL_law 3 = .ok (.dup, 1) := by decide +kernel
theorem dL_law_4 : decode cL_law 4 = .ok (.invokespecial 9, 3) := by decide +kernel
theorem dL_law_7 : decode cL_law 7 = .ok (.astore_n 1, 1) := by decide +kernel
theorem dL_law_8 : decode cL_law 8 = .ok (.new 10, 3) := by decide +kernel
theorem dL_law_11 : decode cL_law 11 = .ok (.dup, 1) := by decide +kernel
theorem dL_law_12 : decode cL_law 12 = .ok (.invokespecial 12, 3) := by decide +kernel
theorem dL_law_15 : decode cL_law 15 = .ok (.astore_n 2, 1) := by decide +kernel
theorem dL_law_16 : decode cL_law 16 = .ok (.iconst 0, 1) := by decide +kernel
theorem dL_law_17 : decode cL_law 17 = .ok (.istore_n 3, 1) := by decide +kernel
theorem dL_law_18 : decode cL_law 18 = .ok (.iload_n 3, 1) := by decide +kernel
theorem dL_law_19 : decode cL_law 19 = .ok (.aload_n 0, 1) := by decide +kernel
theorem dL_law_20 : decode cL_law 20 = .ok (.arraylength, 1) := by decide +kernel
theorem dL_law_21 : decode cL_law 21 = .ok (.iconst 5, 1) := by decide +kernel
theorem dL_law_22 : decode cL_law 22 = .ok (.isub, 1) := by decide +kernel
theorem dL_law_23 : decode cL_law 23 = .ok (.if_icmp .gt 469, 3) := by decide +kernel
theorem dL_law_26 : decode cL_law 26 = .ok (.aload_n 0, 1) := by decide +kernel
theorem dL_law_27 : decode cL_law 27 = .ok (.iload_n 3, 1) := by decide +kernel
theorem dL_law_28 : decode cL_law 28 = .ok (.iaload, 1) := by decide +kernel
theorem dL_law_29 : decode cL_law 29 = .ok (.bipush 15, 2) := by decide +kernel
theorem dL_law_31 : decode cL_law 31 = .ok (.iand, 1) := by decide +kernel
theorem dL_law_32 : decode cL_law 32 = .ok (.tableswitch 454 0 11 #[64, 87, 140, 153, 166, 217, 240, 301, 334, 385, 408, 431], 64) := by decide +kernel
theorem dL_law_96 : decode cL_law 96 = .ok (.aload_n 1, 1) := by decide +kernel
theorem dL_law_97 : decode cL_law 97 = .ok (.aload_n 0, 1) := by decide +kernel
theorem dL_law_98 : decode cL_law 98 = .ok (.iload_n 3, 1) := by decide +kernel
theorem dL_law_99 : decode cL_law 99 = .ok (.iconst 1, 1) := by decide +kernel
theorem dL_law_100 : decode cL_law 100 = .ok (.iadd, 1) := by decide +kernel
theorem dL_law_101 : decode cL_law 101 = .ok (.iaload, 1) := by decide +kernel
theorem dL_law_102 : decode cL_law 102 = .ok (.invokevirtual 13, 3) := by decide +kernel
theorem dL_law_105 : decode cL_law 105 = .ok (.aload_n 2, 1) := by decide +kernel
theorem dL_law_106 : decode cL_law 106 = .ok (.aload_n 0, 1) := by decide +kernel
theorem dL_law_107 : decode cL_law 107 = .ok (.iload_n 3, 1) := by decide +kernel
theorem dL_law_108 : decode cL_law 108 = .ok (.iconst 1, 1) := by decide +kernel
theorem dL_law_109 : decode cL_law 109 = .ok (.iadd, 1) := by decide +kernel
theorem dL_law_110 : decode cL_law 110 = .ok (.iaload, 1) := by decide +kernel
theorem dL_law_111 : decode cL_law 111 = .ok (.invokevirtual 17, 3) := by decide +kernel
theorem dL_law_114 : decode cL_law 114 = .ok (.if_icmp .eq 372, 3) := by decide +kernel
theorem dL_law_117 : decode cL_law 117 = .ok (.iconst 0, 1) := by decide +kernel
theorem dL_law_118 : decode cL_law 118 = .ok (.ireturn, 1) := by decide +kernel
theorem dL_law_119 : decode cL_law 119 = .ok (.aload_n 1, 1) := by decide +kernel
theorem dL_law_120 : decode cL_law 120 = .ok (.aload_n 0, 1) := by decide +kernel
theorem dL_law_121 : decode cL_law 121 = .ok (.iload_n 3, 1) := by decide +kernel
theorem dL_law_122 : decode cL_law 122 = .ok (.iconst 1, 1) := by decide +kernel
theorem dL_law_123 : decode cL_law 123 = .ok (.iadd, 1) := by decide +kernel
theorem dL_law_124 : decode cL_law 124 = .ok (.iaload, 1) := by decide +kernel
theorem dL_law_125 : decode cL_law 125 = .ok (.aload_n 0, 1) := by decide +kernel
theorem dL_law_126 : decode cL_law 126 = .ok (.iload_n 3, 1) := by decide +kernel
theorem dL_law_127 : decode cL_law 127 = .ok (.iconst 2, 1) := by decide +kernel
theorem dL_law_128 : decode cL_law 128 = .ok (.iadd, 1) := by decide +kernel
theorem dL_law_129 : decode cL_law 129 = .ok (.iaload, 1) := by decide +kernel
theorem dL_law_130 : decode cL_law 130 = .ok (.aload_n 0, 1) := by decide +kernel
theorem dL_law_131 : decode cL_law 131 = .ok (.iload_n 3, 1) := by decide +kernel
theorem dL_law_132 : decode cL_law 132 = .ok (.iconst 3, 1) := by decide +kernel
theorem dL_law_133 : decode cL_law 133 = .ok (.iadd, 1) := by decide +kernel
theorem dL_law_134 : decode cL_law 134 = .ok (.iaload, 1) := by decide +kernel
theorem dL_law_135 : decode cL_law 135 = .ok (.aload_n 0, 1) := by decide +kernel
theorem dL_law_136 : decode cL_law 136 = .ok (.iload_n 3, 1) := by decide +kernel
theorem dL_law_137 : decode cL_law 137 = .ok (.iconst 4, 1) := by decide +kernel
theorem dL_law_138 : decode cL_law 138 = .ok (.iadd, 1) := by decide +kernel
theorem dL_law_139 : decode cL_law 139 = .ok (.iaload, 1) := by decide +kernel
theorem dL_law_140 : decode cL_law 140 = .ok (.invokevirtual 18, 3) := by decide +kernel
theorem dL_law_143 : decode cL_law 143 = .ok (.aload_n 2, 1) := by decide +kernel
theorem dL_law_144 : decode cL_law 144 = .ok (.aload_n 0, 1) := by decide +kernel
theorem dL_law_145 : decode cL_law 145 = .ok (.iload_n 3, 1) := by decide +kernel
theorem dL_law_146 : decode cL_law 146 = .ok (.iconst 1, 1) := by decide +kernel
theorem dL_law_147 : decode cL_law 147 = .ok (.iadd, 1) := by decide +kernel
theorem dL_law_148 : decode cL_law 148 = .ok (.iaload, 1) := by decide +kernel
theorem dL_law_149 : decode cL_law 149 = .ok (.aload_n 0, 1) := by decide +kernel
theorem dL_law_150 : decode cL_law 150 = .ok (.iload_n 3, 1) := by decide +kernel
theorem dL_law_151 : decode cL_law 151 = .ok (.iconst 2, 1) := by decide +kernel
theorem dL_law_152 : decode cL_law 152 = .ok (.iadd, 1) := by decide +kernel
theorem dL_law_153 : decode cL_law 153 = .ok (.iaload, 1) := by decide +kernel
theorem dL_law_154 : decode cL_law 154 = .ok (.aload_n 0, 1) := by decide +kernel
theorem dL_law_155 : decode cL_law 155 = .ok (.iload_n 3, 1) := by decide +kernel
theorem dL_law_156 : decode cL_law 156 = .ok (.iconst 3, 1) := by decide +kernel
theorem dL_law_157 : decode cL_law 157 = .ok (.iadd, 1) := by decide +kernel
theorem dL_law_158 : decode cL_law 158 = .ok (.iaload, 1) := by decide +kernel
theorem dL_law_159 : decode cL_law 159 = .ok (.aload_n 0, 1) := by decide +kernel
theorem dL_law_160 : decode cL_law 160 = .ok (.iload_n 3, 1) := by decide +kernel
theorem dL_law_161 : decode cL_law 161 = .ok (.iconst 4, 1) := by decide +kernel
theorem dL_law_162 : decode cL_law 162 = .ok (.iadd, 1) := by decide +kernel
theorem dL_law_163 : decode cL_law 163 = .ok (.iaload, 1) := by decide +kernel
theorem dL_law_164 : decode cL_law 164 = .ok (.invokevirtual 22, 3) := by decide +kernel
theorem dL_law_167 : decode cL_law 167 = .ok (.if_icmp .eq 319, 3) := by decide +kernel
theorem dL_law_170 : decode cL_law 170 = .ok (.iconst 0, 1) := by decide +kernel
theorem dL_law_171 : decode cL_law 171 = .ok (.ireturn, 1) := by decide +kernel
theorem dL_law_172 : decode cL_law 172 = .ok (.aload_n 1, 1) := by decide +kernel
theorem dL_law_173 : decode cL_law 173 = .ok (.invokevirtual 23, 3) := by decide +kernel
theorem dL_law_176 : decode cL_law 176 = .ok (.aload_n 2, 1) := by decide +kernel
theorem dL_law_177 : decode cL_law 177 = .ok (.invokevirtual 27, 3) := by decide +kernel
theorem dL_law_180 : decode cL_law 180 = .ok (.if_icmp .eq 306, 3) := by decide +kernel
theorem dL_law_183 : decode cL_law 183 = .ok (.iconst 0, 1) := by decide +kernel
theorem dL_law_184 : decode cL_law 184 = .ok (.ireturn, 1) := by decide +kernel
theorem dL_law_185 : decode cL_law 185 = .ok (.aload_n 1, 1) := by decide +kernel
theorem dL_law_186 : decode cL_law 186 = .ok (.invokevirtual 28, 3) := by decide +kernel
theorem dL_law_189 : decode cL_law 189 = .ok (.aload_n 2, 1) := by decide +kernel
theorem dL_law_190 : decode cL_law 190 = .ok (.invokevirtual 31, 3) := by decide +kernel
theorem dL_law_193 : decode cL_law 193 = .ok (.if_icmp .eq 293, 3) := by decide +kernel
theorem dL_law_196 : decode cL_law 196 = .ok (.iconst 0, 1) := by decide +kernel
theorem dL_law_197 : decode cL_law 197 = .ok (.ireturn, 1) := by decide +kernel
theorem dL_law_198 : decode cL_law 198 = .ok (.aload_n 1, 1) := by decide +kernel
theorem dL_law_199 : decode cL_law 199 = .ok (.aload_n 0, 1) := by decide +kernel
theorem dL_law_200 : decode cL_law 200 = .ok (.iload_n 3, 1) := by decide +kernel
theorem dL_law_201 : decode cL_law 201 = .ok (.iconst 1, 1) := by decide +kernel
theorem dL_law_202 : decode cL_law 202 = .ok (.iadd, 1) := by decide +kernel
theorem dL_law_203 : decode cL_law 203 = .ok (.iaload, 1) := by decide +kernel
theorem dL_law_204 : decode cL_law 204 = .ok (.invokevirtual 32, 3) := by decide +kernel
theorem dL_law_207 : decode cL_law 207 = .ok (.dstore 4, 2) := by decide +kernel
theorem dL_law_209 : decode cL_law 209 = .ok (.aload_n 2, 1) := by decide +kernel
theorem dL_law_210 : decode cL_law 210 = .ok (.aload_n 0, 1) := by decide +kernel
theorem dL_law_211 : decode cL_law 211 = .ok (.iload_n 3, 1) := by decide +kernel
theorem dL_law_212 : decode cL_law 212 = .ok (.iconst 1, 1) := by decide +kernel
theorem dL_law_213 : decode cL_law 213 = .ok (.iadd, 1) := by decide +kernel
theorem dL_law_214 : decode cL_law 214 = .ok (.iaload, 1) := by decide +kernel
theorem dL_law_215 : decode cL_law 215 = .ok (.invokevirtual 36, 3) := by decide +kernel
theorem dL_law_218 : decode cL_law 218 = .ok (.dstore 6, 2) := by decide +kernel
theorem dL_law_220 : decode cL_law 220 = .ok (.dload 4, 2) := by decide +kernel
theorem dL_law_222 : decode cL_law 222 = .ok (.dload 6, 2) := by decide +kernel
theorem dL_law_224 : decode cL_law 224 = .ok (.dcmp .l, 1) := by decide +kernel
theorem dL_law_225 : decode cL_law 225 = .ok (.ifCond .eq 21, 3) := by decide +kernel
theorem dL_law_228 : decode cL_law 228 = .ok (.dload 4, 2) := by decide +kernel
theorem dL_law_230 : decode cL_law 230 = .ok (.dload 4, 2) := by decide +kernel
theorem dL_law_232 : decode cL_law 232 = .ok (.dcmp .l, 1) := by decide +kernel
theorem dL_law_233 : decode cL_law 233 = .ok (.ifCond .eq 11, 3) := by decide +kernel
theorem dL_law_236 : decode cL_law 236 = .ok (.dload 6, 2) := by decide +kernel
theorem dL_law_238 : decode cL_law 238 = .ok (.dload 6, 2) := by decide +kernel
theorem dL_law_240 : decode cL_law 240 = .ok (.dcmp .l, 1) := by decide +kernel
theorem dL_law_241 : decode cL_law 241 = .ok (.ifCond .ne 5, 3) := by decide +kernel
theorem dL_law_244 : decode cL_law 244 = .ok (.iconst 0, 1) := by decide +kernel
theorem dL_law_245 : decode cL_law 245 = .ok (.ireturn, 1) := by decide +kernel
theorem dL_law_246 : decode cL_law 246 = .ok (.goto 240, 3) := by decide +kernel
theorem dL_law_249 : decode cL_law 249 = .ok (.aload_n 1, 1) := by decide +kernel
theorem dL_law_250 : decode cL_law 250 = .ok (.aload_n 0, 1) := by decide +kernel
theorem dL_law_251 : decode cL_law 251 = .ok (.iload_n 3, 1) := by decide +kernel
theorem dL_law_252 : decode cL_law 252 = .ok (.iconst 1, 1) := by decide +kernel
theorem dL_law_253 : decode cL_law 253 = .ok (.iadd, 1) := by decide +kernel
theorem dL_law_254 : decode cL_law 254 = .ok (.iaload, 1) := by decide +kernel
theorem dL_law_255 : decode cL_law 255 = .ok (.invokevirtual 37, 3) := by decide +kernel
theorem dL_law_258 : decode cL_law 258 = .ok (.aload_n 2, 1) := by decide +kernel
theorem dL_law_259 : decode cL_law 259 = .ok (.aload_n 0, 1) := by decide +kernel
theorem dL_law_260 : decode cL_law 260 = .ok (.iload_n 3, 1) := by decide +kernel
theorem dL_law_261 : decode cL_law 261 = .ok (.iconst 1, 1) := by decide +kernel
theorem dL_law_262 : decode cL_law 262 = .ok (.iadd, 1) := by decide +kernel
theorem dL_law_263 : decode cL_law 263 = .ok (.iaload, 1) := by decide +kernel
theorem dL_law_264 : decode cL_law 264 = .ok (.invokevirtual 40, 3) := by decide +kernel
theorem dL_law_267 : decode cL_law 267 = .ok (.if_icmp .eq 219, 3) := by decide +kernel
theorem dL_law_270 : decode cL_law 270 = .ok (.iconst 0, 1) := by decide +kernel
theorem dL_law_271 : decode cL_law 271 = .ok (.ireturn, 1) := by decide +kernel
theorem dL_law_272 : decode cL_law 272 = .ok (.aload_n 1, 1) := by decide +kernel
theorem dL_law_273 : decode cL_law 273 = .ok (.aload_n 0, 1) := by decide +kernel
theorem dL_law_274 : decode cL_law 274 = .ok (.iload_n 3, 1) := by decide +kernel
theorem dL_law_275 : decode cL_law 275 = .ok (.iconst 1, 1) := by decide +kernel
theorem dL_law_276 : decode cL_law 276 = .ok (.iadd, 1) := by decide +kernel
theorem dL_law_277 : decode cL_law 277 = .ok (.iaload, 1) := by decide +kernel
theorem dL_law_278 : decode cL_law 278 = .ok (.aload_n 0, 1) := by decide +kernel
theorem dL_law_279 : decode cL_law 279 = .ok (.iload_n 3, 1) := by decide +kernel
theorem dL_law_280 : decode cL_law 280 = .ok (.iconst 2, 1) := by decide +kernel
theorem dL_law_281 : decode cL_law 281 = .ok (.iadd, 1) := by decide +kernel
theorem dL_law_282 : decode cL_law 282 = .ok (.iaload, 1) := by decide +kernel
theorem dL_law_283 : decode cL_law 283 = .ok (.invokevirtual 41, 3) := by decide +kernel
theorem dL_law_286 : decode cL_law 286 = .ok (.dstore 4, 2) := by decide +kernel
theorem dL_law_288 : decode cL_law 288 = .ok (.aload_n 2, 1) := by decide +kernel
theorem dL_law_289 : decode cL_law 289 = .ok (.aload_n 0, 1) := by decide +kernel
theorem dL_law_290 : decode cL_law 290 = .ok (.iload_n 3, 1) := by decide +kernel
theorem dL_law_291 : decode cL_law 291 = .ok (.iconst 1, 1) := by decide +kernel
theorem dL_law_292 : decode cL_law 292 = .ok (.iadd, 1) := by decide +kernel
theorem dL_law_293 : decode cL_law 293 = .ok (.iaload, 1) := by decide +kernel
theorem dL_law_294 : decode cL_law 294 = .ok (.aload_n 0, 1) := by decide +kernel
theorem dL_law_295 : decode cL_law 295 = .ok (.iload_n 3, 1) := by decide +kernel
theorem dL_law_296 : decode cL_law 296 = .ok (.iconst 2, 1) := by decide +kernel
theorem dL_law_297 : decode cL_law 297 = .ok (.iadd, 1) := by decide +kernel
theorem dL_law_298 : decode cL_law 298 = .ok (.iaload, 1) := by decide +kernel
theorem dL_law_299 : decode cL_law 299 = .ok (.invokevirtual 45, 3) := by decide +kernel
theorem dL_law_302 : decode cL_law 302 = .ok (.dstore 6, 2) := by decide +kernel
theorem dL_law_304 : decode cL_law 304 = .ok (.dload 4, 2) := by decide +kernel
theorem dL_law_306 : decode cL_law 306 = .ok (.dload 6, 2) := by decide +kernel
theorem dL_law_308 : decode cL_law 308 = .ok (.dcmp .l, 1) := by decide +kernel
theorem dL_law_309 : decode cL_law 309 = .ok (.ifCond .eq 21, 3) := by decide +kernel
theorem dL_law_312 : decode cL_law 312 = .ok (.dload 4, 2) := by decide +kernel
theorem dL_law_314 : decode cL_law 314 = .ok (.dload 4, 2) := by decide +kernel
theorem dL_law_316 : decode cL_law 316 = .ok (.dcmp .l, 1) := by decide +kernel
theorem dL_law_317 : decode cL_law 317 = .ok (.ifCond .eq 11, 3) := by decide +kernel
theorem dL_law_320 : decode cL_law 320 = .ok (.dload 6, 2) := by decide +kernel
theorem dL_law_322 : decode cL_law 322 = .ok (.dload 6, 2) := by decide +kernel
theorem dL_law_324 : decode cL_law 324 = .ok (.dcmp .l, 1) := by decide +kernel
theorem dL_law_325 : decode cL_law 325 = .ok (.ifCond .ne 5, 3) := by decide +kernel
theorem dL_law_328 : decode cL_law 328 = .ok (.iconst 0, 1) := by decide +kernel
theorem dL_law_329 : decode cL_law 329 = .ok (.ireturn, 1) := by decide +kernel
theorem dL_law_330 : decode cL_law 330 = .ok (.goto 156, 3) := by decide +kernel
theorem dL_law_333 : decode cL_law 333 = .ok (.aload_n 1, 1) := by decide +kernel
theorem dL_law_334 : decode cL_law 334 = .ok (.aload_n 0, 1) := by decide +kernel
theorem dL_law_335 : decode cL_law 335 = .ok (.iload_n 3, 1) := by decide +kernel
theorem dL_law_336 : decode cL_law 336 = .ok (.iconst 1, 1) := by decide +kernel
theorem dL_law_337 : decode cL_law 337 = .ok (.iadd, 1) := by decide +kernel
theorem dL_law_338 : decode cL_law 338 = .ok (.iaload, 1) := by decide +kernel
theorem dL_law_339 : decode cL_law 339 = .ok (.aload_n 0, 1) := by decide +kernel
theorem dL_law_340 : decode cL_law 340 = .ok (.iload_n 3, 1) := by decide +kernel
theorem dL_law_341 : decode cL_law 341 = .ok (.iconst 2, 1) := by decide +kernel
theorem dL_law_342 : decode cL_law 342 = .ok (.iadd, 1) := by decide +kernel
theorem dL_law_343 : decode cL_law 343 = .ok (.iaload, 1) := by decide +kernel
theorem dL_law_344 : decode cL_law 344 = .ok (.invokevirtual 46, 3) := by decide +kernel
theorem dL_law_347 : decode cL_law 347 = .ok (.aload_n 2, 1) := by decide +kernel
theorem dL_law_348 : decode cL_law 348 = .ok (.aload_n 0, 1) := by decide +kernel
theorem dL_law_349 : decode cL_law 349 = .ok (.iload_n 3, 1) := by decide +kernel
theorem dL_law_350 : decode cL_law 350 = .ok (.iconst 1, 1) := by decide +kernel
theorem dL_law_351 : decode cL_law 351 = .ok (.iadd, 1) := by decide +kernel
theorem dL_law_352 : decode cL_law 352 = .ok (.iaload, 1) := by decide +kernel
theorem dL_law_353 : decode cL_law 353 = .ok (.aload_n 0, 1) := by decide +kernel
theorem dL_law_354 : decode cL_law 354 = .ok (.iload_n 3, 1) := by decide +kernel
theorem dL_law_355 : decode cL_law 355 = .ok (.iconst 2, 1) := by decide +kernel
theorem dL_law_356 : decode cL_law 356 = .ok (.iadd, 1) := by decide +kernel
theorem dL_law_357 : decode cL_law 357 = .ok (.iaload, 1) := by decide +kernel
theorem dL_law_358 : decode cL_law 358 = .ok (.invokevirtual 50, 3) := by decide +kernel
theorem dL_law_361 : decode cL_law 361 = .ok (.if_icmp .eq 125, 3) := by decide +kernel
theorem dL_law_364 : decode cL_law 364 = .ok (.iconst 0, 1) := by decide +kernel
theorem dL_law_365 : decode cL_law 365 = .ok (.ireturn, 1) := by decide +kernel
theorem dL_law_366 : decode cL_law 366 = .ok (.aload_n 1, 1) := by decide +kernel
theorem dL_law_367 : decode cL_law 367 = .ok (.aload_n 0, 1) := by decide +kernel
theorem dL_law_368 : decode cL_law 368 = .ok (.iload_n 3, 1) := by decide +kernel
theorem dL_law_369 : decode cL_law 369 = .ok (.iconst 1, 1) := by decide +kernel
theorem dL_law_370 : decode cL_law 370 = .ok (.iadd, 1) := by decide +kernel
theorem dL_law_371 : decode cL_law 371 = .ok (.iaload, 1) := by decide +kernel
theorem dL_law_372 : decode cL_law 372 = .ok (.invokevirtual 51, 3) := by decide +kernel
theorem dL_law_375 : decode cL_law 375 = .ok (.dstore 4, 2) := by decide +kernel
theorem dL_law_377 : decode cL_law 377 = .ok (.aload_n 2, 1) := by decide +kernel
theorem dL_law_378 : decode cL_law 378 = .ok (.aload_n 0, 1) := by decide +kernel
theorem dL_law_379 : decode cL_law 379 = .ok (.iload_n 3, 1) := by decide +kernel
theorem dL_law_380 : decode cL_law 380 = .ok (.iconst 1, 1) := by decide +kernel
theorem dL_law_381 : decode cL_law 381 = .ok (.iadd, 1) := by decide +kernel
theorem dL_law_382 : decode cL_law 382 = .ok (.iaload, 1) := by decide +kernel
theorem dL_law_383 : decode cL_law 383 = .ok (.invokevirtual 54, 3) := by decide +kernel
theorem dL_law_386 : decode cL_law 386 = .ok (.dstore 6, 2) := by decide +kernel
theorem dL_law_388 : decode cL_law 388 = .ok (.dload 4, 2) := by decide +kernel
theorem dL_law_390 : decode cL_law 390 = .ok (.dload 6, 2) := by decide +kernel
theorem dL_law_392 : decode cL_law 392 = .ok (.dcmp .l, 1) := by decide +kernel
theorem dL_law_393 : decode cL_law 393 = .ok (.ifCond .eq 21, 3) := by decide +kernel
theorem dL_law_396 : decode cL_law 396 = .ok (.dload 4, 2) := by decide +kernel
theorem dL_law_398 : decode cL_law 398 = .ok (.dload 4, 2) := by decide +kernel
theorem dL_law_400 : decode cL_law 400 = .ok (.dcmp .l, 1) := by decide +kernel
theorem dL_law_401 : decode cL_law 401 = .ok (.ifCond .eq 11, 3) := by decide +kernel
theorem dL_law_404 : decode cL_law 404 = .ok (.dload 6, 2) := by decide +kernel
theorem dL_law_406 : decode cL_law 406 = .ok (.dload 6, 2) := by decide +kernel
theorem dL_law_408 : decode cL_law 408 = .ok (.dcmp .l, 1) := by decide +kernel
theorem dL_law_409 : decode cL_law 409 = .ok (.ifCond .ne 5, 3) := by decide +kernel
theorem dL_law_412 : decode cL_law 412 = .ok (.iconst 0, 1) := by decide +kernel
theorem dL_law_413 : decode cL_law 413 = .ok (.ireturn, 1) := by decide +kernel
theorem dL_law_414 : decode cL_law 414 = .ok (.goto 72, 3) := by decide +kernel
theorem dL_law_417 : decode cL_law 417 = .ok (.aload_n 1, 1) := by decide +kernel
theorem dL_law_418 : decode cL_law 418 = .ok (.aload_n 0, 1) := by decide +kernel
theorem dL_law_419 : decode cL_law 419 = .ok (.iload_n 3, 1) := by decide +kernel
theorem dL_law_420 : decode cL_law 420 = .ok (.iconst 1, 1) := by decide +kernel
theorem dL_law_421 : decode cL_law 421 = .ok (.iadd, 1) := by decide +kernel
theorem dL_law_422 : decode cL_law 422 = .ok (.iaload, 1) := by decide +kernel
theorem dL_law_423 : decode cL_law 423 = .ok (.invokevirtual 55, 3) := by decide +kernel
theorem dL_law_426 : decode cL_law 426 = .ok (.aload_n 2, 1) := by decide +kernel
theorem dL_law_427 : decode cL_law 427 = .ok (.aload_n 0, 1) := by decide +kernel
theorem dL_law_428 : decode cL_law 428 = .ok (.iload_n 3, 1) := by decide +kernel
theorem dL_law_429 : decode cL_law 429 = .ok (.iconst 1, 1) := by decide +kernel
theorem dL_law_430 : decode cL_law 430 = .ok (.iadd, 1) := by decide +kernel
theorem dL_law_431 : decode cL_law 431 = .ok (.iaload, 1) := by decide +kernel
theorem dL_law_432 : decode cL_law 432 = .ok (.invokevirtual 59, 3) := by decide +kernel
theorem dL_law_435 : decode cL_law 435 = .ok (.if_icmp .eq 51, 3) := by decide +kernel
theorem dL_law_438 : decode cL_law 438 = .ok (.iconst 0, 1) := by decide +kernel
theorem dL_law_439 : decode cL_law 439 = .ok (.ireturn, 1) := by decide +kernel
theorem dL_law_440 : decode cL_law 440 = .ok (.aload_n 1, 1) := by decide +kernel
theorem dL_law_441 : decode cL_law 441 = .ok (.aload_n 0, 1) := by decide +kernel
theorem dL_law_442 : decode cL_law 442 = .ok (.iload_n 3, 1) := by decide +kernel
theorem dL_law_443 : decode cL_law 443 = .ok (.iconst 1, 1) := by decide +kernel
theorem dL_law_444 : decode cL_law 444 = .ok (.iadd, 1) := by decide +kernel
theorem dL_law_445 : decode cL_law 445 = .ok (.iaload, 1) := by decide +kernel
theorem dL_law_446 : decode cL_law 446 = .ok (.invokevirtual 60, 3) := by decide +kernel
theorem dL_law_449 : decode cL_law 449 = .ok (.aload_n 2, 1) := by decide +kernel
theorem dL_law_450 : decode cL_law 450 = .ok (.aload_n 0, 1) := by decide +kernel
theorem dL_law_451 : decode cL_law 451 = .ok (.iload_n 3, 1) := by decide +kernel
theorem dL_law_452 : decode cL_law 452 = .ok (.iconst 1, 1) := by decide +kernel
theorem dL_law_453 : decode cL_law 453 = .ok (.iadd, 1) := by decide +kernel
theorem dL_law_454 : decode cL_law 454 = .ok (.iaload, 1) := by decide +kernel
theorem dL_law_455 : decode cL_law 455 = .ok (.invokevirtual 63, 3) := by decide +kernel
theorem dL_law_458 : decode cL_law 458 = .ok (.if_icmp .eq 28, 3) := by decide +kernel
theorem dL_law_461 : decode cL_law 461 = .ok (.iconst 0, 1) := by decide +kernel
theorem dL_law_462 : decode cL_law 462 = .ok (.ireturn, 1) := by decide +kernel
theorem dL_law_463 : decode cL_law 463 = .ok (.aload_n 1, 1) := by decide +kernel
theorem dL_law_464 : decode cL_law 464 = .ok (.aload_n 0, 1) := by decide +kernel
theorem dL_law_465 : decode cL_law 465 = .ok (.iload_n 3, 1) := by decide +kernel
theorem dL_law_466 : decode cL_law 466 = .ok (.iconst 1, 1) := by decide +kernel
theorem dL_law_467 : decode cL_law 467 = .ok (.iadd, 1) := by decide +kernel
theorem dL_law_468 : decode cL_law 468 = .ok (.iaload, 1) := by decide +kernel
theorem dL_law_469 : decode cL_law 469 = .ok (.invokevirtual 64, 3) := by decide +kernel
theorem dL_law_472 : decode cL_law 472 = .ok (.aload_n 2, 1) := by decide +kernel
theorem dL_law_473 : decode cL_law 473 = .ok (.aload_n 0, 1) := by decide +kernel
theorem dL_law_474 : decode cL_law 474 = .ok (.iload_n 3, 1) := by decide +kernel
theorem dL_law_475 : decode cL_law 475 = .ok (.iconst 1, 1) := by decide +kernel
theorem dL_law_476 : decode cL_law 476 = .ok (.iadd, 1) := by decide +kernel
theorem dL_law_477 : decode cL_law 477 = .ok (.iaload, 1) := by decide +kernel
theorem dL_law_478 : decode cL_law 478 = .ok (.invokevirtual 67, 3) := by decide +kernel
theorem dL_law_481 : decode cL_law 481 = .ok (.if_icmp .eq 5, 3) := by decide +kernel
theorem dL_law_484 : decode cL_law 484 = .ok (.iconst 0, 1) := by decide +kernel
theorem dL_law_485 : decode cL_law 485 = .ok (.ireturn, 1) := by decide +kernel
theorem dL_law_486 : decode cL_law 486 = .ok (.iinc 3 5, 3) := by decide +kernel
theorem dL_law_489 : decode cL_law 489 = .ok (.goto (-471), 3) := by decide +kernel
theorem dL_law_492 : decode cL_law 492 = .ok (.iconst 1, 1) := by decide +kernel
theorem dL_law_493 : decode cL_law 493 = .ok (.ireturn, 1) := by decide +kernel
end
section
abbrev GW : Type := (Nat × Nat) × (Nat → Nat) × (Nat → Nat) × (Nat → Nat → Int32) × (Nat → Nat → Option Nat) × (Nat → Nat → Int32) × (Nat → Nat → UInt64) × (Nat → Nat → Option Nat)
/-- the heap's size -/
def gN (w : GW) : Nat := w.1.1
/-- the slots used so far -/
def gU (w : GW) : Nat := w.1.2
/-- the kind of a cell: 0..9 objects by vwCl, 10 double[], 11 int[], 12 boolean[], 13 Routine[], 14 Row[], 15 Step[] -/
def gK (w : GW) : Nat → Nat := w.2.1
/-- an array's length -/
def gL (w : GW) : Nat → Nat := w.2.2.1
/-- int fields: 64 * class + field, address -/
def gI (w : GW) : Nat → Nat → Int32 := w.2.2.2.1
/-- reference fields -/
def gR (w : GW) : Nat → Nat → Option Nat := w.2.2.2.2.1
/-- int and boolean arrays: address, place -/
def gA (w : GW) : Nat → Nat → Int32 := w.2.2.2.2.2.1
def gD (w : GW) : Nat → Nat → UInt64 := w.2.2.2.2.2.2.1
def gP (w : GW) : Nat → Nat → Option Nat := w.2.2.2.2.2.2.2
def up2 {α : Type} (f : Nat → Nat → α) (c a : Nat) (v : α) : Nat → Nat → α := fun x y => if x = c ∧ y = a then v else f x y
theorem up2_at {α : Type} (f : Nat → Nat → α) (c a : Nat) (v : α) : up2 f c a v c a = v := by simp [up2]
theorem up2_ne {α : Type} (f : Nat → Nat → α) {c a x y : Nat} (v : α) (h : ¬ (x = c ∧ y = a)) : up2 f c a v x y = f x y := by simp only [up2, if_neg h]
def setI (w : GW) (c a : Nat) (x : Int32) : GW := (w.1, w.2.1, w.2.2.1, up2 (gI w) c a x, w.2.2.2.2)
def setR (w : GW) (c a : Nat) (x : Option Nat) : GW := (w.1, w.2.1, w.2.2.1, w.2.2.2.1, up2 (gR w) c a x, w.2.2.2.2.2)
def setA (w : GW) (c a : Nat) (x : Int32) : GW := (w.1, w.2.1, w.2.2.1, w.2.2.2.1, w.2.2.2.2.1, up2 (gA w) c a x, w.2.2.2.2.2.2)
def setD (w : GW) (c a : Nat) (x : UInt64) : GW := (w.1, w.2.1, w.2.2.1, w.2.2.2.1, w.2.2.2.2.1, w.2.2.2.2.2.1, up2 (gD w) c a x, w.2.2.2.2.2.2.2)
def setP (w : GW) (c a : Nat) (x : Option Nat) : GW := (w.1, w.2.1, w.2.2.1, w.2.2.2.1, w.2.2.2.2.1, w.2.2.2.2.2.1, w.2.2.2.2.2.2.1, up2 (gP w) c a x)
def nul2 {α : Type} (f : Nat → Nat → α) (a : Nat) (v : α) : Nat → Nat → α := fun x y => if y = a then v else f x y
def nul1 {α : Type} (f : Nat → Nat → α) (a : Nat) (v : α) : Nat → Nat → α := fun x y => if x = a then v else f x y
/-- a new object of class ci, of N fields, at the heap's end -/
def newO (w : GW) (ci N : Nat) : GW := ((gN w + 1, gU w + N), va_up (gK w) (gN w) ci, w.2.2.1, nul2 (gI w) (gN w) 0, nul2 (gR w) (gN w) none, w.2.2.2.2.2)
/-- a new array of kind kd, of L places -/
def newA (w : GW) (kd L : Nat) : GW := ((gN w + 1, gU w + L), va_up (gK w) (gN w) kd, va_up (gL w) (gN w) L, w.2.2.2.1, w.2.2.2.2.1, nul1 (gA w) (gN w) 0, nul1 (gD w) (gN w) 0, nul1 (gP w) (gN w) none)
theorem gN_setI (w : GW) (c a : Nat) (x : Int32) : gN (setI w c a x) = gN w := rfl
theorem gU_setI (w : GW) (c a : Nat) (x : Int32) : gU (setI w c a x) = gU w := rfl
theorem gK_setI (w : GW) (c a : Nat) (x : Int32) : gK (setI w c a x) = gK w := rfl
theorem gL_setI (w : GW) (c a : Nat) (x : Int32) : gL (setI w c a x) = gL w := rfl
theorem gI_setI (w : GW) (c a : Nat) (x : Int32) : gI (setI w c a x) = up2 (gI w) c a x := rfl
theorem gR_setI (w : GW) (c a : Nat) (x : Int32) : gR (setI w c a x) = gR w := rfl
theorem gA_setI (w : GW) (c a : Nat) (x : Int32) : gA (setI w c a x) = gA w := rfl
theorem gD_setI (w : GW) (c a : Nat) (x : Int32) : gD (setI w c a x) = gD w := rfl
theorem gP_setI (w : GW) (c a : Nat) (x : Int32) : gP (setI w c a x) = gP w := rfl
theorem gN_setR (w : GW) (c a : Nat) (x : Option Nat) : gN (setR w c a x) = gN w := rfl
theorem gU_setR (w : GW) (c a : Nat) (x : Option Nat) : gU (setR w c a x) = gU w := rfl
theorem gK_setR (w : GW) (c a : Nat) (x : Option Nat) : gK (setR w c a x) = gK w := rfl
theorem gL_setR (w : GW) (c a : Nat) (x : Option Nat) : gL (setR w c a x) = gL w := rfl
theorem gI_setR (w : GW) (c a : Nat) (x : Option Nat) : gI (setR w c a x) = gI w := rfl
theorem gR_setR (w : GW) (c a : Nat) (x : Option Nat) : gR (setR w c a x) = up2 (gR w) c a x := rfl
theorem gA_setR (w : GW) (c a : Nat) (x : Option Nat) : gA (setR w c a x) = gA w := rfl
theorem gD_setR (w : GW) (c a : Nat) (x : Option Nat) : gD (setR w c a x) = gD w := rfl
theorem gP_setR (w : GW) (c a : Nat) (x : Option Nat) : gP (setR w c a x) = gP w := rfl
theorem gN_setA (w : GW) (c a : Nat) (x : Int32) : gN (setA w c a x) = gN w := rfl
theorem gU_setA (w : GW) (c a : Nat) (x : Int32) : gU (setA w c a x) = gU w := rfl
theorem gK_setA (w : GW) (c a : Nat) (x : Int32) : gK (setA w c a x) = gK w := rfl
theorem gL_setA (w : GW) (c a : Nat) (x : Int32) : gL (setA w c a x) = gL w := rfl
theorem gI_setA (w : GW) (c a : Nat) (x : Int32) : gI (setA w c a x) = gI w := rfl
theorem gR_setA (w : GW) (c a : Nat) (x : Int32) : gR (setA w c a x) = gR w := rfl
theorem gA_setA (w : GW) (c a : Nat) (x : Int32) : gA (setA w c a x) = up2 (gA w) c a x := rfl
theorem gD_setA (w : GW) (c a : Nat) (x : Int32) : gD (setA w c a x) = gD w := rfl
theorem gP_setA (w : GW) (c a : Nat) (x : Int32) : gP (setA w c a x) = gP w := rfl
theorem gN_setD (w : GW) (c a : Nat) (x : UInt64) : gN (setD w c a x) = gN w := rfl
theorem gU_setD (w : GW) (c a : Nat) (x : UInt64) : gU (setD w c a x) = gU w := rfl
theorem gK_setD (w : GW) (c a : Nat) (x : UInt64) : gK (setD w c a x) = gK w := rfl
theorem gL_setD (w : GW) (c a : Nat) (x : UInt64) : gL (setD w c a x) = gL w := rfl
theorem gI_setD (w : GW) (c a : Nat) (x : UInt64) : gI (setD w c a x) = gI w := rfl
theorem gR_setD (w : GW) (c a : Nat) (x : UInt64) : gR (setD w c a x) = gR w := rfl
theorem gA_setD (w : GW) (c a : Nat) (x : UInt64) : gA (setD w c a x) = gA w := rfl
theorem gD_setD (w : GW) (c a : Nat) (x : UInt64) : gD (setD w c a x) = up2 (gD w) c a x := rfl
theorem gP_setD (w : GW) (c a : Nat) (x : UInt64) : gP (setD w c a x) = gP w := rfl
theorem gN_setP (w : GW) (c a : Nat) (x : Option Nat) : gN (setP w c a x) = gN w := rfl
theorem gU_setP (w : GW) (c a : Nat) (x : Option Nat) : gU (setP w c a x) = gU w := rfl
theorem gK_setP (w : GW) (c a : Nat) (x : Option Nat) : gK (setP w c a x) = gK w := rfl
theorem gL_setP (w : GW) (c a : Nat) (x : Option Nat) : gL (setP w c a x) = gL w := rfl
theorem gI_setP (w : GW) (c a : Nat) (x : Option Nat) : gI (setP w c a x) = gI w := rfl
theorem gR_setP (w : GW) (c a : Nat) (x : Option Nat) : gR (setP w c a x) = gR w := rfl
theorem gA_setP (w : GW) (c a : Nat) (x : Option Nat) : gA (setP w c a x) = gA w := rfl
theorem gD_setP (w : GW) (c a : Nat) (x : Option Nat) : gD (setP w c a x) = gD w := rfl
theorem gP_setP (w : GW) (c a : Nat) (x : Option Nat) : gP (setP w c a x) = up2 (gP w) c a x := rfl
theorem gN_newO (w : GW) (ci N : Nat) : gN (newO w ci N) = gN w + 1 := rfl
theorem gU_newO (w : GW) (ci N : Nat) : gU (newO w ci N) = gU w + N := rfl
theorem gK_newO (w : GW) (ci N : Nat) : gK (newO w ci N) = va_up (gK w) (gN w) ci := rfl
theorem gL_newO (w : GW) (ci N : Nat) : gL (newO w ci N) = gL w := rfl
theorem gI_newO (w : GW) (ci N : Nat) : gI (newO w ci N) = nul2 (gI w) (gN w) 0 := rfl
theorem gR_newO (w : GW) (ci N : Nat) : gR (newO w ci N) = nul2 (gR w) (gN w) none := rfl
theorem gA_newO (w : GW) (ci N : Nat) : gA (newO w ci N) = gA w := rfl
theorem gD_newO (w : GW) (ci N : Nat) : gD (newO w ci N) = gD w := rfl
theorem gP_newO (w : GW) (ci N : Nat) : gP (newO w ci N) = gP w := rfl
theorem gN_newA (w : GW) (ci N : Nat) : gN (newA w ci N) = gN w + 1 := rfl
theorem gU_newA (w : GW) (ci N : Nat) : gU (newA w ci N) = gU w + N := rfl
theorem gK_newA (w : GW) (ci N : Nat) : gK (newA w ci N) = va_up (gK w) (gN w) ci := rfl
theorem gL_newA (w : GW) (ci N : Nat) : gL (newA w ci N) = va_up (gL w) (gN w) N := rfl
theorem gI_newA (w : GW) (ci N : Nat) : gI (newA w ci N) = gI w := rfl
theorem gR_newA (w : GW) (ci N : Nat) : gR (newA w ci N) = gR w := rfl
theorem gA_newA (w : GW) (ci N : Nat) : gA (newA w ci N) = nul1 (gA w) (gN w) 0 := rfl
theorem gD_newA (w : GW) (ci N : Nat) : gD (newA w ci N) = nul1 (gD w) (gN w) 0 := rfl
theorem gP_newA (w : GW) (ci N : Nat) : gP (newA w ci N) = nul1 (gP w) (gN w) none := rfl
def gNF (ci : Nat) : Nat := match ci with | 0 => 9 | 1 => 4 | 2 => 1 | 3 => 6 | 4 => 2 | 5 => 5 | 6 => 4 | 7 => 8 | 8 => 1 | _ => 40
def gTy (ci : Nat) : Nat → FieldType := match ci with | 0 => tyX0 | 1 => tyX1 | 2 => tyX2 | 3 => tyX3 | 4 => tyX4 | 5 => tyX5 | 6 => tyX6 | 7 => tyX7 | 8 => tyX9 | _ => tyX10
/-- whether a field is an int (else a reference) -/
def gTI (ci k : Nat) : Bool := match gTy ci k with | .int => true | _ => false
/-- what field k of the object at a holds -/
def gV (w : GW) (ci a k : Nat) : Value := if gTI ci k = true then .int (gI w (64 * ci + k) a) else va_rf (gR w (64 * ci + k) a)
/-- what place j of the array at a holds -/
def gE (w : GW) (kd a j : Nat) : Value := if kd = 10 then .double (gD w a j) else if kd = 11 ∨ kd = 12 then .int (gA w a j) else va_rf (gP w a j)
/-- launch, class numbers and slots, array classes, the first address of ours, the read-only arrays (0..4 statics, 5 the script): address, length, contents -/
abbrev GE : Type := Launch × va_G × (Nat → ClassId) × Nat × (Nat → Nat) × (Nat → Nat) × (Nat → Nat → Int32)
def eL (g : GE) : Launch := g.1
def eG (g : GE) : va_G := g.2.1
def eC (g : GE) : Nat → ClassId := g.2.2.1
def eB (g : GE) : Nat := g.2.2.2.1
def eO (g : GE) : Nat → Nat := g.2.2.2.2.1
def eOL (g : GE) : Nat → Nat := g.2.2.2.2.2.1
def eOF (g : GE) : Nat → Nat → Int32 := g.2.2.2.2.2.2
abbrev gFr (g : GE) : Nat → Prop := fun q => eB g ≤ q
def gAt (g : GE) (w : GW) (a : Nat) (H : Heap) : Prop :=
  (gK w a < 10 ∧ t_OB a ((eG g).1 (gK w a)) (gNF (gK w a)) ((eG g).2 (gK w a)) H (gV w (gK w a) a)) ∨ (10 ≤ gK w a ∧ gK w a < 16 ∧ gL w a < 2 ^ 31 ∧ H[a]? = some (arrV (eC g (gK w a)) (gL w a) (gE w (gK w a) a)))
def gTys (g : GE) : List (ClassId × FieldType) := [(eC g 10, .double), (eC g 11, .int), (eC g 12, .boolean), (eC g 13, .object RX5), (eC g 14, .object RX6), (eC g 15, .object RX7)]
def gRo (g : GE) (i : Nat) (U : State) (H : Heap) : Prop := eO g i < eB g ∧ ∃ cell : Cell, H[eO g i]? = some cell ∧ U.isArrayOf cell .int ∧ cell.vm ≠ .unknown ∧ cell.slots.size = eOL g i ∧ eOL g i < 2 ^ 31 ∧ ∀ j : Nat, j < eOL g i → cell.slots[j]? = some (.int (eOF g i j))
def gSt (g : GE) (w : GW) (U : State) (H : Heap) : Prop := H.size = gN w ∧ eB g ≤ gN w ∧ (∀ a : Nat, eB g ≤ a → a < gN w → gAt g w a H) ∧ ∀ i : Nat, i < 6 → gRo g i U H
def gzC (i : Nat) : String := match i with | 4 => RX3 | _ => RX7
def gzN (i : Nat) : String := match i with | 0 => "LEAST_A" | 1 => "MOST_A" | 2 => "MOST_B" | 3 => "MOST_C" | _ => "ABOVE"
def gZs (g : GE) (U : State) (H : Heap) : Prop := ∀ i : Nat, i < 5 → va_Z (gzC i) (gzN i) "[I" (.ref (eO g i)) (gFr g) U H
def gAOs (U : State) : Prop := va_AO RX5 U ∧ va_AO RX6 U ∧ va_AO RX7 U
def gPre (g : GE) (w : GW) (U : State) : Prop := gSt g w U U.heap ∧ va_K (eG g) vwCl (gTys g) U ∧ gZs g U U.heap ∧ gAOs U
def gPost (g : GE) (r : Option Value) (w : GW) : Array Value → State → Outcome → State → Prop := fun _ st o t => o = .returned r ∧ gSt g w t t.heap ∧ va_F (gFr g) st t

/-- the words of the tables that hold in every state of the run -/
def gT : List Cond := lw_tbl.filter goodWord
theorem gAll : ∀ w ∈ gT, (w.onTables && w.keeps) = true ∨ ∃ ty, w = .arrayClass ty := fun w h => good_of_word (List.mem_filter.mp h).2
theorem gT_in {i : Nat} {w : Cond} (h : lw_tbl[i]? = some w) (hg : goodWord w = true) : w ∈ gT := List.mem_filter.mpr ⟨List.mem_of_getElem? h, hg⟩
abbrev GM : Type := MethodName × ByteArray × Nat × Option FieldType
abbrev gWs (Y : GM) : List Cond := Cond.code Y.1 Y.2.1 Y.2.2.1 Y.2.2.2 :: gT
abbrev gRm (d mc ms : Nat) : Room := { frames := d, cells := mc, slots := ms, locals := 64 * d }
def gCx (g : GE) (Y : GM) (d : Nat) (p : Program) (R : Room) (s : State) (m : MethodId) (args : Array Value) (meth : Method) (c : Code) : Prop :=
  p.tables.exec = Jvm.exec ∧ c.code = Y.2.1 ∧ c.maxLocals = Y.2.2.1 ∧ s.vm.findClass Y.1.cls = some m.cls ∧ (∀ w ∈ gT, w.before args s = true) ∧ meth.locks = false ∧ meth.sig.returnType = Y.2.2.2 ∧ meth.name = Y.1.name ∧ va_K (eG g) vwCl (gTys g) s ∧ gZs g s s.heap ∧ gAOs s ∧ d ≤ R.frames ∧ 64 * d ≤ R.locals
/-- from this point of method Y, in the world w, the frame comes to its end: answer r, world w' -/
def gG (g : GE) (d : Nat) (Y : GM) (pc : Nat) (ls : List (Nat × Value)) (st : List Value) (w : GW) (r : Option Value) (w' : GW) : Prop :=
  ∀ (p : Program) (e : Env) (R : Room) (s : State) (m : MethodId) (args : Array Value) (below : List Frame) (meth : Method) (c : Code) (n0 u0 : Nat) (H : Heap) (locs : List Loc) (lsA : Array Slot), gCx g Y d p R s m args meth c → n0 ≤ gN w → u0 ≤ gU w → gN w' - n0 ≤ R.cells → gU w' - u0 ≤ R.slots → gSt g w s H → va_S (gFr g) s.heap H locs → lv_has lsA Y.2.2.1 ls →
    W p (eL g) e R s m args below meth c H locs (gN w - n0) (gU w - u0) (MQ below (gPost g r w') args s (gN w' - n0) (gU w' - u0) (gFr g)) (F0 m pc lsA st)
/-- the same, of what Q says -/
def gF (g : GE) (d : Nat) (Y : GM) (pc : Nat) (ls : List (Nat × Value)) (st : List Value) (w : GW) (Q : Option Value → GW → Prop) : Prop :=
  ∃ (r : Option Value) (w' : GW), Q r w' ∧ gN w ≤ gN w' ∧ gU w ≤ gU w' ∧ gG g d Y pc ls st w r w'
/-- method Y, called with these arguments in the world w, returns, and Q holds of answer and world -/
def gM (g : GE) (d : Nat) (Y : GM) (as : List Value) (w : GW) (Q : Option Value → GW → Prop) : Prop :=
  ∃ (r : Option Value) (w' : GW), Q r w' ∧ gN w ≤ gN w' ∧ gU w ≤ gU w' ∧ Met (eL g) Y.1 (gWs Y) (gRm d (gN w' - gN w) (gU w' - gU w)) (va_Pc as (gPre g w)) (gPost g r w') (gN w' - gN w) (gU w' - gU w) (gFr g)
theorem gF.step {g : GE} {d : Nat} {Y : GM} {pc pc1 : Nat} {ls ls1 : List (Nat × Value)} {st st1 : List Value} {w w1 : GW} {Q : Option Value → GW → Prop} (k : gF g d Y pc1 ls1 st1 w1 Q) (hn : gN w ≤ gN w1) (hu : gU w ≤ gU w1) (h : ∀ r w', gN w1 ≤ gN w' → gU w1 ≤ gU w' → gG g d Y pc1 ls1 st1 w1 r w' → gG g d Y pc ls st w r w') : gF g d Y pc ls st w Q := by
  obtain ⟨r, w', h1, h2, h3, h4⟩ := k
  exact ⟨r, w', h1, Nat.le_trans hn h2, Nat.le_trans hu h3, h r w' h2 h3 h4⟩
theorem gF.pure {g : GE} {d : Nat} {Y : GM} {pc pc1 : Nat} {ls ls1 : List (Nat × Value)} {st st1 : List Value} {w : GW} {Q : Option Value → GW → Prop} (k : gF g d Y pc1 ls1 st1 w Q) (h : ∀ r w', gG g d Y pc1 ls1 st1 w r w' → gG g d Y pc ls st w r w') : gF g d Y pc ls st w Q := k.step (Nat.le_refl _) (Nat.le_refl _) (fun r w' _ _ h4 => h r w' h4)
theorem gF.imp {g : GE} {d : Nat} {Y : GM} {pc : Nat} {ls : List (Nat × Value)} {st : List Value} {w : GW} {Q Q' : Option Value → GW → Prop} (k : gF g d Y pc ls st w Q) (h : ∀ r w', Q r w' → Q' r w') : gF g d Y pc ls st w Q' := by
  obtain ⟨r, w', h1, h2⟩ := k
  exact ⟨r, w', h r w' h1, h2⟩
theorem gM.imp {g : GE} {d : Nat} {Y : GM} {as : List Value} {w : GW} {Q Q' : Option Value → GW → Prop} (k : gM g d Y as w Q) (h : ∀ r w', gN w ≤ gN w' → gU w ≤ gU w' → Q r w' → Q' r w') : gM g d Y as w Q' := by
  obtain ⟨r, w', h1, h2, h3, h4⟩ := k
  exact ⟨r, w', h r w' h2 h3 h1, h2, h3, h4⟩
end
section
theorem g_iconst {g : GE} {d : Nat} {Y : GM} {pc : Nat} {ls : List (Nat × Value)} {st : List Value} {w : GW} {Q : Option Value → GW → Prop} {n : Int} (hd : decode Y.2.1 pc = .ok (.iconst n, 1)) (k : gF g d Y (pc + 1) ls (.int (Int32.ofInt n) :: st) w Q) : gF g d Y pc ls (st) w Q := by
  refine k.pure fun r w' h => ?_
  intro p e R s m args below meth c n0 u0 H locs lsA C h1 h2 h3 h4 h5 h6 h7
  exact lv_iconst C.1 C.2.1 hd rfl (h p e R s m args below meth c n0 u0 H locs lsA C h1 h2 h3 h4 h5 h6 h7)
theorem g_bipush {g : GE} {d : Nat} {Y : GM} {pc : Nat} {ls : List (Nat × Value)} {st : List Value} {w : GW} {Q : Option Value → GW → Prop} {n : Int} (hd : decode Y.2.1 pc = .ok (.bipush n, 2)) (k : gF g d Y (pc + 2) ls (.int ((Int8.ofInt n).toInt32) :: st) w Q) : gF g d Y pc ls (st) w Q := by
  refine k.pure fun r w' h => ?_
  intro p e R s m args below meth c n0 u0 H locs lsA C h1 h2 h3 h4 h5 h6 h7
  exact lv_bipush C.1 C.2.1 hd rfl (h p e R s m args below meth c n0 u0 H locs lsA C h1 h2 h3 h4 h5 h6 h7)
theorem g_sipush {g : GE} {d : Nat} {Y : GM} {pc : Nat} {ls : List (Nat × Value)} {st : List Value} {w : GW} {Q : Option Value → GW → Prop} {n : Int} (hd : decode Y.2.1 pc = .ok (.sipush n, 3)) (k : gF g d Y (pc + 3) ls (.int ((Int16.ofInt n).toInt32) :: st) w Q) : gF g d Y pc ls (st) w Q := by
  refine k.pure fun r w' h => ?_
  intro p e R s m args below meth c n0 u0 H locs lsA C h1 h2 h3 h4 h5 h6 h7
  exact lv_sipush C.1 C.2.1 hd rfl (h p e R s m args below meth c n0 u0 H locs lsA C h1 h2 h3 h4 h5 h6 h7)
theorem g_lconst {g : GE} {d : Nat} {Y : GM} {pc : Nat} {ls : List (Nat × Value)} {st : List Value} {w : GW} {Q : Option Value → GW → Prop} {n : Fin 2} (hd : decode Y.2.1 pc = .ok (.lconst n, 1)) (k : gF g d Y (pc + 1) ls (.long (Int64.ofNat (n : Nat)) :: st) w Q) : gF g d Y pc ls (st) w Q := by
  refine k.pure fun r w' h => ?_
  intro p e R s m args below meth c n0 u0 H locs lsA C h1 h2 h3 h4 h5 h6 h7
  exact lv_lconst C.1 C.2.1 hd rfl (h p e R s m args below meth c n0 u0 H locs lsA C h1 h2 h3 h4 h5 h6 h7)
theorem g_iconstV {g : GE} {d : Nat} {Y : GM} {pc : Nat} {ls : List (Nat × Value)} {st : List Value} {w : GW} {Q : Option Value → GW → Prop} {n : Int} {v : Int32} (hd : decode Y.2.1 pc = .ok (.iconst n, 1)) (hv : Int32.ofInt n = v) (k : gF g d Y (pc + 1) ls (.int v :: st) w Q) : gF g d Y pc ls (st) w Q := by
  refine k.pure fun r w' h => ?_
  intro p e R s m args below meth c n0 u0 H locs lsA C h1 h2 h3 h4 h5 h6 h7
  exact lv_iconst C.1 C.2.1 hd hv (h p e R s m args below meth c n0 u0 H locs lsA C h1 h2 h3 h4 h5 h6 h7)
theorem g_bipushV {g : GE} {d : Nat} {Y : GM} {pc : Nat} {ls : List (Nat × Value)} {st : List Value} {w : GW} {Q : Option Value → GW → Prop} {n : Int} {v : Int32} (hd : decode Y.2.1 pc = .ok (.bipush n, 2)) (hv : (Int8.ofInt n).toInt32 = v) (k : gF g d Y (pc + 2) ls (.int v :: st) w Q) : gF g d Y pc ls (st) w Q := by
  refine k.pure fun r w' h => ?_
  intro p e R s m args below meth c n0 u0 H locs lsA C h1 h2 h3 h4 h5 h6 h7
  exact lv_bipush C.1 C.2.1 hd hv (h p e R s m args below meth c n0 u0 H locs lsA C h1 h2 h3 h4 h5 h6 h7)
theorem g_sipushV {g : GE} {d : Nat} {Y : GM} {pc : Nat} {ls : List (Nat × Value)} {st : List Value} {w : GW} {Q : Option Value → GW → Prop} {n : Int} {v : Int32} (hd : decode Y.2.1 pc = .ok (.sipush n, 3)) (hv : (Int16.ofInt n).toInt32 = v) (k : gF g d Y (pc + 3) ls (.int v :: st) w Q) : gF g d Y pc ls (st) w Q := by
  refine k.pure fun r w' h => ?_
  intro p e R s m args below meth c n0 u0 H locs lsA C h1 h2 h3 h4 h5 h6 h7
  exact lv_sipush C.1 C.2.1 hd hv (h p e R s m args below meth c n0 u0 H locs lsA C h1 h2 h3 h4 h5 h6 h7)
theorem g_lconstV {g : GE} {d : Nat} {Y : GM} {pc : Nat} {ls : List (Nat × Value)} {st : List Value} {w : GW} {Q : Option Value → GW → Prop} {n : Fin 2} {v : Int64} (hd : decode Y.2.1 pc = .ok (.lconst n, 1)) (hv : Int64.ofNat (n : Nat) = v) (k : gF g d Y (pc + 1) ls (.long v :: st) w Q) : gF g d Y pc ls (st) w Q := by
  refine k.pure fun r w' h => ?_
  intro p e R s m args below meth c n0 u0 H locs lsA C h1 h2 h3 h4 h5 h6 h7
  exact lv_lconst C.1 C.2.1 hd hv (h p e R s m args below meth c n0 u0 H locs lsA C h1 h2 h3 h4 h5 h6 h7)
theorem g_iadd {g : GE} {d : Nat} {Y : GM} {pc : Nat} {ls : List (Nat × Value)} {st : List Value} {w : GW} {Q : Option Value → GW → Prop} {x y : Int32} (hd : decode Y.2.1 pc = .ok (.iadd, 1)) (k : gF g d Y (pc + 1) ls (.int (x + y) :: st) w Q) : gF g d Y pc ls (.int y :: .int x :: st) w Q := by
  refine k.pure fun r w' h => ?_
  intro p e R s m args below meth c n0 u0 H locs lsA C h1 h2 h3 h4 h5 h6 h7
  exact lv_iadd C.1 C.2.1 hd (h p e R s m args below meth c n0 u0 H locs lsA C h1 h2 h3 h4 h5 h6 h7)
theorem g_isub {g : GE} {d : Nat} {Y : GM} {pc : Nat} {ls : List (Nat × Value)} {st : List Value} {w : GW} {Q : Option Value → GW → Prop} {x y : Int32} (hd : decode Y.2.1 pc = .ok (.isub, 1)) (k : gF g d Y (pc + 1) ls (.int (x - y) :: st) w Q) : gF g d Y pc ls (.int y :: .int x :: st) w Q := by
  refine k.pure fun r w' h => ?_
  intro p e R s m args below meth c n0 u0 H locs lsA C h1 h2 h3 h4 h5 h6 h7
  exact lv_isub C.1 C.2.1 hd (h p e R s m args below meth c n0 u0 H locs lsA C h1 h2 h3 h4 h5 h6 h7)
theorem g_imul {g : GE} {d : Nat} {Y : GM} {pc : Nat} {ls : List (Nat × Value)} {st : List Value} {w : GW} {Q : Option Value → GW → Prop} {x y : Int32} (hd : decode Y.2.1 pc = .ok (.imul, 1)) (k : gF g d Y (pc + 1) ls (.int (x * y) :: st) w Q) : gF g d Y pc ls (.int y :: .int x :: st) w Q := by
  refine k.pure fun r w' h => ?_
  intro p e R s m args below meth c n0 u0 H locs lsA C h1 h2 h3 h4 h5 h6 h7
  exact lv_imul C.1 C.2.1 hd (h p e R s m args below meth c n0 u0 H locs lsA C h1 h2 h3 h4 h5 h6 h7)
theorem g_iand {g : GE} {d : Nat} {Y : GM} {pc : Nat} {ls : List (Nat × Value)} {st : List Value} {w : GW} {Q : Option Value → GW → Prop} {x y : Int32} (hd : decode Y.2.1 pc = .ok (.iand, 1)) (k : gF g d Y (pc + 1) ls (.int (x &&& y) :: st) w Q) : gF g d Y pc ls (.int y :: .int x :: st) w Q := by
  refine k.pure fun r w' h => ?_
  intro p e R s m args below meth c n0 u0 H locs lsA C h1 h2 h3 h4 h5 h6 h7
  exact lv_iand C.1 C.2.1 hd (h p e R s m args below meth c n0 u0 H locs lsA C h1 h2 h3 h4 h5 h6 h7)
theorem g_ior {g : GE} {d : Nat} {Y : GM} {pc : Nat} {ls : List (Nat × Value)} {st : List Value} {w : GW} {Q : Option Value → GW → Prop} {x y : Int32} (hd : decode Y.2.1 pc = .ok (.ior, 1)) (k : gF g d Y (pc + 1) ls (.int (x ||| y) :: st) w Q) : gF g d Y pc ls (.int y :: .int x :: st) w Q := by
  refine k.pure fun r w' h => ?_
  intro p e R s m args below meth c n0 u0 H locs lsA C h1 h2 h3 h4 h5 h6 h7
  exact lv_ior C.1 C.2.1 hd (h p e R s m args below meth c n0 u0 H locs lsA C h1 h2 h3 h4 h5 h6 h7)
theorem g_ixor {g : GE} {d : Nat} {Y : GM} {pc : Nat} {ls : List (Nat × Value)} {st : List Value} {w : GW} {Q : Option Value → GW → Prop} {x y : Int32} (hd : decode Y.2.1 pc = .ok (.ixor, 1)) (k : gF g d Y (pc + 1) ls (.int (x ^^^ y) :: st) w Q) : gF g d Y pc ls (.int y :: .int x :: st) w Q := by
  refine k.pure fun r w' h => ?_
  intro p e R s m args below meth c n0 u0 H locs lsA C h1 h2 h3 h4 h5 h6 h7
  exact lv_ixor C.1 C.2.1 hd (h p e R s m args below meth c n0 u0 H locs lsA C h1 h2 h3 h4 h5 h6 h7)
theorem g_idiv {g : GE} {d : Nat} {Y : GM} {pc : Nat} {ls : List (Nat × Value)} {st : List Value} {w : GW} {Q : Option Value → GW → Prop} {x y : Int32} (hd : decode Y.2.1 pc = .ok (.idiv, 1)) (hne : ¬ y = 0) (k : gF g d Y (pc + 1) ls (.int (x / y) :: st) w Q) : gF g d Y pc ls (.int y :: .int x :: st) w Q := by
  refine k.pure fun r w' h => ?_
  intro p e R s m args below meth c n0 u0 H locs lsA C h1 h2 h3 h4 h5 h6 h7
  exact lv_idiv C.1 C.2.1 hd hne (h p e R s m args below meth c n0 u0 H locs lsA C h1 h2 h3 h4 h5 h6 h7)
theorem g_irem {g : GE} {d : Nat} {Y : GM} {pc : Nat} {ls : List (Nat × Value)} {st : List Value} {w : GW} {Q : Option Value → GW → Prop} {x y : Int32} (hd : decode Y.2.1 pc = .ok (.irem, 1)) (hne : ¬ y = 0) (k : gF g d Y (pc + 1) ls (.int (x - x / y * y) :: st) w Q) : gF g d Y pc ls (.int y :: .int x :: st) w Q := by
  refine k.pure fun r w' h => ?_
  intro p e R s m args below meth c n0 u0 H locs lsA C h1 h2 h3 h4 h5 h6 h7
  exact lv_irem C.1 C.2.1 hd hne (h p e R s m args below meth c n0 u0 H locs lsA C h1 h2 h3 h4 h5 h6 h7)
theorem g_ladd {g : GE} {d : Nat} {Y : GM} {pc : Nat} {ls : List (Nat × Value)} {st : List Value} {w : GW} {Q : Option Value → GW → Prop} {x y : Int64} (hd : decode Y.2.1 pc = .ok (.ladd, 1)) (k : gF g d Y (pc + 1) ls (.long (x + y) :: st) w Q) : gF g d Y pc ls (.long y :: .long x :: st) w Q := by
  refine k.pure fun r w' h => ?_
  intro p e R s m args below meth c n0 u0 H locs lsA C h1 h2 h3 h4 h5 h6 h7
  exact lv_ladd C.1 C.2.1 hd (h p e R s m args below meth c n0 u0 H locs lsA C h1 h2 h3 h4 h5 h6 h7)
theorem g_lsub {g : GE} {d : Nat} {Y : GM} {pc : Nat} {ls : List (Nat × Value)} {st : List Value} {w : GW} {Q : Option Value → GW → Prop} {x y : Int64} (hd : decode Y.2.1 pc = .ok (.lsub, 1)) (k : gF g d Y (pc + 1) ls (.long (x - y) :: st) w Q) : gF g d Y pc ls (.long y :: .long x :: st) w Q := by
  refine k.pure fun r w' h => ?_
  intro p e R s m args below meth c n0 u0 H locs lsA C h1 h2 h3 h4 h5 h6 h7
  exact lv_lsub C.1 C.2.1 hd (h p e R s m args below meth c n0 u0 H locs lsA C h1 h2 h3 h4 h5 h6 h7)
theorem g_lmul {g : GE} {d : Nat} {Y : GM} {pc : Nat} {ls : List (Nat × Value)} {st : List Value} {w : GW} {Q : Option Value → GW → Prop} {x y : Int64} (hd : decode Y.2.1 pc = .ok (.lmul, 1)) (k : gF g d Y (pc + 1) ls (.long (x * y) :: st) w Q) : gF g d Y pc ls (.long y :: .long x :: st) w Q := by
  refine k.pure fun r w' h => ?_
  intro p e R s m args below meth c n0 u0 H locs lsA C h1 h2 h3 h4 h5 h6 h7
  exact lv_lmul C.1 C.2.1 hd (h p e R s m args below meth c n0 u0 H locs lsA C h1 h2 h3 h4 h5 h6 h7)
theorem g_land {g : GE} {d : Nat} {Y : GM} {pc : Nat} {ls : List (Nat × Value)} {st : List Value} {w : GW} {Q : Option Value → GW → Prop} {x y : Int64} (hd : decode Y.2.1 pc = .ok (.land, 1)) (k : gF g d Y (pc + 1) ls (.long (x &&& y) :: st) w Q) : gF g d Y pc ls (.long y :: .long x :: st) w Q := by
  refine k.pure fun r w' h => ?_
  intro p e R s m args below meth c n0 u0 H locs lsA C h1 h2 h3 h4 h5 h6 h7
  exact lv_land C.1 C.2.1 hd (h p e R s m args below meth c n0 u0 H locs lsA C h1 h2 h3 h4 h5 h6 h7)
theorem g_lor {g : GE} {d : Nat} {Y : GM} {pc : Nat} {ls : List (Nat × Value)} {st : List Value} {w : GW} {Q : Option Value → GW → Prop} {x y : Int64} (hd : decode Y.2.1 pc = .ok (.lor, 1)) (k : gF g d Y (pc + 1) ls (.long (x ||| y) :: st) w Q) : gF g d Y pc ls (.long y :: .long x :: st) w Q := by
  refine k.pure fun r w' h => ?_
  intro p e R s m args below meth c n0 u0 H locs lsA C h1 h2 h3 h4 h5 h6 h7
  exact lv_lor C.1 C.2.1 hd (h p e R s m args below meth c n0 u0 H locs lsA C h1 h2 h3 h4 h5 h6 h7)
theorem g_lxor {g : GE} {d : Nat} {Y : GM} {pc : Nat} {ls : List (Nat × Value)} {st : List Value} {w : GW} {Q : Option Value → GW → Prop} {x y : Int64} (hd : decode Y.2.1 pc = .ok (.lxor, 1)) (k : gF g d Y (pc + 1) ls (.long (x ^^^ y) :: st) w Q) : gF g d Y pc ls (.long y :: .long x :: st) w Q := by
  refine k.pure fun r w' h => ?_
  intro p e R s m args below meth c n0 u0 H locs lsA C h1 h2 h3 h4 h5 h6 h7
  exact lv_lxor C.1 C.2.1 hd (h p e R s m args below meth c n0 u0 H locs lsA C h1 h2 h3 h4 h5 h6 h7)
theorem g_ldiv {g : GE} {d : Nat} {Y : GM} {pc : Nat} {ls : List (Nat × Value)} {st : List Value} {w : GW} {Q : Option Value → GW → Prop} {x y : Int64} (hd : decode Y.2.1 pc = .ok (.ldiv, 1)) (hne : ¬ y = 0) (k : gF g d Y (pc + 1) ls (.long (x / y) :: st) w Q) : gF g d Y pc ls (.long y :: .long x :: st) w Q := by
  refine k.pure fun r w' h => ?_
  intro p e R s m args below meth c n0 u0 H locs lsA C h1 h2 h3 h4 h5 h6 h7
  exact lv_ldiv C.1 C.2.1 hd hne (h p e R s m args below meth c n0 u0 H locs lsA C h1 h2 h3 h4 h5 h6 h7)
theorem g_lrem {g : GE} {d : Nat} {Y : GM} {pc : Nat} {ls : List (Nat × Value)} {st : List Value} {w : GW} {Q : Option Value → GW → Prop} {x y : Int64} (hd : decode Y.2.1 pc = .ok (.lrem, 1)) (hne : ¬ y = 0) (k : gF g d Y (pc + 1) ls (.long (x - x / y * y) :: st) w Q) : gF g d Y pc ls (.long y :: .long x :: st) w Q := by
  refine k.pure fun r w' h => ?_
  intro p e R s m args below meth c n0 u0 H locs lsA C h1 h2 h3 h4 h5 h6 h7
  exact lv_lrem C.1 C.2.1 hd hne (h p e R s m args below meth c n0 u0 H locs lsA C h1 h2 h3 h4 h5 h6 h7)
theorem g_lcmp {g : GE} {d : Nat} {Y : GM} {pc : Nat} {ls : List (Nat × Value)} {st : List Value} {w : GW} {Q : Option Value → GW → Prop} {x y : Int64} (hd : decode Y.2.1 pc = .ok (.lcmp, 1)) (k : gF g d Y (pc + 1) ls (.int (lg_cmp x y) :: st) w Q) : gF g d Y pc ls (.long y :: .long x :: st) w Q := by
  refine k.pure fun r w' h => ?_
  intro p e R s m args below meth c n0 u0 H locs lsA C h1 h2 h3 h4 h5 h6 h7
  exact W.lcmp C.1 C.2.1 hd (h p e R s m args below meth c n0 u0 H locs lsA C h1 h2 h3 h4 h5 h6 h7)
theorem g_i2b {g : GE} {d : Nat} {Y : GM} {pc : Nat} {ls : List (Nat × Value)} {st : List Value} {w : GW} {Q : Option Value → GW → Prop} {x : Int32} (hd : decode Y.2.1 pc = .ok (.i2b, 1)) (k : gF g d Y (pc + 1) ls (.int (x.toInt8.toInt32) :: st) w Q) : gF g d Y pc ls (.int x :: st) w Q := by
  refine k.pure fun r w' h => ?_
  intro p e R s m args below meth c n0 u0 H locs lsA C h1 h2 h3 h4 h5 h6 h7
  exact lv_i2b C.1 C.2.1 hd rfl (h p e R s m args below meth c n0 u0 H locs lsA C h1 h2 h3 h4 h5 h6 h7)
theorem g_i2s {g : GE} {d : Nat} {Y : GM} {pc : Nat} {ls : List (Nat × Value)} {st : List Value} {w : GW} {Q : Option Value → GW → Prop} {x : Int32} (hd : decode Y.2.1 pc = .ok (.i2s, 1)) (k : gF g d Y (pc + 1) ls (.int (x.toInt16.toInt32) :: st) w Q) : gF g d Y pc ls (.int x :: st) w Q := by
  refine k.pure fun r w' h => ?_
  intro p e R s m args below meth c n0 u0 H locs lsA C h1 h2 h3 h4 h5 h6 h7
  exact lv_i2s C.1 C.2.1 hd rfl (h p e R s m args below meth c n0 u0 H locs lsA C h1 h2 h3 h4 h5 h6 h7)
theorem g_i2c {g : GE} {d : Nat} {Y : GM} {pc : Nat} {ls : List (Nat × Value)} {st : List Value} {w : GW} {Q : Option Value → GW → Prop} {x : Int32} (hd : decode Y.2.1 pc = .ok (.i2c, 1)) (k : gF g d Y (pc + 1) ls (.int ((x.toUInt32 % 65536).toInt32) :: st) w Q) : gF g d Y pc ls (.int x :: st) w Q := by
  refine k.pure fun r w' h => ?_
  intro p e R s m args below meth c n0 u0 H locs lsA C h1 h2 h3 h4 h5 h6 h7
  exact lv_i2c C.1 C.2.1 hd rfl (h p e R s m args below meth c n0 u0 H locs lsA C h1 h2 h3 h4 h5 h6 h7)
theorem g_fadd {g : GE} {d : Nat} {Y : GM} {pc : Nat} {ls : List (Nat × Value)} {st : List Value} {w : GW} {Q : Option Value → GW → Prop} {x y : UInt32} (hd : decode Y.2.1 pc = .ok (.fadd, 1)) (hne : vf_n32 (FP.fadd x y)) (k : gF g d Y (pc + 1) ls (.float (FP.fadd x y) :: st) w Q) : gF g d Y pc ls (.float y :: .float x :: st) w Q := by
  refine k.pure fun r w' h => ?_
  intro p e R s m args below meth c n0 u0 H locs lsA C h1 h2 h3 h4 h5 h6 h7
  exact lv_fadd C.1 C.2.1 hd hne (h p e R s m args below meth c n0 u0 H locs lsA C h1 h2 h3 h4 h5 h6 h7)
theorem g_fsub {g : GE} {d : Nat} {Y : GM} {pc : Nat} {ls : List (Nat × Value)} {st : List Value} {w : GW} {Q : Option Value → GW → Prop} {x y : UInt32} (hd : decode Y.2.1 pc = .ok (.fsub, 1)) (hne : vf_n32 (FP.fsub x y)) (k : gF g d Y (pc + 1) ls (.float (FP.fsub x y) :: st) w Q) : gF g d Y pc ls (.float y :: .float x :: st) w Q := by
  refine k.pure fun r w' h => ?_
  intro p e R s m args below meth c n0 u0 H locs lsA C h1 h2 h3 h4 h5 h6 h7
  exact lv_fsub C.1 C.2.1 hd hne (h p e R s m args below meth c n0 u0 H locs lsA C h1 h2 h3 h4 h5 h6 h7)
theorem g_fmul {g : GE} {d : Nat} {Y : GM} {pc : Nat} {ls : List (Nat × Value)} {st : List Value} {w : GW} {Q : Option Value → GW → Prop} {x y : UInt32} (hd : decode Y.2.1 pc = .ok (.fmul, 1)) (hne : vf_n32 (FP.fmul x y)) (k : gF g d Y (pc + 1) ls (.float (FP.fmul x y) :: st) w Q) : gF g d Y pc ls (.float y :: .float x :: st) w Q := by
  refine k.pure fun r w' h => ?_
  intro p e R s m args below meth c n0 u0 H locs lsA C h1 h2 h3 h4 h5 h6 h7
  exact lv_fmul C.1 C.2.1 hd hne (h p e R s m args below meth c n0 u0 H locs lsA C h1 h2 h3 h4 h5 h6 h7)
theorem g_fdiv {g : GE} {d : Nat} {Y : GM} {pc : Nat} {ls : List (Nat × Value)} {st : List Value} {w : GW} {Q : Option Value → GW → Prop} {x y : UInt32} (hd : decode Y.2.1 pc = .ok (.fdiv, 1)) (hne : vf_n32 (FP.fdiv x y)) (k : gF g d Y (pc + 1) ls (.float (FP.fdiv x y) :: st) w Q) : gF g d Y pc ls (.float y :: .float x :: st) w Q := by
  refine k.pure fun r w' h => ?_
  intro p e R s m args below meth c n0 u0 H locs lsA C h1 h2 h3 h4 h5 h6 h7
  exact lv_fdiv C.1 C.2.1 hd hne (h p e R s m args below meth c n0 u0 H locs lsA C h1 h2 h3 h4 h5 h6 h7)
theorem g_frem {g : GE} {d : Nat} {Y : GM} {pc : Nat} {ls : List (Nat × Value)} {st : List Value} {w : GW} {Q : Option Value → GW → Prop} {x y : UInt32} (hd : decode Y.2.1 pc = .ok (.frem, 1)) (hne : vf_n32 (FP.frem x y)) (k : gF g d Y (pc + 1) ls (.float (FP.frem x y) :: st) w Q) : gF g d Y pc ls (.float y :: .float x :: st) w Q := by
  refine k.pure fun r w' h => ?_
  intro p e R s m args below meth c n0 u0 H locs lsA C h1 h2 h3 h4 h5 h6 h7
  exact lv_frem C.1 C.2.1 hd hne (h p e R s m args below meth c n0 u0 H locs lsA C h1 h2 h3 h4 h5 h6 h7)
theorem g_dadd {g : GE} {d : Nat} {Y : GM} {pc : Nat} {ls : List (Nat × Value)} {st : List Value} {w : GW} {Q : Option Value → GW → Prop} {x y : UInt64} (hd : decode Y.2.1 pc = .ok (.dadd, 1)) (hne : vf_n64 (FP.dadd x y)) (k : gF g d Y (pc + 1) ls (.double (FP.dadd x y) :: st) w Q) : gF g d Y pc ls (.double y :: .double x :: st) w Q := by
  refine k.pure fun r w' h => ?_
  intro p e R s m args below meth c n0 u0 H locs lsA C h1 h2 h3 h4 h5 h6 h7
  exact lv_dadd C.1 C.2.1 hd hne (h p e R s m args below meth c n0 u0 H locs lsA C h1 h2 h3 h4 h5 h6 h7)
theorem g_dsub {g : GE} {d : Nat} {Y : GM} {pc : Nat} {ls : List (Nat × Value)} {st : List Value} {w : GW} {Q : Option Value → GW → Prop} {x y : UInt64} (hd : decode Y.2.1 pc = .ok (.dsub, 1)) (hne : vf_n64 (FP.dsub x y)) (k : gF g d Y (pc + 1) ls (.double (FP.dsub x y) :: st) w Q) : gF g d Y pc ls (.double y :: .double x :: st) w Q := by
  refine k.pure fun r w' h => ?_
  intro p e R s m args below meth c n0 u0 H locs lsA C h1 h2 h3 h4 h5 h6 h7
  exact lv_dsub C.1 C.2.1 hd hne (h p e R s m args below meth c n0 u0 H locs lsA C h1 h2 h3 h4 h5 h6 h7)
theorem g_dmul {g : GE} {d : Nat} {Y : GM} {pc : Nat} {ls : List (Nat × Value)} {st : List Value} {w : GW} {Q : Option Value → GW → Prop} {x y : UInt64} (hd : decode Y.2.1 pc = .ok (.dmul, 1)) (hne : vf_n64 (FP.dmul x y)) (k : gF g d Y (pc + 1) ls (.double (FP.dmul x y) :: st) w Q) : gF g d Y pc ls (.double y :: .double x :: st) w Q := by
  refine k.pure fun r w' h => ?_
  intro p e R s m args below meth c n0 u0 H locs lsA C h1 h2 h3 h4 h5 h6 h7
  exact lv_dmul C.1 C.2.1 hd hne (h p e R s m args below meth c n0 u0 H locs lsA C h1 h2 h3 h4 h5 h6 h7)
theorem g_ddiv {g : GE} {d : Nat} {Y : GM} {pc : Nat} {ls : List (Nat × Value)} {st : List Value} {w : GW} {Q : Option Value → GW → Prop} {x y : UInt64} (hd : decode Y.2.1 pc = .ok (.ddiv, 1)) (hne : vf_n64 (FP.ddiv x y)) (k : gF g d Y (pc + 1) ls (.double (FP.ddiv x y) :: st) w Q) : gF g d Y pc ls (.double y :: .double x :: st) w Q := by
  refine k.pure fun r w' h => ?_
  intro p e R s m args below meth c n0 u0 H locs lsA C h1 h2 h3 h4 h5 h6 h7
  exact lv_ddiv C.1 C.2.1 hd hne (h p e R s m args below meth c n0 u0 H locs lsA C h1 h2 h3 h4 h5 h6 h7)
theorem g_drem {g : GE} {d : Nat} {Y : GM} {pc : Nat} {ls : List (Nat × Value)} {st : List Value} {w : GW} {Q : Option Value → GW → Prop} {x y : UInt64} (hd : decode Y.2.1 pc = .ok (.drem, 1)) (hne : vf_n64 (FP.drem x y)) (k : gF g d Y (pc + 1) ls (.double (FP.drem x y) :: st) w Q) : gF g d Y pc ls (.double y :: .double x :: st) w Q := by
  refine k.pure fun r w' h => ?_
  intro p e R s m args below meth c n0 u0 H locs lsA C h1 h2 h3 h4 h5 h6 h7
  exact lv_drem C.1 C.2.1 hd hne (h p e R s m args below meth c n0 u0 H locs lsA C h1 h2 h3 h4 h5 h6 h7)
theorem g_dneg {g : GE} {d : Nat} {Y : GM} {pc : Nat} {ls : List (Nat × Value)} {st : List Value} {w : GW} {Q : Option Value → GW → Prop} {x : UInt64} (hd : decode Y.2.1 pc = .ok (.dneg, 1)) (k : gF g d Y (pc + 1) ls (.double (FP.dneg x) :: st) w Q) : gF g d Y pc ls (.double x :: st) w Q := by
  refine k.pure fun r w' h => ?_
  intro p e R s m args below meth c n0 u0 H locs lsA C h1 h2 h3 h4 h5 h6 h7
  exact lv_dneg C.1 C.2.1 hd (h p e R s m args below meth c n0 u0 H locs lsA C h1 h2 h3 h4 h5 h6 h7)
theorem g_fcmp {g : GE} {d : Nat} {Y : GM} {pc : Nat} {ls : List (Nat × Value)} {st : List Value} {w : GW} {Q : Option Value → GW → Prop} {x y : UInt32} {op : CmpOp} (hd : decode Y.2.1 pc = .ok (.fcmp op, 1)) (k : gF g d Y (pc + 1) ls (.int (Op.cmpValue (FP.fcmp x y) op) :: st) w Q) : gF g d Y pc ls (.float y :: .float x :: st) w Q := by
  refine k.pure fun r w' h => ?_
  intro p e R s m args below meth c n0 u0 H locs lsA C h1 h2 h3 h4 h5 h6 h7
  exact lv_fcmp C.1 C.2.1 hd (h p e R s m args below meth c n0 u0 H locs lsA C h1 h2 h3 h4 h5 h6 h7)
theorem g_dcmp {g : GE} {d : Nat} {Y : GM} {pc : Nat} {ls : List (Nat × Value)} {st : List Value} {w : GW} {Q : Option Value → GW → Prop} {x y : UInt64} {op : CmpOp} (hd : decode Y.2.1 pc = .ok (.dcmp op, 1)) (k : gF g d Y (pc + 1) ls (.int (Op.cmpValue (FP.dcmp x y) op) :: st) w Q) : gF g d Y pc ls (.double y :: .double x :: st) w Q := by
  refine k.pure fun r w' h => ?_
  intro p e R s m args below meth c n0 u0 H locs lsA C h1 h2 h3 h4 h5 h6 h7
  exact lv_dcmp C.1 C.2.1 hd (h p e R s m args below meth c n0 u0 H locs lsA C h1 h2 h3 h4 h5 h6 h7)
theorem g_i2d {g : GE} {d : Nat} {Y : GM} {pc : Nat} {ls : List (Nat × Value)} {st : List Value} {w : GW} {Q : Option Value → GW → Prop} {x : Int32} (hd : decode Y.2.1 pc = .ok (.i2d, 1)) (k : gF g d Y (pc + 1) ls (.double (FP.i2d x) :: st) w Q) : gF g d Y pc ls (.int x :: st) w Q := by
  refine k.pure fun r w' h => ?_
  intro p e R s m args below meth c n0 u0 H locs lsA C h1 h2 h3 h4 h5 h6 h7
  exact lv_i2d C.1 C.2.1 hd (h p e R s m args below meth c n0 u0 H locs lsA C h1 h2 h3 h4 h5 h6 h7)
theorem g_l2d {g : GE} {d : Nat} {Y : GM} {pc : Nat} {ls : List (Nat × Value)} {st : List Value} {w : GW} {Q : Option Value → GW → Prop} {x : Int64} (hd : decode Y.2.1 pc = .ok (.l2d, 1)) (k : gF g d Y (pc + 1) ls (.double (FP.l2d x) :: st) w Q) : gF g d Y pc ls (.long x :: st) w Q := by
  refine k.pure fun r w' h => ?_
  intro p e R s m args below meth c n0 u0 H locs lsA C h1 h2 h3 h4 h5 h6 h7
  exact lv_l2d C.1 C.2.1 hd (h p e R s m args below meth c n0 u0 H locs lsA C h1 h2 h3 h4 h5 h6 h7)
theorem g_d2i {g : GE} {d : Nat} {Y : GM} {pc : Nat} {ls : List (Nat × Value)} {st : List Value} {w : GW} {Q : Option Value → GW → Prop} {x : UInt64} (hd : decode Y.2.1 pc = .ok (.d2i, 1)) (k : gF g d Y (pc + 1) ls (.int (FP.d2i x) :: st) w Q) : gF g d Y pc ls (.double x :: st) w Q := by
  refine k.pure fun r w' h => ?_
  intro p e R s m args below meth c n0 u0 H locs lsA C h1 h2 h3 h4 h5 h6 h7
  exact lv_d2i C.1 C.2.1 hd (h p e R s m args below meth c n0 u0 H locs lsA C h1 h2 h3 h4 h5 h6 h7)
theorem g_d2l {g : GE} {d : Nat} {Y : GM} {pc : Nat} {ls : List (Nat × Value)} {st : List Value} {w : GW} {Q : Option Value → GW → Prop} {x : UInt64} (hd : decode Y.2.1 pc = .ok (.d2l, 1)) (k : gF g d Y (pc + 1) ls (.long (FP.d2l x) :: st) w Q) : gF g d Y pc ls (.double x :: st) w Q := by
  refine k.pure fun r w' h => ?_
  intro p e R s m args below meth c n0 u0 H locs lsA C h1 h2 h3 h4 h5 h6 h7
  exact lv_d2l C.1 C.2.1 hd (h p e R s m args below meth c n0 u0 H locs lsA C h1 h2 h3 h4 h5 h6 h7)
theorem g_f2l {g : GE} {d : Nat} {Y : GM} {pc : Nat} {ls : List (Nat × Value)} {st : List Value} {w : GW} {Q : Option Value → GW → Prop} {x : UInt32} (hd : decode Y.2.1 pc = .ok (.f2l, 1)) (k : gF g d Y (pc + 1) ls (.long (FP.f2l x) :: st) w Q) : gF g d Y pc ls (.float x :: st) w Q := by
  refine k.pure fun r w' h => ?_
  intro p e R s m args below meth c n0 u0 H locs lsA C h1 h2 h3 h4 h5 h6 h7
  exact lv_f2l C.1 C.2.1 hd (h p e R s m args below meth c n0 u0 H locs lsA C h1 h2 h3 h4 h5 h6 h7)
theorem g_f2d {g : GE} {d : Nat} {Y : GM} {pc : Nat} {ls : List (Nat × Value)} {st : List Value} {w : GW} {Q : Option Value → GW → Prop} {x : UInt32} (hd : decode Y.2.1 pc = .ok (.f2d, 1)) (hne : vf_n64 (FP.f2d x)) (k : gF g d Y (pc + 1) ls (.double (FP.f2d x) :: st) w Q) : gF g d Y pc ls (.float x :: st) w Q := by
  refine k.pure fun r w' h => ?_
  intro p e R s m args below meth c n0 u0 H locs lsA C h1 h2 h3 h4 h5 h6 h7
  exact lv_f2d C.1 C.2.1 hd hne (h p e R s m args below meth c n0 u0 H locs lsA C h1 h2 h3 h4 h5 h6 h7)
theorem g_d2f {g : GE} {d : Nat} {Y : GM} {pc : Nat} {ls : List (Nat × Value)} {st : List Value} {w : GW} {Q : Option Value → GW → Prop} {x : UInt64} (hd : decode Y.2.1 pc = .ok (.d2f, 1)) (hne : vf_n32 (FP.d2f x)) (k : gF g d Y (pc + 1) ls (.float (FP.d2f x) :: st) w Q) : gF g d Y pc ls (.double x :: st) w Q := by
  refine k.pure fun r w' h => ?_
  intro p e R s m args below meth c n0 u0 H locs lsA C h1 h2 h3 h4 h5 h6 h7
  exact lv_d2f C.1 C.2.1 hd hne (h p e R s m args below meth c n0 u0 H locs lsA C h1 h2 h3 h4 h5 h6 h7)
theorem g_fconst0 {g : GE} {d : Nat} {Y : GM} {pc : Nat} {ls : List (Nat × Value)} {st : List Value} {w : GW} {Q : Option Value → GW → Prop}  (hd : decode Y.2.1 pc = .ok (.fconst 0, 1)) (k : gF g d Y (pc + 1) ls (.float FP.fconst0 :: st) w Q) : gF g d Y pc ls (st) w Q := by
  refine k.pure fun r w' h => ?_
  intro p e R s m args below meth c n0 u0 H locs lsA C h1 h2 h3 h4 h5 h6 h7
  exact lv_fconst0 C.1 C.2.1 hd (h p e R s m args below meth c n0 u0 H locs lsA C h1 h2 h3 h4 h5 h6 h7)
theorem g_dconst0 {g : GE} {d : Nat} {Y : GM} {pc : Nat} {ls : List (Nat × Value)} {st : List Value} {w : GW} {Q : Option Value → GW → Prop}  (hd : decode Y.2.1 pc = .ok (.dconst 0, 1)) (k : gF g d Y (pc + 1) ls (.double FP.dconst0 :: st) w Q) : gF g d Y pc ls (st) w Q := by
  refine k.pure fun r w' h => ?_
  intro p e R s m args below meth c n0 u0 H locs lsA C h1 h2 h3 h4 h5 h6 h7
  exact lv_dconst0 C.1 C.2.1 hd (h p e R s m args below meth c n0 u0 H locs lsA C h1 h2 h3 h4 h5 h6 h7)
theorem g_dconst1 {g : GE} {d : Nat} {Y : GM} {pc : Nat} {ls : List (Nat × Value)} {st : List Value} {w : GW} {Q : Option Value → GW → Prop}  (hd : decode Y.2.1 pc = .ok (.dconst 1, 1)) (k : gF g d Y (pc + 1) ls (.double FP.dconst1 :: st) w Q) : gF g d Y pc ls (st) w Q := by
  refine k.pure fun r w' h => ?_
  intro p e R s m args below meth c n0 u0 H locs lsA C h1 h2 h3 h4 h5 h6 h7
  exact lv_dconst1 C.1 C.2.1 hd (h p e R s m args below meth c n0 u0 H locs lsA C h1 h2 h3 h4 h5 h6 h7)
theorem g_null {g : GE} {d : Nat} {Y : GM} {pc : Nat} {ls : List (Nat × Value)} {st : List Value} {w : GW} {Q : Option Value → GW → Prop}  (hd : decode Y.2.1 pc = .ok (.aconst_null, 1)) (k : gF g d Y (pc + 1) ls (.null :: st) w Q) : gF g d Y pc ls (st) w Q := by
  refine k.pure fun r w' h => ?_
  intro p e R s m args below meth c n0 u0 H locs lsA C h1 h2 h3 h4 h5 h6 h7
  exact lv_null C.1 C.2.1 hd (h p e R s m args below meth c n0 u0 H locs lsA C h1 h2 h3 h4 h5 h6 h7)
theorem g_dup {g : GE} {d : Nat} {Y : GM} {pc : Nat} {ls : List (Nat × Value)} {st : List Value} {w : GW} {Q : Option Value → GW → Prop} {va : Value} (hd : decode Y.2.1 pc = .ok (.dup, 1)) (hva : va.category = 1) (k : gF g d Y (pc + 1) ls (va :: va :: st) w Q) : gF g d Y pc ls (va :: st) w Q := by
  refine k.pure fun r w' h => ?_
  intro p e R s m args below meth c n0 u0 H locs lsA C h1 h2 h3 h4 h5 h6 h7
  exact lv_dup C.1 C.2.1 hd hva (h p e R s m args below meth c n0 u0 H locs lsA C h1 h2 h3 h4 h5 h6 h7)
theorem g_dup2 {g : GE} {d : Nat} {Y : GM} {pc : Nat} {ls : List (Nat × Value)} {st : List Value} {w : GW} {Q : Option Value → GW → Prop} {va vb : Value} (hd : decode Y.2.1 pc = .ok (.dup2, 1)) (hva : va.category = 1) (hvb : vb.category = 1) (k : gF g d Y (pc + 1) ls (va :: vb :: va :: vb :: st) w Q) : gF g d Y pc ls (va :: vb :: st) w Q := by
  refine k.pure fun r w' h => ?_
  intro p e R s m args below meth c n0 u0 H locs lsA C h1 h2 h3 h4 h5 h6 h7
  exact lv_dup2_11 C.1 C.2.1 hd hva hvb (h p e R s m args below meth c n0 u0 H locs lsA C h1 h2 h3 h4 h5 h6 h7)
theorem g_pop {g : GE} {d : Nat} {Y : GM} {pc : Nat} {ls : List (Nat × Value)} {st : List Value} {w : GW} {Q : Option Value → GW → Prop} {va : Value} (hd : decode Y.2.1 pc = .ok (.pop, 1)) (hva : va.category = 1) (k : gF g d Y (pc + 1) ls (st) w Q) : gF g d Y pc ls (va :: st) w Q := by
  refine k.pure fun r w' h => ?_
  intro p e R s m args below meth c n0 u0 H locs lsA C h1 h2 h3 h4 h5 h6 h7
  exact lv_pop C.1 C.2.1 hd hva (h p e R s m args below meth c n0 u0 H locs lsA C h1 h2 h3 h4 h5 h6 h7)
theorem g_ldc {g : GE} {d : Nat} {Y : GM} {pc : Nat} {ls : List (Nat × Value)} {st : List Value} {w : GW} {Q : Option Value → GW → Prop} {i : Nat} {v : Int32} (hd : decode Y.2.1 pc = .ok (.ldc i, 2)) (hc : Cond.constant Y.1.cls i v ∈ gT) (k : gF g d Y (pc + 2) ls (.int v :: st) w Q) : gF g d Y pc ls (st) w Q := by
  refine k.pure fun r w' h => ?_
  intro p e R s m args below meth c n0 u0 H locs lsA C h1 h2 h3 h4 h5 h6 h7
  exact lv_ldc C.1 C.2.1 C.2.2.2.1 (C.2.2.2.2.1 _ hc) hd (h p e R s m args below meth c n0 u0 H locs lsA C h1 h2 h3 h4 h5 h6 h7)
theorem g_ldc2d {g : GE} {d : Nat} {Y : GM} {pc : Nat} {ls : List (Nat × Value)} {st : List Value} {w : GW} {Q : Option Value → GW → Prop} {i : Nat} {v : UInt64} (hd : decode Y.2.1 pc = .ok (.ldc2_w i, 3)) (hc : Cond.constantDouble Y.1.cls i v ∈ gT) (k : gF g d Y (pc + 3) ls (.double v :: st) w Q) : gF g d Y pc ls (st) w Q := by
  refine k.pure fun r w' h => ?_
  intro p e R s m args below meth c n0 u0 H locs lsA C h1 h2 h3 h4 h5 h6 h7
  exact lv_ldc2d C.1 C.2.1 C.2.2.2.1 (C.2.2.2.2.1 _ hc) hd (h p e R s m args below meth c n0 u0 H locs lsA C h1 h2 h3 h4 h5 h6 h7)
theorem g_ldc2l {g : GE} {d : Nat} {Y : GM} {pc : Nat} {ls : List (Nat × Value)} {st : List Value} {w : GW} {Q : Option Value → GW → Prop} {i : Nat} {v : Int64} (hd : decode Y.2.1 pc = .ok (.ldc2_w i, 3)) (hc : Cond.constantLong Y.1.cls i v ∈ gT) (k : gF g d Y (pc + 3) ls (.long v :: st) w Q) : gF g d Y pc ls (st) w Q := by
  refine k.pure fun r w' h => ?_
  intro p e R s m args below meth c n0 u0 H locs lsA C h1 h2 h3 h4 h5 h6 h7
  exact lv_ldc2 C.1 C.2.1 C.2.2.2.1 (C.2.2.2.2.1 _ hc) hd (h p e R s m args below meth c n0 u0 H locs lsA C h1 h2 h3 h4 h5 h6 h7)
theorem g_lk {ls : List (Nat × Value)} {lsA : Array Slot} {nL i : Nat} {v : Value} (h : lv_has lsA nL ls) (hl : ls.lookup i = some v) : lsA[i]? = some (.val v) := by
  refine h.2.2 (i, v) ?_
  induction ls with
  | nil => cases hl
  | cons q t ih =>
    obtain ⟨j, u⟩ := q
    by_cases hj : i = j
    · subst hj
      simp [List.lookup] at hl
      subst hl
      exact List.mem_cons_self
    · have hj' : (i == j) = false := by simp [hj]
      simp only [List.lookup, hj'] at hl
      exact List.mem_cons_of_mem _ (ih ⟨h.1, h.2.1, fun q hq => h.2.2 q (List.mem_cons_of_mem _ hq)⟩ hl)
theorem g_iload_n {g : GE} {d : Nat} {Y : GM} {pc : Nat} {ls : List (Nat × Value)} {st : List Value} {w : GW} {Q : Option Value → GW → Prop} {i : Fin 4} {x : Int32} (hd : decode Y.2.1 pc = .ok (.iload_n i, 1)) (hl : ls.lookup (i : Nat) = some (.int x)) (k : gF g d Y (pc + 1) ls (.int x :: st) w Q) : gF g d Y pc ls st w Q := by
  refine k.pure fun r w' h => ?_
  intro p e R s m args below meth c n0 u0 H locs lsA C h1 h2 h3 h4 h5 h6 h7
  exact lv_iload_n C.1 C.2.1 hd rfl (g_lk h7 hl) (h p e R s m args below meth c n0 u0 H locs lsA C h1 h2 h3 h4 h5 h6 h7)
theorem g_iload {g : GE} {d : Nat} {Y : GM} {pc : Nat} {ls : List (Nat × Value)} {st : List Value} {w : GW} {Q : Option Value → GW → Prop} {i : Nat} {x : Int32} (hd : decode Y.2.1 pc = .ok (.iload i, 2)) (hl : ls.lookup i = some (.int x)) (k : gF g d Y (pc + 2) ls (.int x :: st) w Q) : gF g d Y pc ls st w Q := by
  refine k.pure fun r w' h => ?_
  intro p e R s m args below meth c n0 u0 H locs lsA C h1 h2 h3 h4 h5 h6 h7
  exact lv_iload C.1 C.2.1 hd (g_lk h7 hl) (h p e R s m args below meth c n0 u0 H locs lsA C h1 h2 h3 h4 h5 h6 h7)
theorem g_lload_n {g : GE} {d : Nat} {Y : GM} {pc : Nat} {ls : List (Nat × Value)} {st : List Value} {w : GW} {Q : Option Value → GW → Prop} {i : Fin 4} {x : Int64} (hd : decode Y.2.1 pc = .ok (.lload_n i, 1)) (hl : ls.lookup (i : Nat) = some (.long x)) (k : gF g d Y (pc + 1) ls (.long x :: st) w Q) : gF g d Y pc ls st w Q := by
  refine k.pure fun r w' h => ?_
  intro p e R s m args below meth c n0 u0 H locs lsA C h1 h2 h3 h4 h5 h6 h7
  exact lv_lload_n C.1 C.2.1 hd rfl (g_lk h7 hl) (h p e R s m args below meth c n0 u0 H locs lsA C h1 h2 h3 h4 h5 h6 h7)
theorem g_lload {g : GE} {d : Nat} {Y : GM} {pc : Nat} {ls : List (Nat × Value)} {st : List Value} {w : GW} {Q : Option Value → GW → Prop} {i : Nat} {x : Int64} (hd : decode Y.2.1 pc = .ok (.lload i, 2)) (hl : ls.lookup i = some (.long x)) (k : gF g d Y (pc + 2) ls (.long x :: st) w Q) : gF g d Y pc ls st w Q := by
  refine k.pure fun r w' h => ?_
  intro p e R s m args below meth c n0 u0 H locs lsA C h1 h2 h3 h4 h5 h6 h7
  exact lv_lload C.1 C.2.1 hd (g_lk h7 hl) (h p e R s m args below meth c n0 u0 H locs lsA C h1 h2 h3 h4 h5 h6 h7)
theorem g_fload_n {g : GE} {d : Nat} {Y : GM} {pc : Nat} {ls : List (Nat × Value)} {st : List Value} {w : GW} {Q : Option Value → GW → Prop} {i : Fin 4} {x : UInt32} (hd : decode Y.2.1 pc = .ok (.fload_n i, 1)) (hl : ls.lookup (i : Nat) = some (.float x)) (k : gF g d Y (pc + 1) ls (.float x :: st) w Q) : gF g d Y pc ls st w Q := by
  refine k.pure fun r w' h => ?_
  intro p e R s m args below meth c n0 u0 H locs lsA C h1 h2 h3 h4 h5 h6 h7
  exact lv_fload_n C.1 C.2.1 hd rfl (g_lk h7 hl) (h p e R s m args below meth c n0 u0 H locs lsA C h1 h2 h3 h4 h5 h6 h7)
theorem g_fload {g : GE} {d : Nat} {Y : GM} {pc : Nat} {ls : List (Nat × Value)} {st : List Value} {w : GW} {Q : Option Value → GW → Prop} {i : Nat} {x : UInt32} (hd : decode Y.2.1 pc = .ok (.fload i, 2)) (hl : ls.lookup i = some (.float x)) (k : gF g d Y (pc + 2) ls (.float x :: st) w Q) : gF g d Y pc ls st w Q := by
  refine k.pure fun r w' h => ?_
  intro p e R s m args below meth c n0 u0 H locs lsA C h1 h2 h3 h4 h5 h6 h7
  exact lv_fload C.1 C.2.1 hd (g_lk h7 hl) (h p e R s m args below meth c n0 u0 H locs lsA C h1 h2 h3 h4 h5 h6 h7)
theorem g_dload_n {g : GE} {d : Nat} {Y : GM} {pc : Nat} {ls : List (Nat × Value)} {st : List Value} {w : GW} {Q : Option Value → GW → Prop} {i : Fin 4} {x : UInt64} (hd : decode Y.2.1 pc = .ok (.dload_n i, 1)) (hl : ls.lookup (i : Nat) = some (.double x)) (k : gF g d Y (pc + 1) ls (.double x :: st) w Q) : gF g d Y pc ls st w Q := by
  refine k.pure fun r w' h => ?_
  intro p e R s m args below meth c n0 u0 H locs lsA C h1 h2 h3 h4 h5 h6 h7
  exact lv_dload_n C.1 C.2.1 hd rfl (g_lk h7 hl) (h p e R s m args below meth c n0 u0 H locs lsA C h1 h2 h3 h4 h5 h6 h7)
theorem g_dload {g : GE} {d : Nat} {Y : GM} {pc : Nat} {ls : List (Nat × Value)} {st : List Value} {w : GW} {Q : Option Value → GW → Prop} {i : Nat} {x : UInt64} (hd : decode Y.2.1 pc = .ok (.dload i, 2)) (hl : ls.lookup i = some (.double x)) (k : gF g d Y (pc + 2) ls (.double x :: st) w Q) : gF g d Y pc ls st w Q := by
  refine k.pure fun r w' h => ?_
  intro p e R s m args below meth c n0 u0 H locs lsA C h1 h2 h3 h4 h5 h6 h7
  exact lv_dload C.1 C.2.1 hd (g_lk h7 hl) (h p e R s m args below meth c n0 u0 H locs lsA C h1 h2 h3 h4 h5 h6 h7)
theorem g_aload_n {g : GE} {d : Nat} {Y : GM} {pc : Nat} {ls : List (Nat × Value)} {st : List Value} {w : GW} {Q : Option Value → GW → Prop} {i : Fin 4} {x : Nat} (hd : decode Y.2.1 pc = .ok (.aload_n i, 1)) (hl : ls.lookup (i : Nat) = some (.ref x)) (k : gF g d Y (pc + 1) ls (.ref x :: st) w Q) : gF g d Y pc ls st w Q := by
  refine k.pure fun r w' h => ?_
  intro p e R s m args below meth c n0 u0 H locs lsA C h1 h2 h3 h4 h5 h6 h7
  exact lv_aload_n C.1 C.2.1 hd rfl (g_lk h7 hl) (h p e R s m args below meth c n0 u0 H locs lsA C h1 h2 h3 h4 h5 h6 h7)
theorem g_aload {g : GE} {d : Nat} {Y : GM} {pc : Nat} {ls : List (Nat × Value)} {st : List Value} {w : GW} {Q : Option Value → GW → Prop} {i : Nat} {x : Nat} (hd : decode Y.2.1 pc = .ok (.aload i, 2)) (hl : ls.lookup i = some (.ref x)) (k : gF g d Y (pc + 2) ls (.ref x :: st) w Q) : gF g d Y pc ls st w Q := by
  refine k.pure fun r w' h => ?_
  intro p e R s m args below meth c n0 u0 H locs lsA C h1 h2 h3 h4 h5 h6 h7
  exact lv_aload C.1 C.2.1 hd (g_lk h7 hl) (h p e R s m args below meth c n0 u0 H locs lsA C h1 h2 h3 h4 h5 h6 h7)
theorem g_aload_nN {g : GE} {d : Nat} {Y : GM} {pc : Nat} {ls : List (Nat × Value)} {st : List Value} {w : GW} {Q : Option Value → GW → Prop} {i : Fin 4} (hd : decode Y.2.1 pc = .ok (.aload_n i, 1)) (hl : ls.lookup (i : Nat) = some .null) (k : gF g d Y (pc + 1) ls (.null :: st) w Q) : gF g d Y pc ls st w Q := by
  refine k.pure fun r w' h => ?_
  intro p e R s m args below meth c n0 u0 H locs lsA C h1 h2 h3 h4 h5 h6 h7
  exact lv_aload_nN C.1 C.2.1 hd rfl (g_lk h7 hl) (h p e R s m args below meth c n0 u0 H locs lsA C h1 h2 h3 h4 h5 h6 h7)
theorem g_aloadN {g : GE} {d : Nat} {Y : GM} {pc : Nat} {ls : List (Nat × Value)} {st : List Value} {w : GW} {Q : Option Value → GW → Prop} {i : Nat} (hd : decode Y.2.1 pc = .ok (.aload i, 2)) (hl : ls.lookup i = some .null) (k : gF g d Y (pc + 2) ls (.null :: st) w Q) : gF g d Y pc ls st w Q := by
  refine k.pure fun r w' h => ?_
  intro p e R s m args below meth c n0 u0 H locs lsA C h1 h2 h3 h4 h5 h6 h7
  exact lv_aloadN C.1 C.2.1 hd (g_lk h7 hl) (h p e R s m args below meth c n0 u0 H locs lsA C h1 h2 h3 h4 h5 h6 h7)
def ls1 (ls : List (Nat × Value)) (i : Nat) (v : Value) : List (Nat × Value) := (i, v) :: ls.filter (fun q => !(q.1 == i) && !(q.1 + 1 == i && q.2.category == 2))
def ls2 (ls : List (Nat × Value)) (i : Nat) (v : Value) : List (Nat × Value) := (i, v) :: ls.filter (fun q => !(q.1 == i) && (!(q.1 == i + 1) && !(q.1 + 1 == i && q.2.category == 2)))
theorem g_istore_n {g : GE} {d : Nat} {Y : GM} {pc : Nat} {ls : List (Nat × Value)} {st : List Value} {w : GW} {Q : Option Value → GW → Prop} {i : Fin 4} {x : Int32} {lz : List (Nat × Value)} (hd : decode Y.2.1 pc = .ok (.istore_n i, 1)) (hi : (i : Nat) < Y.2.2.1) (hz : ls1 ls (i : Nat) (.int x) = lz) (k : gF g d Y (pc + 1) lz st w Q) : gF g d Y pc ls (.int x :: st) w Q := by
  refine k.pure fun r w' h => ?_
  intro p e R s m args below meth c n0 u0 H locs lsA C h1 h2 h3 h4 h5 h6 h7
  exact lv_istore_n C.1 C.2.1 hd rfl h7 hi hz (fun lsB h8 => h p e R s m args below meth c n0 u0 H locs lsB C h1 h2 h3 h4 h5 h6 h8)
theorem g_istore {g : GE} {d : Nat} {Y : GM} {pc : Nat} {ls : List (Nat × Value)} {st : List Value} {w : GW} {Q : Option Value → GW → Prop} {i : Nat} {x : Int32} {lz : List (Nat × Value)} (hd : decode Y.2.1 pc = .ok (.istore i, 2)) (hi : i < Y.2.2.1) (hz : ls1 ls i (.int x) = lz) (k : gF g d Y (pc + 2) lz st w Q) : gF g d Y pc ls (.int x :: st) w Q := by
  refine k.pure fun r w' h => ?_
  intro p e R s m args below meth c n0 u0 H locs lsA C h1 h2 h3 h4 h5 h6 h7
  exact lv_istore C.1 C.2.1 hd h7 hi hz (fun lsB h8 => h p e R s m args below meth c n0 u0 H locs lsB C h1 h2 h3 h4 h5 h6 h8)
theorem g_lstore_n {g : GE} {d : Nat} {Y : GM} {pc : Nat} {ls : List (Nat × Value)} {st : List Value} {w : GW} {Q : Option Value → GW → Prop} {i : Fin 4} {x : Int64} {lz : List (Nat × Value)} (hd : decode Y.2.1 pc = .ok (.lstore_n i, 1)) (hi : (i : Nat) + 1 < Y.2.2.1) (hz : ls2 ls (i : Nat) (.long x) = lz) (k : gF g d Y (pc + 1) lz st w Q) : gF g d Y pc ls (.long x :: st) w Q := by
  refine k.pure fun r w' h => ?_
  intro p e R s m args below meth c n0 u0 H locs lsA C h1 h2 h3 h4 h5 h6 h7
  exact lv_lstore_n C.1 C.2.1 hd rfl h7 hi hz (fun lsB h8 => h p e R s m args below meth c n0 u0 H locs lsB C h1 h2 h3 h4 h5 h6 h8)
theorem g_lstore {g : GE} {d : Nat} {Y : GM} {pc : Nat} {ls : List (Nat × Value)} {st : List Value} {w : GW} {Q : Option Value → GW → Prop} {i : Nat} {x : Int64} {lz : List (Nat × Value)} (hd : decode Y.2.1 pc = .ok (.lstore i, 2)) (hi : i + 1 < Y.2.2.1) (hz : ls2 ls i (.long x) = lz) (k : gF g d Y (pc + 2) lz st w Q) : gF g d Y pc ls (.long x :: st) w Q := by
  refine k.pure fun r w' h => ?_
  intro p e R s m args below meth c n0 u0 H locs lsA C h1 h2 h3 h4 h5 h6 h7
  exact lv_lstore C.1 C.2.1 hd h7 hi hz (fun lsB h8 => h p e R s m args below meth c n0 u0 H locs lsB C h1 h2 h3 h4 h5 h6 h8)
theorem g_fstore_n {g : GE} {d : Nat} {Y : GM} {pc : Nat} {ls : List (Nat × Value)} {st : List Value} {w : GW} {Q : Option Value → GW → Prop} {i : Fin 4} {x : UInt32} {lz : List (Nat × Value)} (hd : decode Y.2.1 pc = .ok (.fstore_n i, 1)) (hi : (i : Nat) < Y.2.2.1) (hz : ls1 ls (i : Nat) (.float x) = lz) (k : gF g d Y (pc + 1) lz st w Q) : gF g d Y pc ls (.float x :: st) w Q := by
  refine k.pure fun r w' h => ?_
  intro p e R s m args below meth c n0 u0 H locs lsA C h1 h2 h3 h4 h5 h6 h7
  exact lv_fstore_n C.1 C.2.1 hd rfl h7 hi hz (fun lsB h8 => h p e R s m args below meth c n0 u0 H locs lsB C h1 h2 h3 h4 h5 h6 h8)
theorem g_fstore {g : GE} {d : Nat} {Y : GM} {pc : Nat} {ls : List (Nat × Value)} {st : List Value} {w : GW} {Q : Option Value → GW → Prop} {i : Nat} {x : UInt32} {lz : List (Nat × Value)} (hd : decode Y.2.1 pc = .ok (.fstore i, 2)) (hi : i < Y.2.2.1) (hz : ls1 ls i (.float x) = lz) (k : gF g d Y (pc + 2) lz st w Q) : gF g d Y pc ls (.float x :: st) w Q := by
  refine k.pure fun r w' h => ?_
  intro p e R s m args below meth c n0 u0 H locs lsA C h1 h2 h3 h4 h5 h6 h7
  exact lv_fstore C.1 C.2.1 hd h7 hi hz (fun lsB h8 => h p e R s m args below meth c n0 u0 H locs lsB C h1 h2 h3 h4 h5 h6 h8)
theorem g_dstore_n {g : GE} {d : Nat} {Y : GM} {pc : Nat} {ls : List (Nat × Value)} {st : List Value} {w : GW} {Q : Option Value → GW → Prop} {i : Fin 4} {x : UInt64} {lz : List (Nat × Value)} (hd : decode Y.2.1 pc = .ok (.dstore_n i, 1)) (hi : (i : Nat) + 1 < Y.2.2.1) (hz : ls2 ls (i : Nat) (.double x) = lz) (k : gF g d Y (pc + 1) lz st w Q) : gF g d Y pc ls (.double x :: st) w Q := by
  refine k.pure fun r w' h => ?_
  intro p e R s m args below meth c n0 u0 H locs lsA C h1 h2 h3 h4 h5 h6 h7
  exact lv_dstore_n C.1 C.2.1 hd rfl h7 hi hz (fun lsB h8 => h p e R s m args below meth c n0 u0 H locs lsB C h1 h2 h3 h4 h5 h6 h8)
theorem g_dstore {g : GE} {d : Nat} {Y : GM} {pc : Nat} {ls : List (Nat × Value)} {st : List Value} {w : GW} {Q : Option Value → GW → Prop} {i : Nat} {x : UInt64} {lz : List (Nat × Value)} (hd : decode Y.2.1 pc = .ok (.dstore i, 2)) (hi : i + 1 < Y.2.2.1) (hz : ls2 ls i (.double x) = lz) (k : gF g d Y (pc + 2) lz st w Q) : gF g d Y pc ls (.double x :: st) w Q := by
  refine k.pure fun r w' h => ?_
  intro p e R s m args below meth c n0 u0 H locs lsA C h1 h2 h3 h4 h5 h6 h7
  exact lv_dstore C.1 C.2.1 hd h7 hi hz (fun lsB h8 => h p e R s m args below meth c n0 u0 H locs lsB C h1 h2 h3 h4 h5 h6 h8)
theorem g_astore_n {g : GE} {d : Nat} {Y : GM} {pc : Nat} {ls : List (Nat × Value)} {st : List Value} {w : GW} {Q : Option Value → GW → Prop} {i : Fin 4} {x : Nat} {lz : List (Nat × Value)} (hd : decode Y.2.1 pc = .ok (.astore_n i, 1)) (hi : (i : Nat) < Y.2.2.1) (hz : ls1 ls (i : Nat) (.ref x) = lz) (k : gF g d Y (pc + 1) lz st w Q) : gF g d Y pc ls (.ref x :: st) w Q := by
  refine k.pure fun r w' h => ?_
  intro p e R s m args below meth c n0 u0 H locs lsA C h1 h2 h3 h4 h5 h6 h7
  exact lv_astore_n C.1 C.2.1 hd rfl h7 hi hz (fun lsB h8 => h p e R s m args below meth c n0 u0 H locs lsB C h1 h2 h3 h4 h5 h6 h8)
theorem g_astore {g : GE} {d : Nat} {Y : GM} {pc : Nat} {ls : List (Nat × Value)} {st : List Value} {w : GW} {Q : Option Value → GW → Prop} {i : Nat} {x : Nat} {lz : List (Nat × Value)} (hd : decode Y.2.1 pc = .ok (.astore i, 2)) (hi : i < Y.2.2.1) (hz : ls1 ls i (.ref x) = lz) (k : gF g d Y (pc + 2) lz st w Q) : gF g d Y pc ls (.ref x :: st) w Q := by
  refine k.pure fun r w' h => ?_
  intro p e R s m args below meth c n0 u0 H locs lsA C h1 h2 h3 h4 h5 h6 h7
  exact lv_astore C.1 C.2.1 hd h7 hi hz (fun lsB h8 => h p e R s m args below meth c n0 u0 H locs lsB C h1 h2 h3 h4 h5 h6 h8)
theorem g_astore_nN {g : GE} {d : Nat} {Y : GM} {pc : Nat} {ls : List (Nat × Value)} {st : List Value} {w : GW} {Q : Option Value → GW → Prop} {i : Fin 4} {lz : List (Nat × Value)} (hd : decode Y.2.1 pc = .ok (.astore_n i, 1)) (hi : (i : Nat) < Y.2.2.1) (hz : ls1 ls (i : Nat) .null = lz) (k : gF g d Y (pc + 1) lz st w Q) : gF g d Y pc ls (.null :: st) w Q := by
  refine k.pure fun r w' h => ?_
  intro p e R s m args below meth c n0 u0 H locs lsA C h1 h2 h3 h4 h5 h6 h7
  exact lv_astore_nN C.1 C.2.1 hd rfl h7 hi hz (fun lsB h8 => h p e R s m args below meth c n0 u0 H locs lsB C h1 h2 h3 h4 h5 h6 h8)
theorem g_astoreN {g : GE} {d : Nat} {Y : GM} {pc : Nat} {ls : List (Nat × Value)} {st : List Value} {w : GW} {Q : Option Value → GW → Prop} {i : Nat} {lz : List (Nat × Value)} (hd : decode Y.2.1 pc = .ok (.astore i, 2)) (hi : i < Y.2.2.1) (hz : ls1 ls i .null = lz) (k : gF g d Y (pc + 2) lz st w Q) : gF g d Y pc ls (.null :: st) w Q := by
  refine k.pure fun r w' h => ?_
  intro p e R s m args below meth c n0 u0 H locs lsA C h1 h2 h3 h4 h5 h6 h7
  exact lv_astoreN C.1 C.2.1 hd h7 hi hz (fun lsB h8 => h p e R s m args below meth c n0 u0 H locs lsB C h1 h2 h3 h4 h5 h6 h8)
theorem g_ix {ls : List (Nat × Value)} {i : Nat} {v : Value} (hl : ls.lookup i = some v) : ∃ k : Nat, ls[k]? = some (i, v) := by
  induction ls with
  | nil => cases hl
  | cons q t ih =>
    obtain ⟨j, u⟩ := q
    by_cases hj : i = j
    · subst hj
      simp [List.lookup] at hl
      subst hl
      exact ⟨0, rfl⟩
    · have hj' : (i == j) = false := by simp [hj]
      simp only [List.lookup, hj'] at hl
      obtain ⟨k, hk⟩ := ih hl
      exact ⟨k + 1, hk⟩
theorem g_iinc {g : GE} {d : Nat} {Y : GM} {pc : Nat} {ls : List (Nat × Value)} {st : List Value} {w : GW} {Q : Option Value → GW → Prop} {i : Nat} {n : Int} {x : Int32} {lz : List (Nat × Value)} (hd : decode Y.2.1 pc = .ok (.iinc i n, 3)) (hl : ls.lookup i = some (.int x)) (hi : i < Y.2.2.1) (hz : ls1 ls i (.int (x + Int32.ofInt n)) = lz) (k : gF g d Y (pc + 3) lz st w Q) : gF g d Y pc ls st w Q := by
  obtain ⟨kk, hk⟩ := g_ix hl
  refine k.pure fun r w' h => ?_
  intro p e R s m args below meth c n0 u0 H locs lsA C h1 h2 h3 h4 h5 h6 h7
  exact lv_iinc C.1 C.2.1 hd h7 hk rfl hi hz (fun lsB h8 => h p e R s m args below meth c n0 u0 H locs lsB C h1 h2 h3 h4 h5 h6 h8)
theorem g_if_eq {g : GE} {d : Nat} {Y : GM} {pc : Nat} {ls : List (Nat × Value)} {st : List Value} {w : GW} {Q : Option Value → GW → Prop} {x : Int32} {off : Int} (tgt : Nat) (hd : decode Y.2.1 pc = .ok (.ifCond .eq off, 3)) (ht : (pc : Int) + off = (tgt : Int)) (kt : x = 0 → gF g d Y tgt ls st w Q) (kf : ¬ (x = 0) → gF g d Y (pc + 3) ls st w Q) : gF g d Y pc ls (.int x :: st) w Q := by
  by_cases hc : x = 0
  · refine (kt hc).pure fun r w' h => ?_
    intro p e R s m args below meth c n0 u0 H locs lsA C h1 h2 h3 h4 h5 h6 h7
    exact lv_if_eq C.1 C.2.1 hd ht (fun _ => (h p e R s m args below meth c n0 u0 H locs lsA C h1 h2 h3 h4 h5 h6 h7)) (fun q => absurd hc q)
  · refine (kf hc).pure fun r w' h => ?_
    intro p e R s m args below meth c n0 u0 H locs lsA C h1 h2 h3 h4 h5 h6 h7
    exact lv_if_eq C.1 C.2.1 hd ht (fun q => absurd q hc) (fun _ => (h p e R s m args below meth c n0 u0 H locs lsA C h1 h2 h3 h4 h5 h6 h7))
theorem g_if_lt {g : GE} {d : Nat} {Y : GM} {pc : Nat} {ls : List (Nat × Value)} {st : List Value} {w : GW} {Q : Option Value → GW → Prop} {x : Int32} {off : Int} (tgt : Nat) (hd : decode Y.2.1 pc = .ok (.ifCond .lt off, 3)) (ht : (pc : Int) + off = (tgt : Int)) (kt : x < 0 → gF g d Y tgt ls st w Q) (kf : ¬ (x < 0) → gF g d Y (pc + 3) ls st w Q) : gF g d Y pc ls (.int x :: st) w Q := by
  by_cases hc : x < 0
  · refine (kt hc).pure fun r w' h => ?_
    intro p e R s m args below meth c n0 u0 H locs lsA C h1 h2 h3 h4 h5 h6 h7
    exact lv_if_lt C.1 C.2.1 hd ht (fun _ => (h p e R s m args below meth c n0 u0 H locs lsA C h1 h2 h3 h4 h5 h6 h7)) (fun q => absurd hc q)
  · refine (kf hc).pure fun r w' h => ?_
    intro p e R s m args below meth c n0 u0 H locs lsA C h1 h2 h3 h4 h5 h6 h7
    exact lv_if_lt C.1 C.2.1 hd ht (fun q => absurd q hc) (fun _ => (h p e R s m args below meth c n0 u0 H locs lsA C h1 h2 h3 h4 h5 h6 h7))
theorem g_if_ge {g : GE} {d : Nat} {Y : GM} {pc : Nat} {ls : List (Nat × Value)} {st : List Value} {w : GW} {Q : Option Value → GW → Prop} {x : Int32} {off : Int} (tgt : Nat) (hd : decode Y.2.1 pc = .ok (.ifCond .ge off, 3)) (ht : (pc : Int) + off = (tgt : Int)) (kt : 0 ≤ x → gF g d Y tgt ls st w Q) (kf : ¬ (0 ≤ x) → gF g d Y (pc + 3) ls st w Q) : gF g d Y pc ls (.int x :: st) w Q := by
  by_cases hc : 0 ≤ x
  · refine (kt hc).pure fun r w' h => ?_
    intro p e R s m args below meth c n0 u0 H locs lsA C h1 h2 h3 h4 h5 h6 h7
    exact lv_if_ge C.1 C.2.1 hd ht (fun _ => (h p e R s m args below meth c n0 u0 H locs lsA C h1 h2 h3 h4 h5 h6 h7)) (fun q => absurd hc q)
  · refine (kf hc).pure fun r w' h => ?_
    intro p e R s m args below meth c n0 u0 H locs lsA C h1 h2 h3 h4 h5 h6 h7
    exact lv_if_ge C.1 C.2.1 hd ht (fun q => absurd q hc) (fun _ => (h p e R s m args below meth c n0 u0 H locs lsA C h1 h2 h3 h4 h5 h6 h7))
theorem g_if_gt {g : GE} {d : Nat} {Y : GM} {pc : Nat} {ls : List (Nat × Value)} {st : List Value} {w : GW} {Q : Option Value → GW → Prop} {x : Int32} {off : Int} (tgt : Nat) (hd : decode Y.2.1 pc = .ok (.ifCond .gt off, 3)) (ht : (pc : Int) + off = (tgt : Int)) (kt : 0 < x → gF g d Y tgt ls st w Q) (kf : ¬ (0 < x) → gF g d Y (pc + 3) ls st w Q) : gF g d Y pc ls (.int x :: st) w Q := by
  by_cases hc : 0 < x
  · refine (kt hc).pure fun r w' h => ?_
    intro p e R s m args below meth c n0 u0 H locs lsA C h1 h2 h3 h4 h5 h6 h7
    exact lv_if_gt C.1 C.2.1 hd ht (fun _ => (h p e R s m args below meth c n0 u0 H locs lsA C h1 h2 h3 h4 h5 h6 h7)) (fun q => absurd hc q)
  · refine (kf hc).pure fun r w' h => ?_
    intro p e R s m args below meth c n0 u0 H locs lsA C h1 h2 h3 h4 h5 h6 h7
    exact lv_if_gt C.1 C.2.1 hd ht (fun q => absurd q hc) (fun _ => (h p e R s m args below meth c n0 u0 H locs lsA C h1 h2 h3 h4 h5 h6 h7))
theorem g_if_le {g : GE} {d : Nat} {Y : GM} {pc : Nat} {ls : List (Nat × Value)} {st : List Value} {w : GW} {Q : Option Value → GW → Prop} {x : Int32} {off : Int} (tgt : Nat) (hd : decode Y.2.1 pc = .ok (.ifCond .le off, 3)) (ht : (pc : Int) + off = (tgt : Int)) (kt : x ≤ 0 → gF g d Y tgt ls st w Q) (kf : ¬ (x ≤ 0) → gF g d Y (pc + 3) ls st w Q) : gF g d Y pc ls (.int x :: st) w Q := by
  by_cases hc : x ≤ 0
  · refine (kt hc).pure fun r w' h => ?_
    intro p e R s m args below meth c n0 u0 H locs lsA C h1 h2 h3 h4 h5 h6 h7
    exact lv_if_le C.1 C.2.1 hd ht (fun _ => (h p e R s m args below meth c n0 u0 H locs lsA C h1 h2 h3 h4 h5 h6 h7)) (fun q => absurd hc q)
  · refine (kf hc).pure fun r w' h => ?_
    intro p e R s m args below meth c n0 u0 H locs lsA C h1 h2 h3 h4 h5 h6 h7
    exact lv_if_le C.1 C.2.1 hd ht (fun q => absurd q hc) (fun _ => (h p e R s m args below meth c n0 u0 H locs lsA C h1 h2 h3 h4 h5 h6 h7))
theorem g_icmp_eq {g : GE} {d : Nat} {Y : GM} {pc : Nat} {ls : List (Nat × Value)} {st : List Value} {w : GW} {Q : Option Value → GW → Prop} {x y : Int32} {off : Int} (tgt : Nat) (hd : decode Y.2.1 pc = .ok (.if_icmp .eq off, 3)) (ht : (pc : Int) + off = (tgt : Int)) (kt : x = y → gF g d Y tgt ls st w Q) (kf : ¬ (x = y) → gF g d Y (pc + 3) ls st w Q) : gF g d Y pc ls (.int y :: .int x :: st) w Q := by
  by_cases hc : x = y
  · refine (kt hc).pure fun r w' h => ?_
    intro p e R s m args below meth c n0 u0 H locs lsA C h1 h2 h3 h4 h5 h6 h7
    exact lv_icmp_eq C.1 C.2.1 hd ht (fun _ => (h p e R s m args below meth c n0 u0 H locs lsA C h1 h2 h3 h4 h5 h6 h7)) (fun q => absurd hc q)
  · refine (kf hc).pure fun r w' h => ?_
    intro p e R s m args below meth c n0 u0 H locs lsA C h1 h2 h3 h4 h5 h6 h7
    exact lv_icmp_eq C.1 C.2.1 hd ht (fun q => absurd q hc) (fun _ => (h p e R s m args below meth c n0 u0 H locs lsA C h1 h2 h3 h4 h5 h6 h7))
theorem g_icmp_lt {g : GE} {d : Nat} {Y : GM} {pc : Nat} {ls : List (Nat × Value)} {st : List Value} {w : GW} {Q : Option Value → GW → Prop} {x y : Int32} {off : Int} (tgt : Nat) (hd : decode Y.2.1 pc = .ok (.if_icmp .lt off, 3)) (ht : (pc : Int) + off = (tgt : Int)) (kt : x < y → gF g d Y tgt ls st w Q) (kf : ¬ (x < y) → gF g d Y (pc + 3) ls st w Q) : gF g d Y pc ls (.int y :: .int x :: st) w Q := by
  by_cases hc : x < y
  · refine (kt hc).pure fun r w' h => ?_
    intro p e R s m args below meth c n0 u0 H locs lsA C h1 h2 h3 h4 h5 h6 h7
    exact lv_icmp_lt C.1 C.2.1 hd ht (fun _ => (h p e R s m args below meth c n0 u0 H locs lsA C h1 h2 h3 h4 h5 h6 h7)) (fun q => absurd hc q)
  · refine (kf hc).pure fun r w' h => ?_
    intro p e R s m args below meth c n0 u0 H locs lsA C h1 h2 h3 h4 h5 h6 h7
    exact lv_icmp_lt C.1 C.2.1 hd ht (fun q => absurd q hc) (fun _ => (h p e R s m args below meth c n0 u0 H locs lsA C h1 h2 h3 h4 h5 h6 h7))
theorem g_icmp_ge {g : GE} {d : Nat} {Y : GM} {pc : Nat} {ls : List (Nat × Value)} {st : List Value} {w : GW} {Q : Option Value → GW → Prop} {x y : Int32} {off : Int} (tgt : Nat) (hd : decode Y.2.1 pc = .ok (.if_icmp .ge off, 3)) (ht : (pc : Int) + off = (tgt : Int)) (kt : y ≤ x → gF g d Y tgt ls st w Q) (kf : ¬ (y ≤ x) → gF g d Y (pc + 3) ls st w Q) : gF g d Y pc ls (.int y :: .int x :: st) w Q := by
  by_cases hc : y ≤ x
  · refine (kt hc).pure fun r w' h => ?_
    intro p e R s m args below meth c n0 u0 H locs lsA C h1 h2 h3 h4 h5 h6 h7
    exact lv_icmp_ge C.1 C.2.1 hd ht (fun _ => (h p e R s m args below meth c n0 u0 H locs lsA C h1 h2 h3 h4 h5 h6 h7)) (fun q => absurd hc q)
  · refine (kf hc).pure fun r w' h => ?_
    intro p e R s m args below meth c n0 u0 H locs lsA C h1 h2 h3 h4 h5 h6 h7
    exact lv_icmp_ge C.1 C.2.1 hd ht (fun q => absurd q hc) (fun _ => (h p e R s m args below meth c n0 u0 H locs lsA C h1 h2 h3 h4 h5 h6 h7))
theorem g_icmp_gt {g : GE} {d : Nat} {Y : GM} {pc : Nat} {ls : List (Nat × Value)} {st : List Value} {w : GW} {Q : Option Value → GW → Prop} {x y : Int32} {off : Int} (tgt : Nat) (hd : decode Y.2.1 pc = .ok (.if_icmp .gt off, 3)) (ht : (pc : Int) + off = (tgt : Int)) (kt : y < x → gF g d Y tgt ls st w Q) (kf : ¬ (y < x) → gF g d Y (pc + 3) ls st w Q) : gF g d Y pc ls (.int y :: .int x :: st) w Q := by
  by_cases hc : y < x
  · refine (kt hc).pure fun r w' h => ?_
    intro p e R s m args below meth c n0 u0 H locs lsA C h1 h2 h3 h4 h5 h6 h7
    exact lv_icmp_gt C.1 C.2.1 hd ht (fun _ => (h p e R s m args below meth c n0 u0 H locs lsA C h1 h2 h3 h4 h5 h6 h7)) (fun q => absurd hc q)
  · refine (kf hc).pure fun r w' h => ?_
    intro p e R s m args below meth c n0 u0 H locs lsA C h1 h2 h3 h4 h5 h6 h7
    exact lv_icmp_gt C.1 C.2.1 hd ht (fun q => absurd q hc) (fun _ => (h p e R s m args below meth c n0 u0 H locs lsA C h1 h2 h3 h4 h5 h6 h7))
theorem g_icmp_le {g : GE} {d : Nat} {Y : GM} {pc : Nat} {ls : List (Nat × Value)} {st : List Value} {w : GW} {Q : Option Value → GW → Prop} {x y : Int32} {off : Int} (tgt : Nat) (hd : decode Y.2.1 pc = .ok (.if_icmp .le off, 3)) (ht : (pc : Int) + off = (tgt : Int)) (kt : x ≤ y → gF g d Y tgt ls st w Q) (kf : ¬ (x ≤ y) → gF g d Y (pc + 3) ls st w Q) : gF g d Y pc ls (.int y :: .int x :: st) w Q := by
  by_cases hc : x ≤ y
  · refine (kt hc).pure fun r w' h => ?_
    intro p e R s m args below meth c n0 u0 H locs lsA C h1 h2 h3 h4 h5 h6 h7
    exact lv_icmp_le C.1 C.2.1 hd ht (fun _ => (h p e R s m args below meth c n0 u0 H locs lsA C h1 h2 h3 h4 h5 h6 h7)) (fun q => absurd hc q)
  · refine (kf hc).pure fun r w' h => ?_
    intro p e R s m args below meth c n0 u0 H locs lsA C h1 h2 h3 h4 h5 h6 h7
    exact lv_icmp_le C.1 C.2.1 hd ht (fun q => absurd q hc) (fun _ => (h p e R s m args below meth c n0 u0 H locs lsA C h1 h2 h3 h4 h5 h6 h7))
theorem g_if_ne {g : GE} {d : Nat} {Y : GM} {pc : Nat} {ls : List (Nat × Value)} {st : List Value} {w : GW} {Q : Option Value → GW → Prop} {x : Int32} {off : Int} (tgt : Nat) (hd : decode Y.2.1 pc = .ok (.ifCond .ne off, 3)) (ht : (pc : Int) + off = (tgt : Int)) (kt : ¬ x = 0 → gF g d Y tgt ls st w Q) (kf : x = 0 → gF g d Y (pc + 3) ls st w Q) : gF g d Y pc ls (.int x :: st) w Q := by
  by_cases hc : x = 0
  · refine (kf hc).pure fun r w' h => ?_
    intro p e R s m args below meth c n0 u0 H locs lsA C h1 h2 h3 h4 h5 h6 h7
    exact lv_if_ne C.1 C.2.1 hd ht (fun q => absurd hc q) (fun _ => (h p e R s m args below meth c n0 u0 H locs lsA C h1 h2 h3 h4 h5 h6 h7))
  · refine (kt hc).pure fun r w' h => ?_
    intro p e R s m args below meth c n0 u0 H locs lsA C h1 h2 h3 h4 h5 h6 h7
    exact lv_if_ne C.1 C.2.1 hd ht (fun _ => (h p e R s m args below meth c n0 u0 H locs lsA C h1 h2 h3 h4 h5 h6 h7)) (fun q => absurd q hc)
theorem g_icmp_ne {g : GE} {d : Nat} {Y : GM} {pc : Nat} {ls : List (Nat × Value)} {st : List Value} {w : GW} {Q : Option Value → GW → Prop} {x y : Int32} {off : Int} (tgt : Nat) (hd : decode Y.2.1 pc = .ok (.if_icmp .ne off, 3)) (ht : (pc : Int) + off = (tgt : Int)) (kt : ¬ x = y → gF g d Y tgt ls st w Q) (kf : x = y → gF g d Y (pc + 3) ls st w Q) : gF g d Y pc ls (.int y :: .int x :: st) w Q := by
  by_cases hc : x = y
  · refine (kf hc).pure fun r w' h => ?_
    intro p e R s m args below meth c n0 u0 H locs lsA C h1 h2 h3 h4 h5 h6 h7
    exact lv_icmp_ne C.1 C.2.1 hd ht (fun q => absurd hc q) (fun _ => (h p e R s m args below meth c n0 u0 H locs lsA C h1 h2 h3 h4 h5 h6 h7))
  · refine (kt hc).pure fun r w' h => ?_
    intro p e R s m args below meth c n0 u0 H locs lsA C h1 h2 h3 h4 h5 h6 h7
    exact lv_icmp_ne C.1 C.2.1 hd ht (fun _ => (h p e R s m args below meth c n0 u0 H locs lsA C h1 h2 h3 h4 h5 h6 h7)) (fun q => absurd q hc)
theorem g_goto {g : GE} {d : Nat} {Y : GM} {pc : Nat} {ls : List (Nat × Value)} {st : List Value} {w : GW} {Q : Option Value → GW → Prop} {off : Int} (tgt : Nat) (hd : decode Y.2.1 pc = .ok (.goto off, 3)) (ht : (pc : Int) + off = (tgt : Int)) (k : gF g d Y tgt ls st w Q) : gF g d Y pc ls st w Q := by
  refine k.pure fun r w' h => ?_
  intro p e R s m args below meth c n0 u0 H locs lsA C h1 h2 h3 h4 h5 h6 h7
  exact lv_goto C.1 C.2.1 hd ht (h p e R s m args below meth c n0 u0 H locs lsA C h1 h2 h3 h4 h5 h6 h7)
theorem g_ifnonnull {g : GE} {d : Nat} {Y : GM} {pc : Nat} {ls : List (Nat × Value)} {st : List Value} {w : GW} {Q : Option Value → GW → Prop} {x : Nat} {off : Int} (tgt : Nat) (hd : decode Y.2.1 pc = .ok (.ifnonnull off, 3)) (ht : (pc : Int) + off = (tgt : Int)) (k : gF g d Y tgt ls st w Q) : gF g d Y pc ls (.ref x :: st) w Q := by
  refine k.pure fun r w' h => ?_
  intro p e R s m args below meth c n0 u0 H locs lsA C h1 h2 h3 h4 h5 h6 h7
  exact lv_ifnonnull C.1 C.2.1 hd ht (h p e R s m args below meth c n0 u0 H locs lsA C h1 h2 h3 h4 h5 h6 h7)
theorem g_ifnonnullN {g : GE} {d : Nat} {Y : GM} {pc : Nat} {ls : List (Nat × Value)} {st : List Value} {w : GW} {Q : Option Value → GW → Prop} {off : Int} (hd : decode Y.2.1 pc = .ok (.ifnonnull off, 3)) (k : gF g d Y (pc + 3) ls st w Q) : gF g d Y pc ls (.null :: st) w Q := by
  refine k.pure fun r w' h => ?_
  intro p e R s m args below meth c n0 u0 H locs lsA C h1 h2 h3 h4 h5 h6 h7
  exact lv_ifnonnullN C.1 C.2.1 hd (h p e R s m args below meth c n0 u0 H locs lsA C h1 h2 h3 h4 h5 h6 h7)
theorem g_ifnull {g : GE} {d : Nat} {Y : GM} {pc : Nat} {ls : List (Nat × Value)} {st : List Value} {w : GW} {Q : Option Value → GW → Prop} {x : Nat} {off : Int} (hd : decode Y.2.1 pc = .ok (.ifnull off, 3)) (k : gF g d Y (pc + 3) ls st w Q) : gF g d Y pc ls (.ref x :: st) w Q := by
  refine k.pure fun r w' h => ?_
  intro p e R s m args below meth c n0 u0 H locs lsA C h1 h2 h3 h4 h5 h6 h7
  exact lv_ifnull C.1 C.2.1 hd (h p e R s m args below meth c n0 u0 H locs lsA C h1 h2 h3 h4 h5 h6 h7)
theorem g_ifnullN {g : GE} {d : Nat} {Y : GM} {pc : Nat} {ls : List (Nat × Value)} {st : List Value} {w : GW} {Q : Option Value → GW → Prop} {off : Int} (tgt : Nat) (hd : decode Y.2.1 pc = .ok (.ifnull off, 3)) (ht : (pc : Int) + off = (tgt : Int)) (k : gF g d Y tgt ls st w Q) : gF g d Y pc ls (.null :: st) w Q := by
  refine k.pure fun r w' h => ?_
  intro p e R s m args below meth c n0 u0 H locs lsA C h1 h2 h3 h4 h5 h6 h7
  exact lv_ifnullN C.1 C.2.1 hd ht (h p e R s m args below meth c n0 u0 H locs lsA C h1 h2 h3 h4 h5 h6 h7)
theorem g_tableOut {g : GE} {d : Nat} {Y : GM} {pc : Nat} {ls : List (Nat × Value)} {st : List Value} {w : GW} {Q : Option Value → GW → Prop} {dflt lo hi : Int} {offs : Array Int} {len : Nat} {x : Int32} (tgt : Nat) (hd : decode Y.2.1 pc = .ok (.tableswitch dflt lo hi offs, len)) (hc : x.toInt < lo ∨ hi < x.toInt) (ht : (pc : Int) + dflt = (tgt : Int)) (k : gF g d Y tgt ls st w Q) : gF g d Y pc ls (.int x :: st) w Q := by
  refine k.pure fun r w' h => ?_
  intro p e R s m args below meth c n0 u0 H locs lsA C h1 h2 h3 h4 h5 h6 h7
  exact lv_tableOut C.1 C.2.1 hd hc ht (h p e R s m args below meth c n0 u0 H locs lsA C h1 h2 h3 h4 h5 h6 h7)
theorem g_tableIn {g : GE} {d : Nat} {Y : GM} {pc : Nat} {ls : List (Nat × Value)} {st : List Value} {w : GW} {Q : Option Value → GW → Prop} {dflt lo hi : Int} {offs : Array Int} {len : Nat} {x : Int32} {off : Int} (tgt : Nat) (hd : decode Y.2.1 pc = .ok (.tableswitch dflt lo hi offs, len)) (hc1 : ¬ x.toInt < lo) (hc2 : ¬ hi < x.toInt) (ho : offs[(x.toInt - lo).toNat]? = some off) (ht : (pc : Int) + off = (tgt : Int)) (k : gF g d Y tgt ls st w Q) : gF g d Y pc ls (.int x :: st) w Q := by
  refine k.pure fun r w' h => ?_
  intro p e R s m args below meth c n0 u0 H locs lsA C h1 h2 h3 h4 h5 h6 h7
  exact lv_tableIn C.1 C.2.1 hd hc1 hc2 ho ht (h p e R s m args below meth c n0 u0 H locs lsA C h1 h2 h3 h4 h5 h6 h7)
theorem g_lookup {g : GE} {d : Nat} {Y : GM} {pc : Nat} {ls : List (Nat × Value)} {st : List Value} {w : GW} {Q : Option Value → GW → Prop} {dflt : Int} {ps : Array (Int × Int)} {len : Nat} {x : Int32} {off : Int} (tgt : Nat) (hd : decode Y.2.1 pc = .ok (.lookupswitch dflt ps, len)) (hp : (ps.toList.zip (ps.toList.drop 1)).all (fun (a, next) => a.1 < next.1) = true) (ho : Op.lookupswitch.offset ps.toList dflt x.toInt = off) (ht : (pc : Int) + off = (tgt : Int)) (k : gF g d Y tgt ls st w Q) : gF g d Y pc ls (.int x :: st) w Q := by
  refine k.pure fun r w' h => ?_
  intro p e R s m args below meth c n0 u0 H locs lsA C h1 h2 h3 h4 h5 h6 h7
  exact lv_lookup C.1 C.2.1 hd hp ho ht (h p e R s m args below meth c n0 u0 H locs lsA C h1 h2 h3 h4 h5 h6 h7)
end
section
theorem inX0 : ∀ w ∈ u_ws RX0 TX0 9, w ∈ gT := by decide +kernel
theorem inX1 : ∀ w ∈ u_ws RX1 TX1 4, w ∈ gT := by decide +kernel
theorem inX2 : ∀ w ∈ u_ws RX2 TX2 1, w ∈ gT := by decide +kernel
theorem inX3 : ∀ w ∈ u_ws RX3 TX3 6, w ∈ gT := by decide +kernel
theorem inX4 : ∀ w ∈ u_ws RX4 TX4 2, w ∈ gT := by decide +kernel
theorem inX5 : ∀ w ∈ u_ws RX5 TX5 5, w ∈ gT := by decide +kernel
theorem inX6 : ∀ w ∈ u_ws RX6 TX6 4, w ∈ gT := by decide +kernel
theorem inX7 : ∀ w ∈ u_ws RX7 TX7 8, w ∈ gT := by decide +kernel
theorem inX9 : ∀ w ∈ u_ws RX9 TX9 1, w ∈ gT := by decide +kernel
theorem inX10 : ∀ w ∈ u_ws RX10 TX10 40, w ∈ gT := by decide +kernel
theorem g_cl {ci : Nat} {q : vw_C} (h : vwCl[ci]? = some q) : q.2.2 = gNF ci ∧ (∀ w ∈ u_ws q.1 q.2.1 q.2.2, w ∈ gT) ∧ (∀ k, k < q.2.2 → parseFieldDescriptor (q.2.1 k).2.2.1 = some (gTy ci k)) ∧ (∀ a, a < q.2.2 → ∀ b, b < q.2.2 → a ≠ b → (q.2.1 a).2.1 ≠ (q.2.1 b).2.1) ∧ ci < 10 := by
  match ci, h with
  | 0, h => cases h; exact ⟨rfl, inX0, tyX0_ok, nmX0, by decide⟩
  | 1, h => cases h; exact ⟨rfl, inX1, tyX1_ok, nmX1, by decide⟩
  | 2, h => cases h; exact ⟨rfl, inX2, tyX2_ok, nmX2, by decide⟩
  | 3, h => cases h; exact ⟨rfl, inX3, tyX3_ok, nmX3, by decide⟩
  | 4, h => cases h; exact ⟨rfl, inX4, tyX4_ok, nmX4, by decide⟩
  | 5, h => cases h; exact ⟨rfl, inX5, tyX5_ok, nmX5, by decide⟩
  | 6, h => cases h; exact ⟨rfl, inX6, tyX6_ok, nmX6, by decide⟩
  | 7, h => cases h; exact ⟨rfl, inX7, tyX7_ok, nmX7, by decide⟩
  | 8, h => cases h; exact ⟨rfl, inX9, tyX9_ok, nmX9, by decide⟩
  | 9, h => cases h; exact ⟨rfl, inX10, tyX10_ok, nmX10, by decide⟩
  | ci + 10, h => simp [vwCl] at h
/-- the field that a pool entry names: of class ci, number k; final or not -/
def gfl (own : String) (idx ci k : Nat) (fin : Bool) : Prop := ∃ q : vw_C, vwCl[ci]? = some q ∧ k < q.2.2 ∧ Cond.fieldLink own idx (q.2.1 k).1 (q.2.1 k).2.1 (q.2.1 k).2.2.1 ∈ gT ∧ (q.2.1 k).2.2.2 = fin ∧ (q.2.1 k).1 = q.1
/-- an object of class ci of ours -/
def gOb (g : GE) (w : GW) (a ci : Nat) : Prop := eB g ≤ a ∧ a < gN w ∧ gK w a = ci
theorem gAt.kept {g : GE} {w : GW} {a : Nat} {H H1 : Heap} (h : gAt g w a H) (hk : H1[a]? = H[a]?) : gAt g w a H1 := by
  rcases h with ⟨h1, h2⟩ | ⟨h1, h2, h3, h4⟩
  · exact Or.inl ⟨h1, h2.kept hk⟩
  · exact Or.inr ⟨h1, h2, h3, by rw [hk]; exact h4⟩
theorem gAt.same {g : GE} {w w1 : GW} {a : Nat} {H : Heap} (h : gAt g w a H) (hK : gK w1 a = gK w a) (hL : gL w1 a = gL w a) (hV : ∀ ci k, gV w1 ci a k = gV w ci a k) (hE : ∀ kd j, gE w1 kd a j = gE w kd a j) : gAt g w1 a H := by
  unfold gAt
  rw [hK, hL]
  have e1 : gV w1 (gK w a) a = gV w (gK w a) a := funext (hV _)
  have e2 : gE w1 (gK w a) a = gE w (gK w a) a := funext (hE _)
  rw [e1, e2]
  exact h
theorem gAt.obj {g : GE} {w : GW} {a ci : Nat} {H : Heap} (h : gAt g w a H) (hK : gK w a = ci) (hc : ci < 10) : t_OB a ((eG g).1 ci) (gNF ci) ((eG g).2 ci) H (gV w ci a) := by
  rcases h with ⟨h1, h2⟩ | ⟨h1, h2, h3, h4⟩
  · rw [hK] at h2; exact h2
  · omega
theorem gAt.arr {g : GE} {w : GW} {a kd : Nat} {H : Heap} (h : gAt g w a H) (hK : gK w a = kd) (hc : 10 ≤ kd) : gL w a < 2 ^ 31 ∧ H[a]? = some (arrV (eC g kd) (gL w a) (gE w kd a)) := by
  rcases h with ⟨h1, h2⟩ | ⟨h1, h2, h3, h4⟩
  · omega
  · rw [hK] at h4; exact ⟨h3, h4⟩
theorem gRo.kept {g : GE} {i : Nat} {U : State} {H H1 : Heap} (h : gRo g i U H) (hk : ∀ q, q < eB g → q < H.size → H1[q]? = H[q]?) : gRo g i U H1 := by
  obtain ⟨h1, cell, h2, h3⟩ := h
  exact ⟨h1, cell, by rw [hk _ h1 (Array.getElem?_eq_some_iff.mp h2).1]; exact h2, h3⟩
theorem gRo.moved {g : GE} {i : Nat} {u U : State} {H : Heap} (hvm : u.vm.Alike U.vm) (h : gRo g i u H) : gRo g i U H := by
  obtain ⟨h1, cell, h2, h3, h4⟩ := h
  exact ⟨h1, cell, h2, State.isArrayOf_alike hvm h3, h4⟩
theorem gSt.moved {g : GE} {w : GW} {u U : State} {H : Heap} (hvm : u.vm.Alike U.vm) (h : gSt g w u H) : gSt g w U H := ⟨h.1, h.2.1, h.2.2.1, fun i hi => (h.2.2.2 i hi).moved hvm⟩
/-- one cell of ours is written -/
theorem gSt.put {g : GE} {w w1 : GW} {U : State} {H H1 : Heap} {a : Nat} (h : gSt g w U H) (hB : eB g ≤ a) (hz : H1.size = H.size) (ho : ∀ q, q ≠ a → H1[q]? = H[q]?) (hn : gN w1 = gN w) (hs : ∀ x, x ≠ a → gAt g w x H → gAt g w1 x H) (ha : gAt g w1 a H1) : gSt g w1 U H1 := by
  refine ⟨by rw [hz, hn]; exact h.1, by rw [hn]; exact h.2.1, fun x hx hx2 => ?_, fun i hi => (h.2.2.2 i hi).kept (fun q hq _ => ho q (by omega))⟩
  by_cases e : x = a
  · subst e; exact ha
  · exact (hs x e (h.2.2.1 x hx (by rw [← hn]; exact hx2))).kept (ho x e)
/-- one cell comes -/
theorem gSt.push {g : GE} {w w1 : GW} {U : State} {H H1 : Heap} (h : gSt g w U H) (hz : H1.size = H.size + 1) (ho : ∀ q, q < H.size → H1[q]? = H[q]?) (hn : gN w1 = gN w + 1) (hs : ∀ x, x < gN w → gAt g w x H → gAt g w1 x H) (ha : gAt g w1 (gN w) H1) : gSt g w1 U H1 := by
  have h1 := h.1
  have h2 := h.2.1
  refine ⟨by rw [hz, hn, h1], by rw [hn]; omega, fun x hx hx2 => ?_, fun i hi => (h.2.2.2 i hi).kept (fun q hq hq2 => ho q hq2)⟩
  by_cases e : x = gN w
  · subst e; exact ha
  · exact (hs x (by omega) (h.2.2.1 x hx (by omega))).kept (ho x (by omega))
theorem gS.put {g : GE} {H0 H H1 : Heap} {locs : List Loc} {a k : Nat} (h : va_S (gFr g) H0 H locs) (hB : eB g ≤ a) (hz : H1.size = H.size) (ho : ∀ q, q ≠ a → H1[q]? = H[q]?) : va_S (gFr g) H0 H1 (locs ++ [⟨a, k⟩]) := h.put hz ho hB
theorem gS.push {g : GE} {H0 H H1 : Heap} {locs : List Loc} (h : va_S (gFr g) H0 H locs) (hz : H1.size = H.size + 1) (ho : ∀ q, q < H.size → H1[q]? = H[q]?) : va_S (gFr g) H0 H1 locs :=
  ⟨Nat.le_trans h.1 (by omega), fun x h1 h2 => (ho x (Nat.lt_of_lt_of_le h1 h.1)).trans (h.2.1 x h1 h2), h.2.2⟩
theorem gV_I {w : GW} {ci a k : Nat} (h : gTI ci k = true) : gV w ci a k = .int (gI w (64 * ci + k) a) := by simp only [gV, if_pos h]
theorem gV_R {w : GW} {ci a k : Nat} (h : gTI ci k = false) : gV w ci a k = va_rf (gR w (64 * ci + k) a) := by simp [gV, h]
theorem g_getI {g : GE} {d : Nat} {Y : GM} {pc : Nat} {ls : List (Nat × Value)} {st : List Value} {w : GW} {Q : Option Value → GW → Prop} {idx a : Nat} (ci k cc : Nat) {fin : Bool} (hd : decode Y.2.1 pc = .ok (.getfield idx, 3)) (hf : gfl Y.1.cls idx ci k fin) (hti : gTI ci k = true) (hcc : 64 * ci + k = cc) (ha : gOb g w a ci) (kk : gF g d Y (pc + 3) ls (.int (gI w cc a) :: st) w Q) : gF g d Y pc ls (.ref a :: st) w Q := by
  subst hcc
  refine kk.pure fun r w' h => ?_
  intro p e R s m args below meth c n0 u0 H locs lsA C h1 h2 h3 h4 h5 h6 h7
  obtain ⟨hx, hb, hml, hown, hts, hlk, hrt, hnm, hK, hZ, hAO, hdf, hdl⟩ := id C
  obtain ⟨hB, hN, hKa⟩ := ha
  have hat := h5.2.2.1 a hB hN
  obtain ⟨qc, hq, hkN, hlink, hfin, hcl⟩ := hf
  obtain ⟨z1, z2, z3, z4, z5⟩ := g_cl hq
  obtain ⟨cell, q1, q2, q3, q4⟩ := hat.obj hKa z5
  obtain ⟨hSl, hfc, kC, hkC, hkind⟩ := hK.1 ci _ hq
  obtain ⟨cf, kf, fi, f, hi, hsl⟩ := hSl k hkN
  refine W.getf hx hb hown (hts _ hlink) hi (u_facts hfc hkC (u_lays hts z2 hkN) hi).1 q1 (by rw [q3]; exact fun h => by cases h) (v := .int (gI w (64 * ci + k) a)) ?_ rfl rfl hd (h p e R s m args below meth c n0 u0 H locs lsA C h1 h2 h3 h4 h5 h6 h7)
  rw [hsl, q4 k (by rw [← z1]; exact hkN), gV_I hti]
theorem g_getR0 {g : GE} {d : Nat} {Y : GM} {pc : Nat} {ls : List (Nat × Value)} {st : List Value} {w : GW} {Q : Option Value → GW → Prop} {idx a : Nat} (ci k cc : Nat) {fin : Bool} (hd : decode Y.2.1 pc = .ok (.getfield idx, 3)) (hf : gfl Y.1.cls idx ci k fin) (hti : gTI ci k = false) (hcc : 64 * ci + k = cc) (ha : gOb g w a ci) (kk : gF g d Y (pc + 3) ls (va_rf (gR w cc a) :: st) w Q) : gF g d Y pc ls (.ref a :: st) w Q := by
  subst hcc
  refine kk.pure fun r w' h => ?_
  intro p e R s m args below meth c n0 u0 H locs lsA C h1 h2 h3 h4 h5 h6 h7
  obtain ⟨hx, hb, hml, hown, hts, hlk, hrt, hnm, hK, hZ, hAO, hdf, hdl⟩ := id C
  obtain ⟨hB, hN, hKa⟩ := ha
  have hat := h5.2.2.1 a hB hN
  obtain ⟨qc, hq, hkN, hlink, hfin, hcl⟩ := hf
  obtain ⟨z1, z2, z3, z4, z5⟩ := g_cl hq
  obtain ⟨cell, q1, q2, q3, q4⟩ := hat.obj hKa z5
  obtain ⟨hSl, hfc, kC, hkC, hkind⟩ := hK.1 ci _ hq
  obtain ⟨cf, kf, fi, f, hi, hsl⟩ := hSl k hkN
  refine W.getf hx hb hown (hts _ hlink) hi (u_facts hfc hkC (u_lays hts z2 hkN) hi).1 q1 (by rw [q3]; exact fun h => by cases h) (v := va_rf (gR w (64 * ci + k) a)) ?_ rfl rfl hd (h p e R s m args below meth c n0 u0 H locs lsA C h1 h2 h3 h4 h5 h6 h7)
  rw [hsl, q4 k (by rw [← z1]; exact hkN), gV_R hti]
theorem g_getR {g : GE} {d : Nat} {Y : GM} {pc : Nat} {ls : List (Nat × Value)} {st : List Value} {w : GW} {Q : Option Value → GW → Prop} {idx a q : Nat} (ci k cc : Nat) {fin : Bool} (hd : decode Y.2.1 pc = .ok (.getfield idx, 3)) (hf : gfl Y.1.cls idx ci k fin) (hti : gTI ci k = false) (hcc : 64 * ci + k = cc) (ha : gOb g w a ci) (hv : gR w cc a = some q) (kk : gF g d Y (pc + 3) ls (.ref q :: st) w Q) : gF g d Y pc ls (.ref a :: st) w Q := g_getR0 ci k cc hd hf hti hcc ha (by rw [hv]; exact kk)
theorem g_getN {g : GE} {d : Nat} {Y : GM} {pc : Nat} {ls : List (Nat × Value)} {st : List Value} {w : GW} {Q : Option Value → GW → Prop} {idx a : Nat} (ci k cc : Nat) {fin : Bool} (hd : decode Y.2.1 pc = .ok (.getfield idx, 3)) (hf : gfl Y.1.cls idx ci k fin) (hti : gTI ci k = false) (hcc : 64 * ci + k = cc) (ha : gOb g w a ci) (hv : gR w cc a = none) (kk : gF g d Y (pc + 3) ls (.null :: st) w Q) : gF g d Y pc ls (.ref a :: st) w Q := g_getR0 ci k cc hd hf hti hcc ha (by rw [hv]; exact kk)
theorem gV_setI_o {w : GW} {c a x : Nat} {v : Int32} (h : x ≠ a) (ci k : Nat) : gV (setI w c a v) ci x k = gV w ci x k := by
  simp only [gV, gI_setI, gR_setI, up2, h, and_false, if_false]
theorem gV_setR_o {w : GW} {c a x : Nat} {v : Option Nat} (h : x ≠ a) (ci k : Nat) : gV (setR w c a v) ci x k = gV w ci x k := by
  simp only [gV, gI_setR, gR_setR, up2, h, and_false, if_false]
theorem gV_setI {w : GW} {ci a k : Nat} {v : Int32} (ht : gTI ci k = true) (j : Nat) : updV (gV w ci a) k (.int v) j = gV (setI w (64 * ci + k) a v) ci a j := by
  by_cases e : j = k
  · subst e
    simp [updV, gV, ht, gI_setI, up2]
  · have e2 : ¬ (64 * ci + j = 64 * ci + k) := by omega
    simp only [updV, gV, gI_setI, gR_setI, up2, if_neg e, e2, false_and, if_false]
theorem gV_setR {w : GW} {ci a k : Nat} {v : Option Nat} (ht : gTI ci k = false) (j : Nat) : updV (gV w ci a) k (va_rf v) j = gV (setR w (64 * ci + k) a v) ci a j := by
  by_cases e : j = k
  · subst e
    simp [updV, gV, ht, gR_setR, up2]
  · have e2 : ¬ (64 * ci + j = 64 * ci + k) := by omega
    simp only [updV, gV, gI_setR, gR_setR, up2, if_neg e, e2, false_and, if_false]
theorem gTI_ty {ci k : Nat} (h : gTI ci k = true) : gTy ci k = .int := by
  unfold gTI at h
  split at h
  · assumption
  · cases h
theorem gF.pure2 {g : GE} {d : Nat} {Y : GM} {pc pc1 : Nat} {ls ls1 : List (Nat × Value)} {st st1 : List Value} {w w1 : GW} {Q : Option Value → GW → Prop} (k : gF g d Y pc1 ls1 st1 w1 Q) (hn : gN w1 = gN w) (hu : gU w1 = gU w) (h : ∀ r w', gG g d Y pc1 ls1 st1 w1 r w' → gG g d Y pc ls st w r w') : gF g d Y pc ls st w Q := k.step (Nat.le_of_eq hn.symm) (Nat.le_of_eq hu.symm) (fun r w' _ _ h4 => h r w' h4)
theorem g_putI {g : GE} {d : Nat} {Y : GM} {pc : Nat} {ls : List (Nat × Value)} {st : List Value} {w : GW} {Q : Option Value → GW → Prop} {idx a : Nat} {x : Int32} (ci k cc : Nat) (hd : decode Y.2.1 pc = .ok (.putfield idx, 3)) (hf : gfl Y.1.cls idx ci k false) (hti : gTI ci k = true) (hcc : 64 * ci + k = cc) (ha : gOb g w a ci) (kk : gF g d Y (pc + 3) ls st (setI w cc a x) Q) : gF g d Y pc ls (.int x :: .ref a :: st) w Q := by
  subst hcc
  refine kk.pure2 rfl rfl fun r w' h => ?_
  intro p e R s m args below meth c n0 u0 H locs lsA C h1 h2 h3 h4 h5 h6 h7
  obtain ⟨hx, hb, hml, hown, hts, hlk, hrt, hnm, hK, hZ, hAO, hdf, hdl⟩ := id C
  obtain ⟨hB, hN, hKa⟩ := ha
  have hat := h5.2.2.1 a hB hN
  obtain ⟨qc, hq, hkN, hlink, hfin, hcl⟩ := hf
  obtain ⟨z1, z2, z3, z4, z5⟩ := g_cl hq
  obtain ⟨cell, q1, q2, q3, q4⟩ := hat.obj hKa z5
  obtain ⟨hSl, hfc, kC, hkC, hkind⟩ := hK.1 ci _ hq
  obtain ⟨cf, kf, fi, f, hi, hsl⟩ := hSl k hkN
  have hnar : narrow (gTy ci k) (Value.int x) = .int x := by rw [gTI_ty hti]; rfl
  have hfit : fits (gTy ci k) (Value.int x) = true := by rw [gTI_ty hti]; rfl
  have hlay := hts _ (z2 _ (u_in_lay hkN))
  unfold u_lay at hlay
  rw [if_neg (by rw [hfin]; decide)] at hlay
  have hst := (u_facts hfc hkC (u_lays hts z2 hkN) hi).1
  have h8 := u_store hfc hkC hkind hlay hi (z3 k hkN) hnar hfit
  have hap := va_apart (own := Y.1.cls) hts z2 (gTy ci) z3 z4 hK hq
  refine W.putK hx hb (f := f) ⟨hown, hts _ hlink, ⟨_, _, _, hi⟩, hst⟩ (by rw [q2]; exact h8) q1 q3 (by rw [hsl]; exact k2_hasslot (q4 k (by rw [← z1]; exact hkN))) rfl rfl hd fun H1 e1 e2 e3 => ?_
  rw [hsl] at e1 ⊢
  refine h p e R s m args below meth c n0 u0 H1 _ lsA C h1 h2 h3 h4 ?_ (gS.put h6 hB e2 e3) h7
  refine h5.put hB e2 e3 rfl (fun y hy hat => hat.same rfl rfl (gV_setI_o hy) (fun _ _ => rfl)) ?_
  refine Or.inl ⟨by show gK w a < 10; omega, ?_⟩
  show t_OB a ((eG g).1 (gK w a)) (gNF (gK w a)) ((eG g).2 (gK w a)) H1 (gV (setI w (64 * ci + k) a x) (gK w a) a)
  rw [hKa]
  exact t_OB.to (V := updV (gV w ci a) k (Value.int x)) ⟨_, e1, q2, q3, fun j hj => t_set (fun j hj => q4 j (by rw [← z1]; exact hj)) hap hkN _ j (by rw [z1]; exact hj)⟩ (fun j _ => gV_setI hti j)
theorem g_putR {g : GE} {d : Nat} {Y : GM} {pc : Nat} {ls : List (Nat × Value)} {st : List Value} {w : GW} {Q : Option Value → GW → Prop} {idx a : Nat} {x : Nat} (ci k cc : Nat) (hd : decode Y.2.1 pc = .ok (.putfield idx, 3)) (hf : gfl Y.1.cls idx ci k false) (hti : gTI ci k = false) (hnar : narrow (gTy ci k) (.ref x) = .ref x) (hfit : fits (gTy ci k) (.ref x) = true) (hcc : 64 * ci + k = cc) (ha : gOb g w a ci) (kk : gF g d Y (pc + 3) ls st (setR w cc a (some x)) Q) : gF g d Y pc ls (.ref x :: .ref a :: st) w Q := by
  subst hcc
  refine kk.pure2 rfl rfl fun r w' h => ?_
  intro p e R s m args below meth c n0 u0 H locs lsA C h1 h2 h3 h4 h5 h6 h7
  obtain ⟨hx, hb, hml, hown, hts, hlk, hrt, hnm, hK, hZ, hAO, hdf, hdl⟩ := id C
  obtain ⟨hB, hN, hKa⟩ := ha
  have hat := h5.2.2.1 a hB hN
  obtain ⟨qc, hq, hkN, hlink, hfin, hcl⟩ := hf
  obtain ⟨z1, z2, z3, z4, z5⟩ := g_cl hq
  obtain ⟨cell, q1, q2, q3, q4⟩ := hat.obj hKa z5
  obtain ⟨hSl, hfc, kC, hkC, hkind⟩ := hK.1 ci _ hq
  obtain ⟨cf, kf, fi, f, hi, hsl⟩ := hSl k hkN
  
  
  have hlay := hts _ (z2 _ (u_in_lay hkN))
  unfold u_lay at hlay
  rw [if_neg (by rw [hfin]; decide)] at hlay
  have hst := (u_facts hfc hkC (u_lays hts z2 hkN) hi).1
  have h8 := u_store hfc hkC hkind hlay hi (z3 k hkN) hnar hfit
  have hap := va_apart (own := Y.1.cls) hts z2 (gTy ci) z3 z4 hK hq
  refine W.putK hx hb (f := f) ⟨hown, hts _ hlink, ⟨_, _, _, hi⟩, hst⟩ (by rw [q2]; exact h8) q1 q3 (by rw [hsl]; exact k2_hasslot (q4 k (by rw [← z1]; exact hkN))) rfl rfl hd fun H1 e1 e2 e3 => ?_
  rw [hsl] at e1 ⊢
  refine h p e R s m args below meth c n0 u0 H1 _ lsA C h1 h2 h3 h4 ?_ (gS.put h6 hB e2 e3) h7
  refine h5.put hB e2 e3 rfl (fun y hy hat => hat.same rfl rfl (gV_setR_o hy) (fun _ _ => rfl)) ?_
  refine Or.inl ⟨by show gK w a < 10; omega, ?_⟩
  show t_OB a ((eG g).1 (gK w a)) (gNF (gK w a)) ((eG g).2 (gK w a)) H1 (gV (setR w (64 * ci + k) a (some x)) (gK w a) a)
  rw [hKa]
  exact t_OB.to (V := updV (gV w ci a) k (va_rf (some x))) ⟨_, e1, q2, q3, fun j hj => t_set (fun j hj => q4 j (by rw [← z1]; exact hj)) hap hkN _ j (by rw [z1]; exact hj)⟩ (fun j _ => gV_setR hti j)
theorem g_putN {g : GE} {d : Nat} {Y : GM} {pc : Nat} {ls : List (Nat × Value)} {st : List Value} {w : GW} {Q : Option Value → GW → Prop} {idx a : Nat} (ci k cc : Nat) (hd : decode Y.2.1 pc = .ok (.putfield idx, 3)) (hf : gfl Y.1.cls idx ci k false) (hti : gTI ci k = false) (hnar : narrow (gTy ci k) .null = .null) (hfit : fits (gTy ci k) .null = true) (hcc : 64 * ci + k = cc) (ha : gOb g w a ci) (kk : gF g d Y (pc + 3) ls st (setR w cc a none) Q) : gF g d Y pc ls (.null :: .ref a :: st) w Q := by
  subst hcc
  refine kk.pure2 rfl rfl fun r w' h => ?_
  intro p e R s m args below meth c n0 u0 H locs lsA C h1 h2 h3 h4 h5 h6 h7
  obtain ⟨hx, hb, hml, hown, hts, hlk, hrt, hnm, hK, hZ, hAO, hdf, hdl⟩ := id C
  obtain ⟨hB, hN, hKa⟩ := ha
  have hat := h5.2.2.1 a hB hN
  obtain ⟨qc, hq, hkN, hlink, hfin, hcl⟩ := hf
  obtain ⟨z1, z2, z3, z4, z5⟩ := g_cl hq
  obtain ⟨cell, q1, q2, q3, q4⟩ := hat.obj hKa z5
  obtain ⟨hSl, hfc, kC, hkC, hkind⟩ := hK.1 ci _ hq
  obtain ⟨cf, kf, fi, f, hi, hsl⟩ := hSl k hkN
  
  
  have hlay := hts _ (z2 _ (u_in_lay hkN))
  unfold u_lay at hlay
  rw [if_neg (by rw [hfin]; decide)] at hlay
  have hst := (u_facts hfc hkC (u_lays hts z2 hkN) hi).1
  have h8 := u_store hfc hkC hkind hlay hi (z3 k hkN) hnar hfit
  have hap := va_apart (own := Y.1.cls) hts z2 (gTy ci) z3 z4 hK hq
  refine W.putK hx hb (f := f) ⟨hown, hts _ hlink, ⟨_, _, _, hi⟩, hst⟩ (by rw [q2]; exact h8) q1 q3 (by rw [hsl]; exact k2_hasslot (q4 k (by rw [← z1]; exact hkN))) rfl rfl hd fun H1 e1 e2 e3 => ?_
  rw [hsl] at e1 ⊢
  refine h p e R s m args below meth c n0 u0 H1 _ lsA C h1 h2 h3 h4 ?_ (gS.put h6 hB e2 e3) h7
  refine h5.put hB e2 e3 rfl (fun y hy hat => hat.same rfl rfl (gV_setR_o hy) (fun _ _ => rfl)) ?_
  refine Or.inl ⟨by show gK w a < 10; omega, ?_⟩
  show t_OB a ((eG g).1 (gK w a)) (gNF (gK w a)) ((eG g).2 (gK w a)) H1 (gV (setR w (64 * ci + k) a none) (gK w a) a)
  rw [hKa]
  exact t_OB.to (V := updV (gV w ci a) k (va_rf none)) ⟨_, e1, q2, q3, fun j hj => t_set (fun j hj => q4 j (by rw [← z1]; exact hj)) hap hkN _ j (by rw [z1]; exact hj)⟩ (fun j _ => gV_setR hti j)
theorem g_putFI {g : GE} {d : Nat} {Y : GM} {pc : Nat} {ls : List (Nat × Value)} {st : List Value} {w : GW} {Q : Option Value → GW → Prop} {idx a : Nat} {x : Int32} (ci k cc : Nat) (hd : decode Y.2.1 pc = .ok (.putfield idx, 3)) (hf : gfl Y.1.cls idx ci k true) (hin : Y.1.name = "<init>") (hdecl : Y.1.cls = (vwCl.getD ci ("", TX0, 0)).1) (hti : gTI ci k = true) (hcc : 64 * ci + k = cc) (ha : gOb g w a ci) (kk : gF g d Y (pc + 3) ls st (setI w cc a x) Q) : gF g d Y pc ls (.int x :: .ref a :: st) w Q := by
  subst hcc
  refine kk.pure2 rfl rfl fun r w' h => ?_
  intro p e R s m args below meth c n0 u0 H locs lsA C h1 h2 h3 h4 h5 h6 h7
  obtain ⟨hx, hb, hml, hown, hts, hlk, hrt, hnm, hK, hZ, hAO, hdf, hdl⟩ := id C
  obtain ⟨hB, hN, hKa⟩ := ha
  have hat := h5.2.2.1 a hB hN
  obtain ⟨qc, hq, hkN, hlink, hfin, hcl⟩ := hf
  obtain ⟨z1, z2, z3, z4, z5⟩ := g_cl hq
  obtain ⟨cell, q1, q2, q3, q4⟩ := hat.obj hKa z5
  obtain ⟨hSl, hfc, kC, hkC, hkind⟩ := hK.1 ci _ hq
  obtain ⟨cf, kf, fi, f, hi, hsl⟩ := hSl k hkN
  have hnar : narrow (gTy ci k) (Value.int x) = .int x := by rw [gTI_ty hti]; rfl
  have hfit : fits (gTy ci k) (Value.int x) = true := by rw [gTI_ty hti]; rfl
  have hlay := hts _ (z2 _ (u_in_lay hkN))
  unfold u_lay at hlay
  rw [if_pos hfin] at hlay
  have hst := (u_facts hfc hkC (u_lays hts z2 hkN) hi).1
  have hcf : m.cls = cf := by
    obtain ⟨_, _, c', _, _, _, -, -, hf', -, -, -, hown2, -⟩ := Cond.laysFinal_spec hlay
    have e1 : c' = cf := by have := hi.symm.trans hf'; simp at this; exact this.1.symm
    rw [hcl] at hown2
    have hq2 : (vwCl.getD ci ("", TX0, 0)).1 = qc.1 := by rw [List.getD_eq_getElem?_getD, hq]; rfl
    rw [hdecl, hq2] at hown
    rw [← e1]; exact Option.some.inj (hown.symm.trans hown2)
  have h8 := u_fits hfc hkC hkind (Or.inr hlay) hi (z3 k hkN) hnar hfit
  have hap := va_apart (own := Y.1.cls) hts z2 (gTy ci) z3 z4 hK hq
  refine W.putFinK hx hb hown (hts _ hlink) hi hst hcf (hnm.trans hin) (by rw [q2]; exact h8) q1 q3 (by rw [hsl]; exact k2_hasslot (q4 k (by rw [← z1]; exact hkN))) rfl rfl hd fun H1 e1 e2 e3 => ?_
  rw [hsl] at e1 ⊢
  refine h p e R s m args below meth c n0 u0 H1 _ lsA C h1 h2 h3 h4 ?_ (gS.put h6 hB e2 e3) h7
  refine h5.put hB e2 e3 rfl (fun y hy hat => hat.same rfl rfl (gV_setI_o hy) (fun _ _ => rfl)) ?_
  refine Or.inl ⟨by show gK w a < 10; omega, ?_⟩
  show t_OB a ((eG g).1 (gK w a)) (gNF (gK w a)) ((eG g).2 (gK w a)) H1 (gV (setI w (64 * ci + k) a x) (gK w a) a)
  rw [hKa]
  exact t_OB.to (V := updV (gV w ci a) k (Value.int x)) ⟨_, e1, q2, q3, fun j hj => t_set (fun j hj => q4 j (by rw [← z1]; exact hj)) hap hkN _ j (by rw [z1]; exact hj)⟩ (fun j _ => gV_setI hti j)
theorem g_putFR {g : GE} {d : Nat} {Y : GM} {pc : Nat} {ls : List (Nat × Value)} {st : List Value} {w : GW} {Q : Option Value → GW → Prop} {idx a : Nat} {x : Nat} (ci k cc : Nat) (hd : decode Y.2.1 pc = .ok (.putfield idx, 3)) (hf : gfl Y.1.cls idx ci k true) (hin : Y.1.name = "<init>") (hdecl : Y.1.cls = (vwCl.getD ci ("", TX0, 0)).1) (hti : gTI ci k = false) (hnar : narrow (gTy ci k) (.ref x) = .ref x) (hfit : fits (gTy ci k) (.ref x) = true) (hcc : 64 * ci + k = cc) (ha : gOb g w a ci) (kk : gF g d Y (pc + 3) ls st (setR w cc a (some x)) Q) : gF g d Y pc ls (.ref x :: .ref a :: st) w Q := by
  subst hcc
  refine kk.pure2 rfl rfl fun r w' h => ?_
  intro p e R s m args below meth c n0 u0 H locs lsA C h1 h2 h3 h4 h5 h6 h7
  obtain ⟨hx, hb, hml, hown, hts, hlk, hrt, hnm, hK, hZ, hAO, hdf, hdl⟩ := id C
  obtain ⟨hB, hN, hKa⟩ := ha
  have hat := h5.2.2.1 a hB hN
  obtain ⟨qc, hq, hkN, hlink, hfin, hcl⟩ := hf
  obtain ⟨z1, z2, z3, z4, z5⟩ := g_cl hq
  obtain ⟨cell, q1, q2, q3, q4⟩ := hat.obj hKa z5
  obtain ⟨hSl, hfc, kC, hkC, hkind⟩ := hK.1 ci _ hq
  obtain ⟨cf, kf, fi, f, hi, hsl⟩ := hSl k hkN
  
  
  have hlay := hts _ (z2 _ (u_in_lay hkN))
  unfold u_lay at hlay
  rw [if_pos hfin] at hlay
  have hst := (u_facts hfc hkC (u_lays hts z2 hkN) hi).1
  have hcf : m.cls = cf := by
    obtain ⟨_, _, c', _, _, _, -, -, hf', -, -, -, hown2, -⟩ := Cond.laysFinal_spec hlay
    have e1 : c' = cf := by have := hi.symm.trans hf'; simp at this; exact this.1.symm
    rw [hcl] at hown2
    have hq2 : (vwCl.getD ci ("", TX0, 0)).1 = qc.1 := by rw [List.getD_eq_getElem?_getD, hq]; rfl
    rw [hdecl, hq2] at hown
    rw [← e1]; exact Option.some.inj (hown.symm.trans hown2)
  have h8 := u_fits hfc hkC hkind (Or.inr hlay) hi (z3 k hkN) hnar hfit
  have hap := va_apart (own := Y.1.cls) hts z2 (gTy ci) z3 z4 hK hq
  refine W.putFinK hx hb hown (hts _ hlink) hi hst hcf (hnm.trans hin) (by rw [q2]; exact h8) q1 q3 (by rw [hsl]; exact k2_hasslot (q4 k (by rw [← z1]; exact hkN))) rfl rfl hd fun H1 e1 e2 e3 => ?_
  rw [hsl] at e1 ⊢
  refine h p e R s m args below meth c n0 u0 H1 _ lsA C h1 h2 h3 h4 ?_ (gS.put h6 hB e2 e3) h7
  refine h5.put hB e2 e3 rfl (fun y hy hat => hat.same rfl rfl (gV_setR_o hy) (fun _ _ => rfl)) ?_
  refine Or.inl ⟨by show gK w a < 10; omega, ?_⟩
  show t_OB a ((eG g).1 (gK w a)) (gNF (gK w a)) ((eG g).2 (gK w a)) H1 (gV (setR w (64 * ci + k) a (some x)) (gK w a) a)
  rw [hKa]
  exact t_OB.to (V := updV (gV w ci a) k (va_rf (some x))) ⟨_, e1, q2, q3, fun j hj => t_set (fun j hj => q4 j (by rw [← z1]; exact hj)) hap hkN _ j (by rw [z1]; exact hj)⟩ (fun j _ => gV_setR hti j)
end
section
theorem gE_setA_o {w : GW} {c a x : Nat} {v : Int32} (h : x ≠ c) (kd j : Nat) : gE (setA w c a v) kd x j = gE w kd x j := by
  simp only [gE, gA_setA, gD_setA, gP_setA, up2, h, false_and, if_false]
theorem gE_setD_o {w : GW} {c a x : Nat} {v : UInt64} (h : x ≠ c) (kd j : Nat) : gE (setD w c a v) kd x j = gE w kd x j := by
  simp only [gE, gA_setD, gD_setD, gP_setD, up2, h, false_and, if_false]
theorem gE_setP_o {w : GW} {c a x : Nat} {v : Option Nat} (h : x ≠ c) (kd j : Nat) : gE (setP w c a v) kd x j = gE w kd x j := by
  simp only [gE, gA_setP, gD_setP, gP_setP, up2, h, false_and, if_false]
theorem gE_A {w : GW} {kd a : Nat} (h : kd = 11 ∨ kd = 12) (j : Nat) : gE w kd a j = .int (gA w a j) := by
  have h0 : ¬ kd = 10 := by omega
  simp only [gE, if_neg h0, if_pos h]
theorem gE_D {w : GW} {a : Nat} (j : Nat) : gE w 10 a j = .double (gD w a j) := rfl
theorem gE_P {w : GW} {kd a : Nat} (h : 13 ≤ kd) (j : Nat) : gE w kd a j = va_rf (gP w a j) := by
  have h0 : ¬ kd = 10 := by omega
  have h1 : ¬ (kd = 11 ∨ kd = 12) := by omega
  simp only [gE, if_neg h0, if_neg h1]
theorem gE_setA {w : GW} {kd a j : Nat} {v : Int32} (h : kd = 11 ∨ kd = 12) : updV (gE w kd a) j (.int v) = gE (setA w a j v) kd a := by
  funext q
  by_cases e : q = j
  · subst e; simp [updV, gE_A h, gA_setA, up2]
  · simp [updV, gE_A h, gA_setA, up2, e]
theorem gE_setD {w : GW} {a j : Nat} {v : UInt64} : updV (gE w 10 a) j (.double v) = gE (setD w a j v) 10 a := by
  funext q
  by_cases e : q = j
  · subst e; simp [updV, gE_D, gD_setD, up2]
  · simp [updV, gE_D, gD_setD, up2, e]
theorem gE_setP {w : GW} {kd a j : Nat} {v : Option Nat} (h : 13 ≤ kd) : updV (gE w kd a) j (va_rf v) = gE (setP w a j v) kd a := by
  funext q
  by_cases e : q = j
  · subst e; simp [updV, gE_P h, gP_setP, up2]
  · simp [updV, gE_P h, gP_setP, up2, e]
theorem g_iald {g : GE} {d : Nat} {Y : GM} {pc : Nat} {ls : List (Nat × Value)} {st : List Value} {w : GW} {Q : Option Value → GW → Prop} {a j : Nat} {i : Int32} (hd : decode Y.2.1 pc = .ok (.iaload, 1)) (ha : gOb g w a 11) (hi : i = nI j) (hj : j < gL w a) (kk : gF g d Y (pc + 1) ls (.int (gA w a j) :: st) w Q) : gF g d Y pc ls (.int i :: .ref a :: st) w Q := by
  subst hi
  refine kk.pure fun r w' h => ?_
  intro p e R s m args below meth c n0 u0 H locs lsA C h1 h2 h3 h4 h5 h6 h7
  obtain ⟨hx, hb, hml, hown, hts, hlk, hrt, hnm, hK, hZ, hAO, hdf, hdl⟩ := id C
  obtain ⟨hB, hN, hKa⟩ := ha
  obtain ⟨hL, hcell⟩ := (h5.2.2.1 a hB hN).arr hKa (by decide)
  have hin : ¬ (nI j < 0 ∨ gL w a ≤ (nI j).toNatClampNeg) := nI_in hj hL
  have hcl : (nI j).toNatClampNeg = j := nI_clamp (Nat.lt_trans hj hL)
  exact W.iald (v := .int (gA w a j)) hx hb hcell ((hK.2 1 _ rfl).1 _ _) (fun q => by cases q) (by show ¬ (nI j < 0 ∨ (arrV _ _ _).slots.size ≤ _); rw [arrV_size]; exact hin) (by show (arrV _ _ _).slots[_]? = _; rw [hcl, arrV_read _ _ hj]; rfl) rfl rfl hd (h p e R s m args below meth c n0 u0 H locs lsA C h1 h2 h3 h4 h5 h6 h7)
theorem g_zald {g : GE} {d : Nat} {Y : GM} {pc : Nat} {ls : List (Nat × Value)} {st : List Value} {w : GW} {Q : Option Value → GW → Prop} {a j : Nat} {i : Int32} (hd : decode Y.2.1 pc = .ok (.baload, 1)) (ha : gOb g w a 12) (hi : i = nI j) (hj : j < gL w a) (kk : gF g d Y (pc + 1) ls (.int (gA w a j) :: st) w Q) : gF g d Y pc ls (.int i :: .ref a :: st) w Q := by
  subst hi
  refine kk.pure fun r w' h => ?_
  intro p e R s m args below meth c n0 u0 H locs lsA C h1 h2 h3 h4 h5 h6 h7
  obtain ⟨hx, hb, hml, hown, hts, hlk, hrt, hnm, hK, hZ, hAO, hdf, hdl⟩ := id C
  obtain ⟨hB, hN, hKa⟩ := ha
  obtain ⟨hL, hcell⟩ := (h5.2.2.1 a hB hN).arr hKa (by decide)
  have hin : ¬ (nI j < 0 ∨ gL w a ≤ (nI j).toNatClampNeg) := nI_in hj hL
  have hcl : (nI j).toNatClampNeg = j := nI_clamp (Nat.lt_trans hj hL)
  exact W.zald (v := .int (gA w a j)) hx hb hcell ((hK.2 2 _ rfl).1 _ _) (fun q => by cases q) (by show ¬ (nI j < 0 ∨ (arrV _ _ _).slots.size ≤ _); rw [arrV_size]; exact hin) (by show (arrV _ _ _).slots[_]? = _; rw [hcl, arrV_read _ _ hj]; rfl) rfl rfl hd (h p e R s m args below meth c n0 u0 H locs lsA C h1 h2 h3 h4 h5 h6 h7)
theorem g_dald {g : GE} {d : Nat} {Y : GM} {pc : Nat} {ls : List (Nat × Value)} {st : List Value} {w : GW} {Q : Option Value → GW → Prop} {a j : Nat} {i : Int32} (hd : decode Y.2.1 pc = .ok (.daload, 1)) (ha : gOb g w a 10) (hi : i = nI j) (hj : j < gL w a) (kk : gF g d Y (pc + 1) ls (.double (gD w a j) :: st) w Q) : gF g d Y pc ls (.int i :: .ref a :: st) w Q := by
  subst hi
  refine kk.pure fun r w' h => ?_
  intro p e R s m args below meth c n0 u0 H locs lsA C h1 h2 h3 h4 h5 h6 h7
  obtain ⟨hx, hb, hml, hown, hts, hlk, hrt, hnm, hK, hZ, hAO, hdf, hdl⟩ := id C
  obtain ⟨hB, hN, hKa⟩ := ha
  obtain ⟨hL, hcell⟩ := (h5.2.2.1 a hB hN).arr hKa (by decide)
  have hin : ¬ (nI j < 0 ∨ gL w a ≤ (nI j).toNatClampNeg) := nI_in hj hL
  have hcl : (nI j).toNatClampNeg = j := nI_clamp (Nat.lt_trans hj hL)
  exact W.dald (v := .double (gD w a j)) hx hb hcell ((hK.2 0 _ rfl).1 _ _) (fun q => by cases q) (by show ¬ (nI j < 0 ∨ (arrV _ _ _).slots.size ≤ _); rw [arrV_size]; exact hin) (by show (arrV _ _ _).slots[_]? = _; rw [hcl, arrV_read _ _ hj]; rfl) rfl rfl hd (h p e R s m args below meth c n0 u0 H locs lsA C h1 h2 h3 h4 h5 h6 h7)
theorem g_aald13 {g : GE} {d : Nat} {Y : GM} {pc : Nat} {ls : List (Nat × Value)} {st : List Value} {w : GW} {Q : Option Value → GW → Prop} {a j q : Nat} {i : Int32} (hd : decode Y.2.1 pc = .ok (.aaload, 1)) (ha : gOb g w a 13) (hi : i = nI j) (hj : j < gL w a) (hv : gP w a j = some q) (kk : gF g d Y (pc + 1) ls (.ref q :: st) w Q) : gF g d Y pc ls (.int i :: .ref a :: st) w Q := by
  subst hi
  refine kk.pure fun r w' h => ?_
  intro p e R s m args below meth c n0 u0 H locs lsA C h1 h2 h3 h4 h5 h6 h7
  obtain ⟨hx, hb, hml, hown, hts, hlk, hrt, hnm, hK, hZ, hAO, hdf, hdl⟩ := id C
  obtain ⟨hB, hN, hKa⟩ := ha
  obtain ⟨hL, hcell⟩ := (h5.2.2.1 a hB hN).arr hKa (by decide)
  have hin : ¬ (nI j < 0 ∨ gL w a ≤ (nI j).toNatClampNeg) := nI_in hj hL
  have hcl : (nI j).toNatClampNeg = j := nI_clamp (Nat.lt_trans hj hL)
  exact W.aald (v := .ref q) (ty := .object RX5) hx hb hcell ((hK.2 3 _ rfl).1 _ _) rfl (fun q => by cases q) (by show ¬ (nI j < 0 ∨ (arrV _ _ _).slots.size ≤ _); rw [arrV_size]; exact hin) (by show (arrV _ _ _).slots[_]? = _; rw [hcl, arrV_read _ _ hj, gE_P (by decide), hv]; rfl) rfl rfl hd (h p e R s m args below meth c n0 u0 H locs lsA C h1 h2 h3 h4 h5 h6 h7)
theorem g_aald14 {g : GE} {d : Nat} {Y : GM} {pc : Nat} {ls : List (Nat × Value)} {st : List Value} {w : GW} {Q : Option Value → GW → Prop} {a j q : Nat} {i : Int32} (hd : decode Y.2.1 pc = .ok (.aaload, 1)) (ha : gOb g w a 14) (hi : i = nI j) (hj : j < gL w a) (hv : gP w a j = some q) (kk : gF g d Y (pc + 1) ls (.ref q :: st) w Q) : gF g d Y pc ls (.int i :: .ref a :: st) w Q := by
  subst hi
  refine kk.pure fun r w' h => ?_
  intro p e R s m args below meth c n0 u0 H locs lsA C h1 h2 h3 h4 h5 h6 h7
  obtain ⟨hx, hb, hml, hown, hts, hlk, hrt, hnm, hK, hZ, hAO, hdf, hdl⟩ := id C
  obtain ⟨hB, hN, hKa⟩ := ha
  obtain ⟨hL, hcell⟩ := (h5.2.2.1 a hB hN).arr hKa (by decide)
  have hin : ¬ (nI j < 0 ∨ gL w a ≤ (nI j).toNatClampNeg) := nI_in hj hL
  have hcl : (nI j).toNatClampNeg = j := nI_clamp (Nat.lt_trans hj hL)
  exact W.aald (v := .ref q) (ty := .object RX6) hx hb hcell ((hK.2 4 _ rfl).1 _ _) rfl (fun q => by cases q) (by show ¬ (nI j < 0 ∨ (arrV _ _ _).slots.size ≤ _); rw [arrV_size]; exact hin) (by show (arrV _ _ _).slots[_]? = _; rw [hcl, arrV_read _ _ hj, gE_P (by decide), hv]; rfl) rfl rfl hd (h p e R s m args below meth c n0 u0 H locs lsA C h1 h2 h3 h4 h5 h6 h7)
theorem g_aald15 {g : GE} {d : Nat} {Y : GM} {pc : Nat} {ls : List (Nat × Value)} {st : List Value} {w : GW} {Q : Option Value → GW → Prop} {a j q : Nat} {i : Int32} (hd : decode Y.2.1 pc = .ok (.aaload, 1)) (ha : gOb g w a 15) (hi : i = nI j) (hj : j < gL w a) (hv : gP w a j = some q) (kk : gF g d Y (pc + 1) ls (.ref q :: st) w Q) : gF g d Y pc ls (.int i :: .ref a :: st) w Q := by
  subst hi
  refine kk.pure fun r w' h => ?_
  intro p e R s m args below meth c n0 u0 H locs lsA C h1 h2 h3 h4 h5 h6 h7
  obtain ⟨hx, hb, hml, hown, hts, hlk, hrt, hnm, hK, hZ, hAO, hdf, hdl⟩ := id C
  obtain ⟨hB, hN, hKa⟩ := ha
  obtain ⟨hL, hcell⟩ := (h5.2.2.1 a hB hN).arr hKa (by decide)
  have hin : ¬ (nI j < 0 ∨ gL w a ≤ (nI j).toNatClampNeg) := nI_in hj hL
  have hcl : (nI j).toNatClampNeg = j := nI_clamp (Nat.lt_trans hj hL)
  exact W.aald (v := .ref q) (ty := .object RX7) hx hb hcell ((hK.2 5 _ rfl).1 _ _) rfl (fun q => by cases q) (by show ¬ (nI j < 0 ∨ (arrV _ _ _).slots.size ≤ _); rw [arrV_size]; exact hin) (by show (arrV _ _ _).slots[_]? = _; rw [hcl, arrV_read _ _ hj, gE_P (by decide), hv]; rfl) rfl rfl hd (h p e R s m args below meth c n0 u0 H locs lsA C h1 h2 h3 h4 h5 h6 h7)
theorem g_iast {g : GE} {d : Nat} {Y : GM} {pc : Nat} {ls : List (Nat × Value)} {st : List Value} {w : GW} {Q : Option Value → GW → Prop} {a j : Nat} {i : Int32} {x : Int32} (hd : decode Y.2.1 pc = .ok (.iastore, 1)) (ha : gOb g w a 11) (hi : i = nI j) (hj : j < gL w a) (kk : gF g d Y (pc + 1) ls st (setA w a j x) Q) : gF g d Y pc ls (.int x :: .int i :: .ref a :: st) w Q := by
  subst hi
  refine kk.pure2 rfl rfl fun r w' h => ?_
  intro p e R s m args below meth c n0 u0 H locs lsA C h1 h2 h3 h4 h5 h6 h7
  obtain ⟨hx, hb, hml, hown, hts, hlk, hrt, hnm, hK, hZ, hAO, hdf, hdl⟩ := id C
  obtain ⟨hB, hN, hKa⟩ := ha
  obtain ⟨hL, hcell⟩ := (h5.2.2.1 a hB hN).arr hKa (by decide)
  have hin : ¬ (nI j < 0 ∨ gL w a ≤ (nI j).toNatClampNeg) := nI_in hj hL
  have hcl : (nI j).toNatClampNeg = j := nI_clamp (Nat.lt_trans hj hL)
  refine W.iast hx hb hcell ((hK.2 1 _ rfl).1 _ _) (fun q => by cases q) (by show ¬ (nI j < 0 ∨ (arrV _ _ _).slots.size ≤ _); rw [arrV_size]; exact hin) rfl rfl hd fun H1 e9 z oq => ?_
  refine h p e R s m args below meth c n0 u0 H1 _ lsA C h1 h2 h3 h4 ?_ (gS.put h6 hB z oq) h7
  refine h5.put hB z oq rfl (fun y hy hat => hat.same rfl rfl (fun _ _ => rfl) (gE_setA_o hy)) (Or.inr ⟨by show 10 ≤ gK w a; omega, by show gK w a < 16; omega, hL, ?_⟩)
  show H1[a]? = some (arrV (eC g (gK w a)) (gL w a) (gE (setA w a j x) (gK w a) a))
  rw [e9, arrV_store, hcl, hKa, gE_setA (by decide)]
theorem g_zast {g : GE} {d : Nat} {Y : GM} {pc : Nat} {ls : List (Nat × Value)} {st : List Value} {w : GW} {Q : Option Value → GW → Prop} {a j : Nat} {i : Int32} {x : Int32} (hd : decode Y.2.1 pc = .ok (.bastore, 1)) (ha : gOb g w a 12) (hi : i = nI j) (hj : j < gL w a) (hnb : narrow .boolean (.int x) = .int x) (kk : gF g d Y (pc + 1) ls st (setA w a j x) Q) : gF g d Y pc ls (.int x :: .int i :: .ref a :: st) w Q := by
  subst hi
  refine kk.pure2 rfl rfl fun r w' h => ?_
  intro p e R s m args below meth c n0 u0 H locs lsA C h1 h2 h3 h4 h5 h6 h7
  obtain ⟨hx, hb, hml, hown, hts, hlk, hrt, hnm, hK, hZ, hAO, hdf, hdl⟩ := id C
  obtain ⟨hB, hN, hKa⟩ := ha
  obtain ⟨hL, hcell⟩ := (h5.2.2.1 a hB hN).arr hKa (by decide)
  have hin : ¬ (nI j < 0 ∨ gL w a ≤ (nI j).toNatClampNeg) := nI_in hj hL
  have hcl : (nI j).toNatClampNeg = j := nI_clamp (Nat.lt_trans hj hL)
  refine W.zast hx hb hcell ((hK.2 2 _ rfl).1 _ _) (fun q => by cases q) (by show ¬ (nI j < 0 ∨ (arrV _ _ _).slots.size ≤ _); rw [arrV_size]; exact hin) rfl rfl hd fun H1 e9 z oq => ?_
  refine h p e R s m args below meth c n0 u0 H1 _ lsA C h1 h2 h3 h4 ?_ (gS.put h6 hB z oq) h7
  refine h5.put hB z oq rfl (fun y hy hat => hat.same rfl rfl (fun _ _ => rfl) (gE_setA_o hy)) (Or.inr ⟨by show 10 ≤ gK w a; omega, by show gK w a < 16; omega, hL, ?_⟩)
  show H1[a]? = some (arrV (eC g (gK w a)) (gL w a) (gE (setA w a j x) (gK w a) a))
  rw [e9, arrV_store, hcl, hnb, hKa, gE_setA (by decide)]
theorem g_dast {g : GE} {d : Nat} {Y : GM} {pc : Nat} {ls : List (Nat × Value)} {st : List Value} {w : GW} {Q : Option Value → GW → Prop} {a j : Nat} {i : Int32} {x : UInt64} (hd : decode Y.2.1 pc = .ok (.dastore, 1)) (ha : gOb g w a 10) (hi : i = nI j) (hj : j < gL w a) (kk : gF g d Y (pc + 1) ls st (setD w a j x) Q) : gF g d Y pc ls (.double x :: .int i :: .ref a :: st) w Q := by
  subst hi
  refine kk.pure2 rfl rfl fun r w' h => ?_
  intro p e R s m args below meth c n0 u0 H locs lsA C h1 h2 h3 h4 h5 h6 h7
  obtain ⟨hx, hb, hml, hown, hts, hlk, hrt, hnm, hK, hZ, hAO, hdf, hdl⟩ := id C
  obtain ⟨hB, hN, hKa⟩ := ha
  obtain ⟨hL, hcell⟩ := (h5.2.2.1 a hB hN).arr hKa (by decide)
  have hin : ¬ (nI j < 0 ∨ gL w a ≤ (nI j).toNatClampNeg) := nI_in hj hL
  have hcl : (nI j).toNatClampNeg = j := nI_clamp (Nat.lt_trans hj hL)
  refine W.dast hx hb hcell ((hK.2 0 _ rfl).1 _ _) (fun q => by cases q) (by show ¬ (nI j < 0 ∨ (arrV _ _ _).slots.size ≤ _); rw [arrV_size]; exact hin) rfl rfl hd fun H1 e9 z oq => ?_
  refine h p e R s m args below meth c n0 u0 H1 _ lsA C h1 h2 h3 h4 ?_ (gS.put h6 hB z oq) h7
  refine h5.put hB z oq rfl (fun y hy hat => hat.same rfl rfl (fun _ _ => rfl) (gE_setD_o hy)) (Or.inr ⟨by show 10 ≤ gK w a; omega, by show gK w a < 16; omega, hL, ?_⟩)
  show H1[a]? = some (arrV (eC g (gK w a)) (gL w a) (gE (setD w a j x) (gK w a) a))
  rw [e9, arrV_store, hcl, hKa, gE_setD]
theorem g_aast13 {g : GE} {d : Nat} {Y : GM} {pc : Nat} {ls : List (Nat × Value)} {st : List Value} {w : GW} {Q : Option Value → GW → Prop} {a j v : Nat} {i : Int32} (hd : decode Y.2.1 pc = .ok (.aastore, 1)) (ha : gOb g w a 13) (hi : i = nI j) (hj : j < gL w a) (hv : gOb g w v 5) (kk : gF g d Y (pc + 1) ls st (setP w a j (some v)) Q) : gF g d Y pc ls (.ref v :: .int i :: .ref a :: st) w Q := by
  subst hi
  refine kk.pure2 rfl rfl fun r w' h => ?_
  intro p e R s m args below meth c n0 u0 H locs lsA C h1 h2 h3 h4 h5 h6 h7
  obtain ⟨hx, hb, hml, hown, hts, hlk, hrt, hnm, hK, hZ, hAO, hdf, hdl⟩ := id C
  obtain ⟨hB, hN, hKa⟩ := ha
  obtain ⟨hL, hcell⟩ := (h5.2.2.1 a hB hN).arr hKa (by decide)
  have hin : ¬ (nI j < 0 ∨ gL w a ≤ (nI j).toNatClampNeg) := nI_in hj hL
  have hcl : (nI j).toNatClampNeg = j := nI_clamp (Nat.lt_trans hj hL)
  obtain ⟨cellV, y1, y2, y3, -⟩ := (h5.2.2.1 v hv.1 hv.2.1).obj hv.2.2 (by decide)
  have hcls := (hK.1 5 _ rfl).2
  obtain ⟨kA, comp, k1, k2, k3, -⟩ := (hK.2 3 _ rfl).2
  have hcomp : comp = (eG g).1 5 := Option.some.inj (k3.symm.trans hcls.1)
  subst hcomp
  obtain ⟨kC, hkC, -⟩ := hcls.2
  refine W.aast hx hb hcell (fun q h => by cases h) (fun h => by cases h) k1 k2 rfl hkC ⟨fun q => hin (Or.inl q), by show _ < (arrV _ _ _).slots.size; rw [arrV_size, hcl]; exact hj⟩ y1 (fun q h => by rw [y3] at h; cases h) (by rw [y2]; exact hkC) (by rw [y2]; exact va_assign hcls) rfl rfl hd fun H1 e9 z oq => ?_
  refine h p e R s m args below meth c n0 u0 H1 _ lsA C h1 h2 h3 h4 ?_ (gS.put h6 hB z oq) h7
  refine h5.put hB z oq rfl (fun y hy hat => hat.same rfl rfl (fun _ _ => rfl) (gE_setP_o hy)) (Or.inr ⟨by show 10 ≤ gK w a; omega, by show gK w a < 16; omega, hL, ?_⟩)
  show H1[a]? = some (arrV (eC g (gK w a)) (gL w a) (gE (setP w a j (some v)) (gK w a) a))
  rw [e9, arrV_store, hcl, hKa, ← gE_setP (by decide)]
  rfl
theorem g_aast14 {g : GE} {d : Nat} {Y : GM} {pc : Nat} {ls : List (Nat × Value)} {st : List Value} {w : GW} {Q : Option Value → GW → Prop} {a j v : Nat} {i : Int32} (hd : decode Y.2.1 pc = .ok (.aastore, 1)) (ha : gOb g w a 14) (hi : i = nI j) (hj : j < gL w a) (hv : gOb g w v 6) (kk : gF g d Y (pc + 1) ls st (setP w a j (some v)) Q) : gF g d Y pc ls (.ref v :: .int i :: .ref a :: st) w Q := by
  subst hi
  refine kk.pure2 rfl rfl fun r w' h => ?_
  intro p e R s m args below meth c n0 u0 H locs lsA C h1 h2 h3 h4 h5 h6 h7
  obtain ⟨hx, hb, hml, hown, hts, hlk, hrt, hnm, hK, hZ, hAO, hdf, hdl⟩ := id C
  obtain ⟨hB, hN, hKa⟩ := ha
  obtain ⟨hL, hcell⟩ := (h5.2.2.1 a hB hN).arr hKa (by decide)
  have hin : ¬ (nI j < 0 ∨ gL w a ≤ (nI j).toNatClampNeg) := nI_in hj hL
  have hcl : (nI j).toNatClampNeg = j := nI_clamp (Nat.lt_trans hj hL)
  obtain ⟨cellV, y1, y2, y3, -⟩ := (h5.2.2.1 v hv.1 hv.2.1).obj hv.2.2 (by decide)
  have hcls := (hK.1 6 _ rfl).2
  obtain ⟨kA, comp, k1, k2, k3, -⟩ := (hK.2 4 _ rfl).2
  have hcomp : comp = (eG g).1 6 := Option.some.inj (k3.symm.trans hcls.1)
  subst hcomp
  obtain ⟨kC, hkC, -⟩ := hcls.2
  refine W.aast hx hb hcell (fun q h => by cases h) (fun h => by cases h) k1 k2 rfl hkC ⟨fun q => hin (Or.inl q), by show _ < (arrV _ _ _).slots.size; rw [arrV_size, hcl]; exact hj⟩ y1 (fun q h => by rw [y3] at h; cases h) (by rw [y2]; exact hkC) (by rw [y2]; exact va_assign hcls) rfl rfl hd fun H1 e9 z oq => ?_
  refine h p e R s m args below meth c n0 u0 H1 _ lsA C h1 h2 h3 h4 ?_ (gS.put h6 hB z oq) h7
  refine h5.put hB z oq rfl (fun y hy hat => hat.same rfl rfl (fun _ _ => rfl) (gE_setP_o hy)) (Or.inr ⟨by show 10 ≤ gK w a; omega, by show gK w a < 16; omega, hL, ?_⟩)
  show H1[a]? = some (arrV (eC g (gK w a)) (gL w a) (gE (setP w a j (some v)) (gK w a) a))
  rw [e9, arrV_store, hcl, hKa, ← gE_setP (by decide)]
  rfl
theorem g_aast15 {g : GE} {d : Nat} {Y : GM} {pc : Nat} {ls : List (Nat × Value)} {st : List Value} {w : GW} {Q : Option Value → GW → Prop} {a j v : Nat} {i : Int32} (hd : decode Y.2.1 pc = .ok (.aastore, 1)) (ha : gOb g w a 15) (hi : i = nI j) (hj : j < gL w a) (hv : gOb g w v 7) (kk : gF g d Y (pc + 1) ls st (setP w a j (some v)) Q) : gF g d Y pc ls (.ref v :: .int i :: .ref a :: st) w Q := by
  subst hi
  refine kk.pure2 rfl rfl fun r w' h => ?_
  intro p e R s m args below meth c n0 u0 H locs lsA C h1 h2 h3 h4 h5 h6 h7
  obtain ⟨hx, hb, hml, hown, hts, hlk, hrt, hnm, hK, hZ, hAO, hdf, hdl⟩ := id C
  obtain ⟨hB, hN, hKa⟩ := ha
  obtain ⟨hL, hcell⟩ := (h5.2.2.1 a hB hN).arr hKa (by decide)
  have hin : ¬ (nI j < 0 ∨ gL w a ≤ (nI j).toNatClampNeg) := nI_in hj hL
  have hcl : (nI j).toNatClampNeg = j := nI_clamp (Nat.lt_trans hj hL)
  obtain ⟨cellV, y1, y2, y3, -⟩ := (h5.2.2.1 v hv.1 hv.2.1).obj hv.2.2 (by decide)
  have hcls := (hK.1 7 _ rfl).2
  obtain ⟨kA, comp, k1, k2, k3, -⟩ := (hK.2 5 _ rfl).2
  have hcomp : comp = (eG g).1 7 := Option.some.inj (k3.symm.trans hcls.1)
  subst hcomp
  obtain ⟨kC, hkC, -⟩ := hcls.2
  refine W.aast hx hb hcell (fun q h => by cases h) (fun h => by cases h) k1 k2 rfl hkC ⟨fun q => hin (Or.inl q), by show _ < (arrV _ _ _).slots.size; rw [arrV_size, hcl]; exact hj⟩ y1 (fun q h => by rw [y3] at h; cases h) (by rw [y2]; exact hkC) (by rw [y2]; exact va_assign hcls) rfl rfl hd fun H1 e9 z oq => ?_
  refine h p e R s m args below meth c n0 u0 H1 _ lsA C h1 h2 h3 h4 ?_ (gS.put h6 hB z oq) h7
  refine h5.put hB z oq rfl (fun y hy hat => hat.same rfl rfl (fun _ _ => rfl) (gE_setP_o hy)) (Or.inr ⟨by show 10 ≤ gK w a; omega, by show gK w a < 16; omega, hL, ?_⟩)
  show H1[a]? = some (arrV (eC g (gK w a)) (gL w a) (gE (setP w a j (some v)) (gK w a) a))
  rw [e9, arrV_store, hcl, hKa, ← gE_setP (by decide)]
  rfl
theorem g_alen {g : GE} {d : Nat} {Y : GM} {pc : Nat} {ls : List (Nat × Value)} {st : List Value} {w : GW} {Q : Option Value → GW → Prop} {a : Nat} (kd : Nat) (hd : decode Y.2.1 pc = .ok (.arraylength, 1)) (ha : gOb g w a kd) (hk : 10 ≤ kd) (hk2 : kd < 16) (kk : gF g d Y (pc + 1) ls (.int (nI (gL w a)) :: st) w Q) : gF g d Y pc ls (.ref a :: st) w Q := by
  refine kk.pure fun r w' h => ?_
  intro p e R s m args below meth c n0 u0 H locs lsA C h1 h2 h3 h4 h5 h6 h7
  obtain ⟨hx, hb, hml, hown, hts, hlk, hrt, hnm, hK, hZ, hAO, hdf, hdl⟩ := id C
  obtain ⟨hB, hN, hKa⟩ := ha
  obtain ⟨hL, hcell⟩ := (h5.2.2.1 a hB hN).arr hKa hk
  obtain ⟨ty, hty⟩ : ∃ ty : FieldType, (gTys g)[kd - 10]? = some (eC g kd, ty) := by
    rcases (show kd = 10 ∨ kd = 11 ∨ kd = 12 ∨ kd = 13 ∨ kd = 14 ∨ kd = 15 by omega) with rfl | rfl | rfl | rfl | rfl | rfl <;> exact ⟨_, rfl⟩
  exact W.alen hx hb hcell ((hK.2 _ _ hty).1 _ _) (by show (arrV _ _ _).slots.size.toInt32 = _; rw [arrV_size]; rfl) rfl rfl hd (h p e R s m args below meth c n0 u0 H locs lsA C h1 h2 h3 h4 h5 h6 h7)
theorem g_roald {g : GE} {d : Nat} {Y : GM} {pc : Nat} {ls : List (Nat × Value)} {st : List Value} {w : GW} {Q : Option Value → GW → Prop} {n j : Nat} {i : Int32} (hd : decode Y.2.1 pc = .ok (.iaload, 1)) (hn : n < 6) (hi : i = nI j) (hj : j < eOL g n) (kk : gF g d Y (pc + 1) ls (.int (eOF g n j) :: st) w Q) : gF g d Y pc ls (.int i :: .ref (eO g n) :: st) w Q := by
  subst hi
  refine kk.pure fun r w' h => ?_
  intro p e R s m args below meth c n0 u0 H locs lsA C h1 h2 h3 h4 h5 h6 h7
  obtain ⟨hx, hb, hml, hown, hts, hlk, hrt, hnm, hK, hZ, hAO, hdf, hdl⟩ := id C
  obtain ⟨hlt, cell, y1, y2, y3, y4, y5, y6⟩ := h5.2.2.2 n hn
  have hcl : (nI j).toNatClampNeg = j := nI_clamp (Nat.lt_trans hj y5)
  exact W.iald (v := .int (eOF g n j)) hx hb y1 y2 y3 (by rw [y4]; exact nI_in hj y5) (by rw [hcl]; exact y6 j hj) rfl rfl hd (h p e R s m args below meth c n0 u0 H locs lsA C h1 h2 h3 h4 h5 h6 h7)
theorem g_rolen {g : GE} {d : Nat} {Y : GM} {pc : Nat} {ls : List (Nat × Value)} {st : List Value} {w : GW} {Q : Option Value → GW → Prop} {n : Nat} (hd : decode Y.2.1 pc = .ok (.arraylength, 1)) (hn : n < 6) (kk : gF g d Y (pc + 1) ls (.int (nI (eOL g n)) :: st) w Q) : gF g d Y pc ls (.ref (eO g n) :: st) w Q := by
  refine kk.pure fun r w' h => ?_
  intro p e R s m args below meth c n0 u0 H locs lsA C h1 h2 h3 h4 h5 h6 h7
  obtain ⟨hx, hb, hml, hown, hts, hlk, hrt, hnm, hK, hZ, hAO, hdf, hdl⟩ := id C
  obtain ⟨hlt, cell, y1, y2, y3, y4, y5, y6⟩ := h5.2.2.2 n hn
  exact W.alen hx hb y1 y2 (by rw [y4]; rfl) rfl rfl hd (h p e R s m args below meth c n0 u0 H locs lsA C h1 h2 h3 h4 h5 h6 h7)
theorem g_gets {g : GE} {d : Nat} {Y : GM} {pc : Nat} {ls : List (Nat × Value)} {st : List Value} {w : GW} {Q : Option Value → GW → Prop} {idx : Nat} (i : Nat) (hd : decode Y.2.1 pc = .ok (.getstatic idx, 3)) (hi : i < 5) (hl : Cond.fieldLink Y.1.cls idx (gzC i) (gzN i) "[I" ∈ gT) (kk : gF g d Y (pc + 3) ls (.ref (eO g i) :: st) w Q) : gF g d Y pc ls st w Q := by
  refine kk.pure fun r w' h => ?_
  intro p e R s m args below meth c n0 u0 H locs lsA C h1 h2 h3 h4 h5 h6 h7
  obtain ⟨hx, hb, hml, hown, hts, hlk, hrt, hnm, hK, hZ, hAO, hdf, hdl⟩ := id C
  exact va_gets hx hb (hZ i hi) h6 hown (hts _ hl) (fun _ h => h) hd (h p e R s m args below meth c n0 u0 H locs lsA C h1 h2 h3 h4 h5 h6 h7)
def gnw (own : String) (idx ci : Nat) : Prop := ∃ q : vw_C, vwCl[ci]? = some q ∧ Cond.classLink own idx q.1 ∈ gT ∧ Cond.instantiable q.1 q.2.2 ∈ gT ∧ Cond.initialized q.1 ∈ gT
theorem gTy_def : ∀ ci, ci < 10 → ∀ k, k < gNF ci → defaultValue (gTy ci k) = if gTI ci k = true then .int 0 else .null := by decide +kernel
theorem g_new {g : GE} {d : Nat} {Y : GM} {pc : Nat} {ls : List (Nat × Value)} {st : List Value} {w : GW} {Q : Option Value → GW → Prop} {idx : Nat} (ci N : Nat) (hd : decode Y.2.1 pc = .ok (.new idx, 3)) (hw : gnw Y.1.cls idx ci) (hN : gNF ci = N) (kk : gF g d Y (pc + 3) ls (.ref (gN w) :: st) (newO w ci N) Q) : gF g d Y pc ls st w Q := by
  subst hN
  refine kk.step (Nat.le_succ _) (Nat.le_add_right _ _) fun r w' hn hu h => ?_
  intro p e R s m args below meth c n0 u0 H locs lsA C h1 h2 h3 h4 h5 h6 h7
  obtain ⟨hx, hb, hml, hown, hts, hlk, hrt, hnm, hK, hZ, hAO, hdf, hdl⟩ := id C
  obtain ⟨qc, hq, f1, f2, f3⟩ := hw
  obtain ⟨z1, z2, z3, z4, z5⟩ := g_cl hq
  have hKn := hK.1 ci _ hq
  have hn' : gN w + 1 ≤ gN w' := hn
  have hu' : gU w + gNF ci ≤ gU w' := hu
  refine W.newcK (n := qc.2.2) hx hb hown (hts _ f1) (hts _ f2) (hts _ f3) rfl hd (by omega) (by omega) hKn.2.1 h5.1 fun H1 kC hkC e1 y1 o1 => ?_
  have e5 : gN w - n0 + 1 = gN (newO w ci (gNF ci)) - n0 := by show _ = gN w + 1 - n0; omega
  have e6 : gU w - u0 + qc.2.2 = gU (newO w ci (gNF ci)) - u0 := by show _ = gU w + gNF ci - u0; omega
  rw [e5, e6]
  refine h p e R s m args below meth c n0 u0 H1 _ lsA C (by show n0 ≤ gN w + 1; omega) (by show u0 ≤ gU w + gNF ci; omega) h3 h4 ?_ (gS.push h6 (by rw [y1, h5.1]) (by rw [h5.1]; exact o1)) h7
  refine h5.push (by rw [y1, h5.1]) (by rw [h5.1]; exact o1) rfl (fun x hx2 hat => ?_) (Or.inl ⟨?_, ?_⟩)
  · have hne : x ≠ gN w := Nat.ne_of_lt hx2
    refine hat.same (by simp only [gK_newO, va_up, if_neg hne]) rfl (fun c2 k2 => ?_) (fun _ _ => rfl)
    simp only [gV, gI_newO, gR_newO, nul2, if_neg hne]
  · rw [gK_newO, va_up_self]; exact z5
  · rw [gK_newO, va_up_self, ← z1]
    refine t_OB.to (u_born (gTy ci) hts z2 hKn hkC e1 z3) (fun j hj => ?_)
    rw [gTy_def ci z5 j (by rw [← z1]; exact hj)]
    by_cases e : gTI ci j = true
    · simp [gV, e, gI_newO, nul2]
    · simp [gV, e, gR_newO, nul2, va_rf]
def gKd (a : ArrayType) : Nat := match a with | .double => 10 | .int => 11 | _ => 12
theorem g_newD {g : GE} {d : Nat} {Y : GM} {pc : Nat} {ls : List (Nat × Value)} {st : List Value} {w : GW} {Q : Option Value → GW → Prop} {i : Int32} (L : Nat) (hd : decode Y.2.1 pc = .ok (.newarray .double, 2)) (hw : Cond.arrayClass .double ∈ gT) (hi : i = nI L) (hL : L ≤ 1000000) (kk : gF g d Y (pc + 2) ls (.ref (gN w) :: st) (newA w 10 L) Q) : gF g d Y pc ls (.int i :: st) w Q := by
  subst hi
  refine kk.step (Nat.le_succ _) (Nat.le_add_right _ _) fun r w' hn hu h => ?_
  intro p e R s m args below meth c n0 u0 H locs lsA C h1 h2 h3 h4 h5 h6 h7
  obtain ⟨hx, hb, hml, hown, hts, hlk, hrt, hnm, hK, hZ, hAO, hdf, hdl⟩ := id C
  have hn' : gN w + 1 ≤ gN w' := hn
  have hu' : gU w + L ≤ gU w' := hu
  refine va_newaK (atype := .double) hx hb (hts _ hw) rfl hd rfl (nI_pos (by omega)) (nI_clamp (by omega)) (Nat.le_trans (Nat.mul_le_mul_right _ hL) (by decide)) (by omega) (by omega) h5.1 fun H1 cA e1 y1 o1 hAr hNm => ?_
  have hcA : cA = eC g 10 := Option.some.inj (hNm.symm.trans (hK.2 0 _ rfl).2)
  subst hcA
  have e5 : gN w - n0 + 1 = gN (newA w 10 L) - n0 := by show _ = gN w + 1 - n0; omega
  have e6 : gU w - u0 + L = gU (newA w 10 L) - u0 := by show _ = gU w + L - u0; omega
  rw [e5, e6]
  refine h p e R s m args below meth c n0 u0 H1 _ lsA C (by show n0 ≤ gN w + 1; omega) (by show u0 ≤ gU w + L; omega) h3 h4 ?_ (gS.push h6 (by rw [y1, h5.1]) (by rw [h5.1]; exact o1)) h7
  refine h5.push (by rw [y1, h5.1]) (by rw [h5.1]; exact o1) rfl (fun x hx2 hat => ?_) (Or.inr ⟨?_, ?_, ?_, ?_⟩)
  · have hne : x ≠ gN w := Nat.ne_of_lt hx2
    refine hat.same (by simp only [gK_newA, va_up, if_neg hne]) (by simp only [gL_newA, va_up, if_neg hne]) (fun _ _ => rfl) (fun c2 k2 => ?_)
    simp only [gE, gA_newA, gD_newA, gP_newA, nul1, if_neg hne]
  · rw [gK_newA, va_up_self]; decide
  · rw [gK_newA, va_up_self]; decide
  · rw [gL_newA, va_up_self]; omega
  · rw [gK_newA, va_up_self, gL_newA, va_up_self, e1]
    congr 2
    funext j
    simp [gE, gA_newA, gD_newA, gP_newA, nul1, newarray.typeOf, defaultValue]
theorem g_newI {g : GE} {d : Nat} {Y : GM} {pc : Nat} {ls : List (Nat × Value)} {st : List Value} {w : GW} {Q : Option Value → GW → Prop} {i : Int32} (L : Nat) (hd : decode Y.2.1 pc = .ok (.newarray .int, 2)) (hw : Cond.arrayClass .int ∈ gT) (hi : i = nI L) (hL : L ≤ 1000000) (kk : gF g d Y (pc + 2) ls (.ref (gN w) :: st) (newA w 11 L) Q) : gF g d Y pc ls (.int i :: st) w Q := by
  subst hi
  refine kk.step (Nat.le_succ _) (Nat.le_add_right _ _) fun r w' hn hu h => ?_
  intro p e R s m args below meth c n0 u0 H locs lsA C h1 h2 h3 h4 h5 h6 h7
  obtain ⟨hx, hb, hml, hown, hts, hlk, hrt, hnm, hK, hZ, hAO, hdf, hdl⟩ := id C
  have hn' : gN w + 1 ≤ gN w' := hn
  have hu' : gU w + L ≤ gU w' := hu
  refine va_newaK (atype := .int) hx hb (hts _ hw) rfl hd rfl (nI_pos (by omega)) (nI_clamp (by omega)) (Nat.le_trans (Nat.mul_le_mul_right _ hL) (by decide)) (by omega) (by omega) h5.1 fun H1 cA e1 y1 o1 hAr hNm => ?_
  have hcA : cA = eC g 11 := Option.some.inj (hNm.symm.trans (hK.2 1 _ rfl).2)
  subst hcA
  have e5 : gN w - n0 + 1 = gN (newA w 11 L) - n0 := by show _ = gN w + 1 - n0; omega
  have e6 : gU w - u0 + L = gU (newA w 11 L) - u0 := by show _ = gU w + L - u0; omega
  rw [e5, e6]
  refine h p e R s m args below meth c n0 u0 H1 _ lsA C (by show n0 ≤ gN w + 1; omega) (by show u0 ≤ gU w + L; omega) h3 h4 ?_ (gS.push h6 (by rw [y1, h5.1]) (by rw [h5.1]; exact o1)) h7
  refine h5.push (by rw [y1, h5.1]) (by rw [h5.1]; exact o1) rfl (fun x hx2 hat => ?_) (Or.inr ⟨?_, ?_, ?_, ?_⟩)
  · have hne : x ≠ gN w := Nat.ne_of_lt hx2
    refine hat.same (by simp only [gK_newA, va_up, if_neg hne]) (by simp only [gL_newA, va_up, if_neg hne]) (fun _ _ => rfl) (fun c2 k2 => ?_)
    simp only [gE, gA_newA, gD_newA, gP_newA, nul1, if_neg hne]
  · rw [gK_newA, va_up_self]; decide
  · rw [gK_newA, va_up_self]; decide
  · rw [gL_newA, va_up_self]; omega
  · rw [gK_newA, va_up_self, gL_newA, va_up_self, e1]
    congr 2
    funext j
    simp [gE, gA_newA, gD_newA, gP_newA, nul1, newarray.typeOf, defaultValue]
theorem g_newZ {g : GE} {d : Nat} {Y : GM} {pc : Nat} {ls : List (Nat × Value)} {st : List Value} {w : GW} {Q : Option Value → GW → Prop} {i : Int32} (L : Nat) (hd : decode Y.2.1 pc = .ok (.newarray .boolean, 2)) (hw : Cond.arrayClass .boolean ∈ gT) (hi : i = nI L) (hL : L ≤ 1000000) (kk : gF g d Y (pc + 2) ls (.ref (gN w) :: st) (newA w 12 L) Q) : gF g d Y pc ls (.int i :: st) w Q := by
  subst hi
  refine kk.step (Nat.le_succ _) (Nat.le_add_right _ _) fun r w' hn hu h => ?_
  intro p e R s m args below meth c n0 u0 H locs lsA C h1 h2 h3 h4 h5 h6 h7
  obtain ⟨hx, hb, hml, hown, hts, hlk, hrt, hnm, hK, hZ, hAO, hdf, hdl⟩ := id C
  have hn' : gN w + 1 ≤ gN w' := hn
  have hu' : gU w + L ≤ gU w' := hu
  refine va_newaK (atype := .boolean) hx hb (hts _ hw) rfl hd rfl (nI_pos (by omega)) (nI_clamp (by omega)) (Nat.le_trans (Nat.mul_le_mul_right _ hL) (by decide)) (by omega) (by omega) h5.1 fun H1 cA e1 y1 o1 hAr hNm => ?_
  have hcA : cA = eC g 12 := Option.some.inj (hNm.symm.trans (hK.2 2 _ rfl).2)
  subst hcA
  have e5 : gN w - n0 + 1 = gN (newA w 12 L) - n0 := by show _ = gN w + 1 - n0; omega
  have e6 : gU w - u0 + L = gU (newA w 12 L) - u0 := by show _ = gU w + L - u0; omega
  rw [e5, e6]
  refine h p e R s m args below meth c n0 u0 H1 _ lsA C (by show n0 ≤ gN w + 1; omega) (by show u0 ≤ gU w + L; omega) h3 h4 ?_ (gS.push h6 (by rw [y1, h5.1]) (by rw [h5.1]; exact o1)) h7
  refine h5.push (by rw [y1, h5.1]) (by rw [h5.1]; exact o1) rfl (fun x hx2 hat => ?_) (Or.inr ⟨?_, ?_, ?_, ?_⟩)
  · have hne : x ≠ gN w := Nat.ne_of_lt hx2
    refine hat.same (by simp only [gK_newA, va_up, if_neg hne]) (by simp only [gL_newA, va_up, if_neg hne]) (fun _ _ => rfl) (fun c2 k2 => ?_)
    simp only [gE, gA_newA, gD_newA, gP_newA, nul1, if_neg hne]
  · rw [gK_newA, va_up_self]; decide
  · rw [gK_newA, va_up_self]; decide
  · rw [gL_newA, va_up_self]; omega
  · rw [gK_newA, va_up_self, gL_newA, va_up_self, e1]
    congr 2
    funext j
    simp [gE, gA_newA, gD_newA, gP_newA, nul1, newarray.typeOf, defaultValue]
theorem g_anew13 {g : GE} {d : Nat} {Y : GM} {pc : Nat} {ls : List (Nat × Value)} {st : List Value} {w : GW} {Q : Option Value → GW → Prop} {idx : Nat} {i : Int32} (L : Nat) (hd : decode Y.2.1 pc = .ok (.anewarray idx, 3)) (hw : Cond.classLink Y.1.cls idx RX5 ∈ gT) (hi : i = nI L) (hL : L ≤ 1000000) (kk : gF g d Y (pc + 3) ls (.ref (gN w) :: st) (newA w 13 L) Q) : gF g d Y pc ls (.int i :: st) w Q := by
  subst hi
  refine kk.step (Nat.le_succ _) (Nat.le_add_right _ _) fun r w' hn hu h => ?_
  intro p e R s m args below meth c n0 u0 H locs lsA C h1 h2 h3 h4 h5 h6 h7
  obtain ⟨hx, hb, hml, hown, hts, hlk, hrt, hnm, hK, hZ, hAO, hdf, hdl⟩ := id C
  have hn' : gN w + 1 ≤ gN w' := hn
  have hu' : gU w + L ≤ gU w' := hu
  have hcl : (nI L).toNatClampNeg = L := nI_clamp (by omega)
  have hover : va_AO RX5 s := hAO.1
  refine W.anew hx hb hown (hts _ hw) (va_AO.use hover) rfl hd rfl (nI_pos (by omega)) (by rw [hcl]; exact Nat.le_trans (Nat.mul_le_mul_right _ hL) (by decide)) (by omega) (by rw [hcl]; omega) fun cA kA comp f1 f2 f3 f4 => ?_
  rw [hcl]
  have hcA : cA = eC g 13 := by
    obtain ⟨_, _, -, -, -, y⟩ := (hK.2 3 _ rfl).2
    exact Option.some.inj (f1.symm.trans y)
  subst hcA
  generalize hH1 : H.push ({ cls := eC g 13, slots := Array.replicate L .null, vm := .none } : Cell) = H1
  have y1 : H1.size = H.size + 1 := by rw [← hH1, Array.size_push]
  have e1 : H1[H.size]? = some (arrV (eC g 13) L (fun _ => .null)) := by rw [← hH1, Array.getElem?_push_size, ← arrV_new]
  have o1 : ∀ q : Nat, q < H.size → H1[q]? = H[q]? := fun q hq => by rw [← hH1, Array.getElem?_push, if_neg (Nat.ne_of_lt hq)]
  rw [h5.1]
  rw [h5.1] at e1
  have e5 : gN w - n0 + 1 = gN (newA w 13 L) - n0 := by show _ = gN w + 1 - n0; omega
  have e6 : gU w - u0 + L = gU (newA w 13 L) - u0 := by show _ = gU w + L - u0; omega
  rw [e5, e6]
  refine h p e R s m args below meth c n0 u0 H1 _ lsA C (by show n0 ≤ gN w + 1; omega) (by show u0 ≤ gU w + L; omega) h3 h4 ?_ (gS.push h6 y1 o1) h7
  refine h5.push y1 o1 rfl (fun x hx2 hat => ?_) (Or.inr ⟨?_, ?_, ?_, ?_⟩)
  · have hne : x ≠ gN w := Nat.ne_of_lt hx2
    refine hat.same (by simp only [gK_newA, va_up, if_neg hne]) (by simp only [gL_newA, va_up, if_neg hne]) (fun _ _ => rfl) (fun c2 k2 => ?_)
    simp only [gE, gA_newA, gD_newA, gP_newA, nul1, if_neg hne]
  · rw [gK_newA, va_up_self]; decide
  · rw [gK_newA, va_up_self]; decide
  · rw [gL_newA, va_up_self]; omega
  · rw [gK_newA, va_up_self, gL_newA, va_up_self, e1]
    congr 2
    funext j
    simp [gE, gP_newA, nul1, va_rf]
theorem g_anew14 {g : GE} {d : Nat} {Y : GM} {pc : Nat} {ls : List (Nat × Value)} {st : List Value} {w : GW} {Q : Option Value → GW → Prop} {idx : Nat} {i : Int32} (L : Nat) (hd : decode Y.2.1 pc = .ok (.anewarray idx, 3)) (hw : Cond.classLink Y.1.cls idx RX6 ∈ gT) (hi : i = nI L) (hL : L ≤ 1000000) (kk : gF g d Y (pc + 3) ls (.ref (gN w) :: st) (newA w 14 L) Q) : gF g d Y pc ls (.int i :: st) w Q := by
  subst hi
  refine kk.step (Nat.le_succ _) (Nat.le_add_right _ _) fun r w' hn hu h => ?_
  intro p e R s m args below meth c n0 u0 H locs lsA C h1 h2 h3 h4 h5 h6 h7
  obtain ⟨hx, hb, hml, hown, hts, hlk, hrt, hnm, hK, hZ, hAO, hdf, hdl⟩ := id C
  have hn' : gN w + 1 ≤ gN w' := hn
  have hu' : gU w + L ≤ gU w' := hu
  have hcl : (nI L).toNatClampNeg = L := nI_clamp (by omega)
  have hover : va_AO RX6 s := hAO.2.1
  refine W.anew hx hb hown (hts _ hw) (va_AO.use hover) rfl hd rfl (nI_pos (by omega)) (by rw [hcl]; exact Nat.le_trans (Nat.mul_le_mul_right _ hL) (by decide)) (by omega) (by rw [hcl]; omega) fun cA kA comp f1 f2 f3 f4 => ?_
  rw [hcl]
  have hcA : cA = eC g 14 := by
    obtain ⟨_, _, -, -, -, y⟩ := (hK.2 4 _ rfl).2
    exact Option.some.inj (f1.symm.trans y)
  subst hcA
  generalize hH1 : H.push ({ cls := eC g 14, slots := Array.replicate L .null, vm := .none } : Cell) = H1
  have y1 : H1.size = H.size + 1 := by rw [← hH1, Array.size_push]
  have e1 : H1[H.size]? = some (arrV (eC g 14) L (fun _ => .null)) := by rw [← hH1, Array.getElem?_push_size, ← arrV_new]
  have o1 : ∀ q : Nat, q < H.size → H1[q]? = H[q]? := fun q hq => by rw [← hH1, Array.getElem?_push, if_neg (Nat.ne_of_lt hq)]
  rw [h5.1]
  rw [h5.1] at e1
  have e5 : gN w - n0 + 1 = gN (newA w 14 L) - n0 := by show _ = gN w + 1 - n0; omega
  have e6 : gU w - u0 + L = gU (newA w 14 L) - u0 := by show _ = gU w + L - u0; omega
  rw [e5, e6]
  refine h p e R s m args below meth c n0 u0 H1 _ lsA C (by show n0 ≤ gN w + 1; omega) (by show u0 ≤ gU w + L; omega) h3 h4 ?_ (gS.push h6 y1 o1) h7
  refine h5.push y1 o1 rfl (fun x hx2 hat => ?_) (Or.inr ⟨?_, ?_, ?_, ?_⟩)
  · have hne : x ≠ gN w := Nat.ne_of_lt hx2
    refine hat.same (by simp only [gK_newA, va_up, if_neg hne]) (by simp only [gL_newA, va_up, if_neg hne]) (fun _ _ => rfl) (fun c2 k2 => ?_)
    simp only [gE, gA_newA, gD_newA, gP_newA, nul1, if_neg hne]
  · rw [gK_newA, va_up_self]; decide
  · rw [gK_newA, va_up_self]; decide
  · rw [gL_newA, va_up_self]; omega
  · rw [gK_newA, va_up_self, gL_newA, va_up_self, e1]
    congr 2
    funext j
    simp [gE, gP_newA, nul1, va_rf]
theorem g_anew15 {g : GE} {d : Nat} {Y : GM} {pc : Nat} {ls : List (Nat × Value)} {st : List Value} {w : GW} {Q : Option Value → GW → Prop} {idx : Nat} {i : Int32} (L : Nat) (hd : decode Y.2.1 pc = .ok (.anewarray idx, 3)) (hw : Cond.classLink Y.1.cls idx RX7 ∈ gT) (hi : i = nI L) (hL : L ≤ 1000000) (kk : gF g d Y (pc + 3) ls (.ref (gN w) :: st) (newA w 15 L) Q) : gF g d Y pc ls (.int i :: st) w Q := by
  subst hi
  refine kk.step (Nat.le_succ _) (Nat.le_add_right _ _) fun r w' hn hu h => ?_
  intro p e R s m args below meth c n0 u0 H locs lsA C h1 h2 h3 h4 h5 h6 h7
  obtain ⟨hx, hb, hml, hown, hts, hlk, hrt, hnm, hK, hZ, hAO, hdf, hdl⟩ := id C
  have hn' : gN w + 1 ≤ gN w' := hn
  have hu' : gU w + L ≤ gU w' := hu
  have hcl : (nI L).toNatClampNeg = L := nI_clamp (by omega)
  have hover : va_AO RX7 s := hAO.2.2
  refine W.anew hx hb hown (hts _ hw) (va_AO.use hover) rfl hd rfl (nI_pos (by omega)) (by rw [hcl]; exact Nat.le_trans (Nat.mul_le_mul_right _ hL) (by decide)) (by omega) (by rw [hcl]; omega) fun cA kA comp f1 f2 f3 f4 => ?_
  rw [hcl]
  have hcA : cA = eC g 15 := by
    obtain ⟨_, _, -, -, -, y⟩ := (hK.2 5 _ rfl).2
    exact Option.some.inj (f1.symm.trans y)
  subst hcA
  generalize hH1 : H.push ({ cls := eC g 15, slots := Array.replicate L .null, vm := .none } : Cell) = H1
  have y1 : H1.size = H.size + 1 := by rw [← hH1, Array.size_push]
  have e1 : H1[H.size]? = some (arrV (eC g 15) L (fun _ => .null)) := by rw [← hH1, Array.getElem?_push_size, ← arrV_new]
  have o1 : ∀ q : Nat, q < H.size → H1[q]? = H[q]? := fun q hq => by rw [← hH1, Array.getElem?_push, if_neg (Nat.ne_of_lt hq)]
  rw [h5.1]
  rw [h5.1] at e1
  have e5 : gN w - n0 + 1 = gN (newA w 15 L) - n0 := by show _ = gN w + 1 - n0; omega
  have e6 : gU w - u0 + L = gU (newA w 15 L) - u0 := by show _ = gU w + L - u0; omega
  rw [e5, e6]
  refine h p e R s m args below meth c n0 u0 H1 _ lsA C (by show n0 ≤ gN w + 1; omega) (by show u0 ≤ gU w + L; omega) h3 h4 ?_ (gS.push h6 y1 o1) h7
  refine h5.push y1 o1 rfl (fun x hx2 hat => ?_) (Or.inr ⟨?_, ?_, ?_, ?_⟩)
  · have hne : x ≠ gN w := Nat.ne_of_lt hx2
    refine hat.same (by simp only [gK_newA, va_up, if_neg hne]) (by simp only [gL_newA, va_up, if_neg hne]) (fun _ _ => rfl) (fun c2 k2 => ?_)
    simp only [gE, gA_newA, gD_newA, gP_newA, nul1, if_neg hne]
  · rw [gK_newA, va_up_self]; decide
  · rw [gK_newA, va_up_self]; decide
  · rw [gL_newA, va_up_self]; omega
  · rw [gK_newA, va_up_self, gL_newA, va_up_self, e1]
    congr 2
    funext j
    simp [gE, gP_newA, nul1, va_rf]
theorem g_iret {g : GE} {d : Nat} {Y : GM} {pc : Nat} {ls : List (Nat × Value)} {w : GW} {Q : Option Value → GW → Prop} {x : Int32} (hd : decode Y.2.1 pc = .ok (.ireturn, 1)) (hr : Y.2.2.2 = some .int) (hq : Q (some (.int x)) w) : gF g d Y pc ls [.int x] w Q := by
  refine ⟨_, _, hq, Nat.le_refl _, Nat.le_refl _, ?_⟩
  intro p e R s m args below meth c n0 u0 H locs lsA C h1 h2 h3 h4 h5 h6 h7
  obtain ⟨hx, hb, hml, hown, hts, hlk, hrt, hnm, hK, hZ, hAO, hdf, hdl⟩ := id C
  exact W.iret hx hb (hrt.trans hr) (fun t ht hW => ⟨rfl, by rw [ht]; exact h5.moved hW.alike, h6.F ht⟩) h6.2.2 hd hlk
theorem g_zret {g : GE} {d : Nat} {Y : GM} {pc : Nat} {ls : List (Nat × Value)} {w : GW} {Q : Option Value → GW → Prop} {x : Int32} (hd : decode Y.2.1 pc = .ok (.ireturn, 1)) (hr : Y.2.2.2 = some .boolean) (hnb : narrow .boolean (.int x) = .int x) (hq : Q (some (.int x)) w) : gF g d Y pc ls [.int x] w Q := by
  refine ⟨_, _, hq, Nat.le_refl _, Nat.le_refl _, ?_⟩
  intro p e R s m args below meth c n0 u0 H locs lsA C h1 h2 h3 h4 h5 h6 h7
  obtain ⟨hx, hb, hml, hown, hts, hlk, hrt, hnm, hK, hZ, hAO, hdf, hdl⟩ := id C
  exact W.zret hx hb (hrt.trans hr) hnb (fun t ht hW => ⟨rfl, by rw [ht]; exact h5.moved hW.alike, h6.F ht⟩) h6.2.2 hd hlk
theorem g_lret {g : GE} {d : Nat} {Y : GM} {pc : Nat} {ls : List (Nat × Value)} {w : GW} {Q : Option Value → GW → Prop} {x : Int64} (hd : decode Y.2.1 pc = .ok (.lreturn, 1)) (hr : Y.2.2.2 = some .long) (hq : Q (some (.long x)) w) : gF g d Y pc ls [.long x] w Q := by
  refine ⟨_, _, hq, Nat.le_refl _, Nat.le_refl _, ?_⟩
  intro p e R s m args below meth c n0 u0 H locs lsA C h1 h2 h3 h4 h5 h6 h7
  obtain ⟨hx, hb, hml, hown, hts, hlk, hrt, hnm, hK, hZ, hAO, hdf, hdl⟩ := id C
  exact W.lret hx hb (hrt.trans hr) (fun t ht hW => ⟨rfl, by rw [ht]; exact h5.moved hW.alike, h6.F ht⟩) h6.2.2 hd hlk
theorem g_dret {g : GE} {d : Nat} {Y : GM} {pc : Nat} {ls : List (Nat × Value)} {w : GW} {Q : Option Value → GW → Prop} {x : UInt64} (hd : decode Y.2.1 pc = .ok (.dreturn, 1)) (hr : Y.2.2.2 = some .double) (hq : Q (some (.double x)) w) : gF g d Y pc ls [.double x] w Q := by
  refine ⟨_, _, hq, Nat.le_refl _, Nat.le_refl _, ?_⟩
  intro p e R s m args below meth c n0 u0 H locs lsA C h1 h2 h3 h4 h5 h6 h7
  obtain ⟨hx, hb, hml, hown, hts, hlk, hrt, hnm, hK, hZ, hAO, hdf, hdl⟩ := id C
  exact W.dret hx hb (hrt.trans hr) (fun t ht hW => ⟨rfl, by rw [ht]; exact h5.moved hW.alike, h6.F ht⟩) h6.2.2 hd hlk
theorem g_vret {g : GE} {d : Nat} {Y : GM} {pc : Nat} {ls : List (Nat × Value)} {w : GW} {Q : Option Value → GW → Prop} (hd : decode Y.2.1 pc = .ok (.return_, 1)) (hr : Y.2.2.2 = none) (hq : Q (none) w) : gF g d Y pc ls [] w Q := by
  refine ⟨_, _, hq, Nat.le_refl _, Nat.le_refl _, ?_⟩
  intro p e R s m args below meth c n0 u0 H locs lsA C h1 h2 h3 h4 h5 h6 h7
  obtain ⟨hx, hb, hml, hown, hts, hlk, hrt, hnm, hK, hZ, hAO, hdf, hdl⟩ := id C
  exact W.vret hx hb (hrt.trans hr) (fun t ht hW => ⟨rfl, by rw [ht]; exact h5.moved hW.alike, h6.F ht⟩) h6.2.2 hd hlk
theorem g_aret {g : GE} {d : Nat} {Y : GM} {pc : Nat} {ls : List (Nat × Value)} {w : GW} {Q : Option Value → GW → Prop} {x : Nat} (hd : decode Y.2.1 pc = .ok (.areturn, 1)) {n : String} (hr : Y.2.2.2 = some (.object n)) (hq : Q (some (.ref x)) w) : gF g d Y pc ls [.ref x] w Q := by
  refine ⟨_, _, hq, Nat.le_refl _, Nat.le_refl _, ?_⟩
  intro p e R s m args below meth c n0 u0 H locs lsA C h1 h2 h3 h4 h5 h6 h7
  obtain ⟨hx, hb, hml, hown, hts, hlk, hrt, hnm, hK, hZ, hAO, hdf, hdl⟩ := id C
  exact W.aret hx hb (hrt.trans hr) (Or.inl ⟨_, rfl⟩) (Or.inr ⟨_, rfl⟩) (fun t ht hW => ⟨rfl, by rw [ht]; exact h5.moved hW.alike, h6.F ht⟩) h6.2.2 hd hlk
theorem g_aretN {g : GE} {d : Nat} {Y : GM} {pc : Nat} {ls : List (Nat × Value)} {w : GW} {Q : Option Value → GW → Prop} (hd : decode Y.2.1 pc = .ok (.areturn, 1)) {n : String} (hr : Y.2.2.2 = some (.object n)) (hq : Q (some .null) w) : gF g d Y pc ls [.null] w Q := by
  refine ⟨_, _, hq, Nat.le_refl _, Nat.le_refl _, ?_⟩
  intro p e R s m args below meth c n0 u0 H locs lsA C h1 h2 h3 h4 h5 h6 h7
  obtain ⟨hx, hb, hml, hown, hts, hlk, hrt, hnm, hK, hZ, hAO, hdf, hdl⟩ := id C
  exact W.aret hx hb (hrt.trans hr) (Or.inl ⟨_, rfl⟩) (Or.inl rfl) (fun t ht hW => ⟨rfl, by rw [ht]; exact h5.moved hW.alike, h6.F ht⟩) h6.2.2 hd hlk
end
section
theorem gZs.moved {g : GE} {u U : State} {H : Heap} (hvm : u.vm.Alike U.vm) (h : gZs g u H) : gZs g U H := fun i hi => (h i hi).moved hvm
theorem gZs.kept {g : GE} {U : State} {H H1 : Heap} (h : gZs g U H) (hq : ∀ a : Nat, a < H.size → ¬ gFr g a → H1[a]? = H[a]?) : gZs g U H1 := fun i hi => (h i hi).kept hq
theorem gAOs.moved {u U : State} (hvm : u.vm.Alike U.vm) (h : gAOs u) : gAOs U := ⟨h.1.moved hvm, h.2.1.moved hvm, h.2.2.moved hvm⟩
theorem gPre.moved {g : GE} {w : GW} {u U : State} (hvm : u.vm.Alike U.vm) (hh : U.heap = u.heap) (h : gPre g w u) : gPre g w U := by
  obtain ⟨a1, a2, a3, a4⟩ := h
  unfold gPre
  rw [hh]
  exact ⟨a1.moved hvm, va_K.moved hvm a2, a3.moved hvm, a4.moved hvm⟩
theorem gBlind (g : GE) (w : GW) (as : List Value) : FrameBlind (va_Pc as (gPre g w)) := by
  intro a U gg mk h
  obtain ⟨h1, h2⟩ := h
  exact ⟨h1, gPre.moved (u := U) (U := U.calling gg mk a) (Vm.Alike.refl U.vm) rfl h2⟩
/-- what a frame knows, said of a state that its callee starts in -/
theorem gPre.of {g : GE} {w : GW} {s U : State} {H : Heap} {locs : List Loc} (h5 : gSt g w s H) (h6 : va_S (gFr g) s.heap H locs) (hK : va_K (eG g) vwCl (gTys g) s) (hZ : gZs g s s.heap) (hAO : gAOs s) (hU : U.heap = H) (hW : s.WarmedH U.vm) : gPre g w U := by
  unfold gPre
  rw [hU]
  exact ⟨h5.moved hW.alike, va_K.moved hW.alike hK, (hZ.kept (fun a h1 h2 => h6.2.1 a h1 h2)).moved hW.alike, hAO.moved hW.alike⟩
/-- behind a call -/
theorem g_run {p : Program} {l : Launch} {e : Env} {R : Room} {s : State} {m : MethodId} {args : Array Value} {below : List Frame} {meth : Method} {c : Code} {H : Heap} {locs : List Loc} {cells slots mc ms pc : Nat} {Q : State → Prop} {lsA : Array Slot} {rest st0 : List Value} {aa : Array Value} {g : GE} {r : Option Value} {w1 : GW}
    (hr : va_Run p l e R s m args below meth c H locs cells slots mc ms (F0 m pc lsA st0) rest (gPost g r w1 aa) (gFr g)) (hS : va_S (gFr g) s.heap H locs)
    (kk : ∀ (H1 : Heap) (locs1 : List Loc), gSt g w1 s H1 → va_S (gFr g) s.heap H1 locs1 → W p l e R s m args below meth c H1 locs1 (cells + mc) (slots + ms) Q (F0 m (pc + 3) lsA (r.toList ++ rest))) : W p l e R s m args below meth c H locs cells slots Q (F0 m pc lsA st0) := by
  intro T hT X
  obtain ⟨v, st₀, t, T', L, h0, X', hL, e1, e2, ⟨hv, hst, hz, hk⟩, stp⟩ := hr T hT X
  cases hv
  rw [h0] at hz hk
  have hal : s.vm.Alike t.vm := by rw [← e2]; exact X'.warmed.alike
  obtain ⟨t2, a1, b1⟩ := kk T'.heap (locs ++ L) (by rw [e1]; exact hst.moved hal.symm)
    ⟨Nat.le_trans hS.1 (by rw [e1]; exact hz), fun q h1 h2 => by rw [e1, hk q (Nat.lt_of_lt_of_le h1 hS.1) h2]; exact hS.2.1 q h1 h2, fun q hq => by
      rcases List.mem_append.mp hq with h | h
      · exact hS.2.2 q h
      · exact hL q h⟩ T' rfl X'
  exact ⟨t2, stp t2 a1, b1⟩
/-- the words of a call of an object's method: the class ci of the receiver, n arguments behind it -/
def gcv (own : String) (idx : Nat) (Y1 : GM) (ci n : Nat) : Prop := (∃ q : vw_C, vwCl[ci]? = some q ∧ q.1 = Y1.1.cls) ∧ (∀ w ∈ wsV own idx Y1.1.cls Y1.1 [Cond.code Y1.1 Y1.2.1 Y1.2.2.1 Y1.2.2.2], w ∈ gT) ∧ (Y1.1.cls ≠ "java/lang/invoke/MethodHandle" ∧ Y1.1.cls ≠ "java/lang/invoke/VarHandle" ∧ (parseMethodDescriptor Y1.1.desc).map (fun d => d.parameters.length) = some n) ∧ Y1.2.2.1 ≤ 45
def gcs (own : String) (idx : Nat) (Y1 : GM) (n : Nat) : Prop := (∀ w ∈ va_wsS own idx Y1.1 [Cond.code Y1.1 Y1.2.1 Y1.2.2.1 Y1.2.2.2], w ∈ gT) ∧ (Y1.1.cls ≠ "java/lang/invoke/MethodHandle" ∧ Y1.1.cls ≠ "java/lang/invoke/VarHandle" ∧ (parseMethodDescriptor Y1.1.desc).map (fun d => d.parameters.length) = some n) ∧ Y1.2.2.1 ≤ 45
def gci (own : String) (idx : Nat) (Y1 : GM) (n : Nat) : Prop := (∀ w ∈ ([Cond.initialized Y1.1.cls, Cond.methodLink own idx Y1.1, Cond.instanceMethod Y1.1, Cond.code Y1.1 Y1.2.1 Y1.2.2.1 Y1.2.2.2] : List Cond), w ∈ gT) ∧ (Y1.1.cls ≠ "java/lang/invoke/MethodHandle" ∧ Y1.1.cls ≠ "java/lang/invoke/VarHandle" ∧ (parseMethodDescriptor Y1.1.desc).map (fun d => d.parameters.length) = some n) ∧ Y1.2.2.1 ≤ 45 ∧ Y1.1.name = "<init>" ∧ Y1.2.2.2 = none
theorem g_good {ws : List Cond} (h : ∀ w ∈ ws, w ∈ gT) : GoodIn gT ws := fun w hw => ⟨h w hw, gAll w (h w hw)⟩
theorem g_callV {g : GE} {d : Nat} {Y : GM} {pc : Nat} {ls : List (Nat × Value)} {st : List Value} {w : GW} {Q : Option Value → GW → Prop} {Y1 : GM} {d1 idx a n : Nat} {As stk : List Value} (ci : Nat) (hd : decode Y.2.1 pc = .ok (.invokevirtual idx, 3)) (hw : gcv Y.1.cls idx Y1 ci n) (hd1 : d1 + 1 ≤ d) (ha : gOb g w a ci) (hn : As.length = n) (hs : stk = As.reverse ++ .ref a :: st) (hsum : (st.map fun v => v.category).sum ≤ 8) (hM : gM g d1 Y1 (.ref a :: As) w (fun r w1 => gF g d Y (pc + 3) ls (r.toList ++ st) w1 Q)) : gF g d Y pc ls stk w Q := by
  obtain ⟨r1, w1, ⟨r, w', hq, hn1, hu1, hG⟩, hn0, hu0, hMet⟩ := hM
  refine ⟨r, w', hq, Nat.le_trans hn0 hn1, Nat.le_trans hu0 hu1, ?_⟩
  intro p e R s m args below meth c n0 u0 H locs lsA C h1 h2 h3 h4 h5 h6 h7
  obtain ⟨hx, hb, hml, hown, hts, hlk, hrt, hnm, hK, hZ, hAO, hdf, hdl⟩ := id C
  obtain ⟨⟨qc, hqc, hcn⟩, hws, ⟨hm1, hm2, hm3⟩, hm45⟩ := hw
  obtain ⟨z1, z2, z3, z4, z5⟩ := g_cl hqc
  obtain ⟨cell, q1, q2, q3, -⟩ := (h5.2.2.1 a ha.1 ha.2.1).obj ha.2.2 z5
  have hG0 : GoodIn gT (wsV Y.1.cls idx Y1.1.cls Y1.1 (gWs Y1)) := by
    refine g_good (fun w hw2 => ?_)
    unfold wsV gWs at hw2
    rcases List.mem_append.mp hw2 with h | h
    · exact hws w (by unfold wsV; exact List.mem_append_left _ h)
    · rcases List.mem_cons.mp h with rfl | h
      · exact hws _ (by unfold wsV; exact List.mem_append_right _ List.mem_cons_self)
      · exact h
  have hcw := cwV (R := R) (rm := gRm d1 (gN w1 - gN w) (gU w1 - gU w)) n hts hG0 rfl rfl rfl ⟨rfl, hm1, hm2, hm3⟩ ⟨Nat.le_trans hd1 hdf, by show 8 + (Y1.2.2.1 + 11) + 64 * d1 ≤ R.locals; omega⟩
  subst hs
  refine g_run (va_runV (As := As) (rest := st) ⟨hx, hb, hml, hown, hts⟩ hMet hcw ⟨gBlind g w _, ⟨cell, q1, by rw [q3]; rfl, by rw [q2, ← hcn]; exact (hK.1 ci _ hqc).2.1⟩, fun U hU hW => ⟨rfl, gPre.of h5 h6 hK hZ hAO hU hW⟩⟩ rfl hn h7.1 rfl (lv_room hsum) hd ⟨by omega, by omega⟩) h6 (fun H1 locs1 y1 y2 => ?_)
  rw [show gN w - n0 + (gN w1 - gN w) = gN w1 - n0 by omega, show gU w - u0 + (gU w1 - gU w) = gU w1 - u0 by omega]
  exact hG p e R s m args below meth c n0 u0 H1 locs1 lsA C (by omega) (by omega) h3 h4 y1 y2 h7
theorem g_callS {g : GE} {d : Nat} {Y : GM} {pc : Nat} {ls : List (Nat × Value)} {st : List Value} {w : GW} {Q : Option Value → GW → Prop} {Y1 : GM} {d1 idx n : Nat} {As stk : List Value} (hd : decode Y.2.1 pc = .ok (.invokestatic idx, 3)) (hw : gcs Y.1.cls idx Y1 n) (hd1 : d1 + 1 ≤ d) (hn : As.length = n) (hs : stk = As.reverse ++ st) (hsum : (st.map fun v => v.category).sum ≤ 8) (hM : gM g d1 Y1 As w (fun r w1 => gF g d Y (pc + 3) ls (r.toList ++ st) w1 Q)) : gF g d Y pc ls stk w Q := by
  obtain ⟨r1, w1, ⟨r, w', hq, hn1, hu1, hG⟩, hn0, hu0, hMet⟩ := hM
  refine ⟨r, w', hq, Nat.le_trans hn0 hn1, Nat.le_trans hu0 hu1, ?_⟩
  intro p e R s m args below meth c n0 u0 H locs lsA C h1 h2 h3 h4 h5 h6 h7
  obtain ⟨hx, hb, hml, hown, hts, hlk, hrt, hnm, hK, hZ, hAO, hdf, hdl⟩ := id C
  obtain ⟨hws, ⟨hm1, hm2, hm3⟩, hm45⟩ := hw
  have hG0 : GoodIn gT (va_wsS Y.1.cls idx Y1.1 (gWs Y1)) := by
    refine g_good (fun w hw2 => ?_)
    unfold va_wsS gWs at hw2
    rcases List.mem_append.mp hw2 with h | h
    · exact hws w (by unfold va_wsS; exact List.mem_append_left _ h)
    · rcases List.mem_cons.mp h with rfl | h
      · exact hws _ (by unfold va_wsS; exact List.mem_append_right _ List.mem_cons_self)
      · exact h
  have hcw := va_cwS (R := R) (rm := gRm d1 (gN w1 - gN w) (gU w1 - gU w)) n hts hG0 rfl rfl rfl ⟨hm1, hm2, hm3⟩ ⟨Nat.le_trans hd1 hdf, by show 8 + (Y1.2.2.1 + 11) + 64 * d1 ≤ R.locals; omega⟩
  subst hs
  refine g_run (va_runS (As := As) (rest := st) ⟨hx, hb, hml, hown, hts⟩ hMet hcw ⟨gBlind g w _, fun U hU hW => ⟨rfl, gPre.of h5 h6 hK hZ hAO hU hW⟩⟩ rfl hn h7.1 rfl (lv_room hsum) hd ⟨by omega, by omega⟩) h6 (fun H1 locs1 y1 y2 => ?_)
  rw [show gN w - n0 + (gN w1 - gN w) = gN w1 - n0 by omega, show gU w - u0 + (gU w1 - gU w) = gU w1 - u0 by omega]
  exact hG p e R s m args below meth c n0 u0 H1 locs1 lsA C (by omega) (by omega) h3 h4 y1 y2 h7
theorem g_callI {g : GE} {d : Nat} {Y : GM} {pc : Nat} {ls : List (Nat × Value)} {st : List Value} {w : GW} {Q : Option Value → GW → Prop} {y1 : MethodName} {c1 : ByteArray} {l1 d1 idx a n : Nat} {As stk : List Value} (hd : decode Y.2.1 pc = .ok (.invokespecial idx, 3)) (hw : gci Y.1.cls idx (y1, c1, l1, none) n) (hd1 : d1 + 1 ≤ d) (hn : As.length = n) (hs : stk = As.reverse ++ .ref a :: st) (hsum : (st.map fun v => v.category).sum ≤ 8) (hM : gM g d1 (y1, c1, l1, none) (.ref a :: As) w (fun r w1 => gF g d Y (pc + 3) ls (r.toList ++ st) w1 Q)) : gF g d Y pc ls stk w Q := by
  obtain ⟨r1, w1, ⟨r, w', hq, hn1, hu1, hG⟩, hn0, hu0, hMet⟩ := hM
  refine ⟨r, w', hq, Nat.le_trans hn0 hn1, Nat.le_trans hu0 hu1, ?_⟩
  intro p e R s m args below meth c n0 u0 H locs lsA C h1 h2 h3 h4 h5 h6 h7
  obtain ⟨hx, hb, hml, hown, hts, hlk, hrt, hnm, hK, hZ, hAO, hdf, hdl⟩ := id C
  obtain ⟨hws, ⟨hm1, hm2, hm3⟩, hm45, hnmi, -⟩ := hw
  have hG0 : GoodIn gT (gWs (y1, c1, l1, none)) := by
    refine g_good (fun w hw2 => ?_)
    unfold gWs at hw2
    rcases List.mem_cons.mp hw2 with rfl | h
    · exact hws _ (by simp)
    · exact h
  have hcw := cwI (R := R) (rm := gRm d1 (gN w1 - gN w) (gU w1 - gU w)) n hts hG0 rfl rfl rfl (hts _ (hws _ (by simp))) (hts _ (hws (Cond.methodLink Y.1.cls idx y1) (by simp))) (hts _ (hws (Cond.instanceMethod y1) (by simp))) hnmi ⟨hm1, hm2, hm3⟩ ⟨Nat.le_trans hd1 hdf, by show 8 + (l1 + 11) + 64 * d1 ≤ R.locals; have : l1 ≤ 45 := hm45; omega⟩
  subst hs
  refine g_run (va_runI (As := As) (rest := st) ⟨hx, hb, hml, hown, hts⟩ hMet hcw ⟨gBlind g w _, fun U hU hW => ⟨rfl, gPre.of h5 h6 hK hZ hAO hU hW⟩⟩ rfl hn h7.1 rfl (lv_room hsum) hd ⟨by omega, by omega⟩) h6 (fun H1 locs1 y1 y2 => ?_)
  rw [show gN w - n0 + (gN w1 - gN w) = gN w1 - n0 by omega, show gU w - u0 + (gU w1 - gU w) = gU w1 - u0 by omega]
  exact hG p e R s m args below meth c n0 u0 H1 locs1 lsA C (by omega) (by omega) h3 h4 y1 y2 h7
theorem g_objInit {g : GE} {d : Nat} {Y : GM} {pc : Nat} {ls : List (Nat × Value)} {st : List Value} {w : GW} {Q : Option Value → GW → Prop} {idx a : Nat} (hd : decode Y.2.1 pc = .ok (.invokespecial idx, 3)) (hw : ∀ w ∈ ([Cond.methodLink Y.1.cls idx objectInit, Cond.instanceMethod objectInit, Cond.code objectInit ⟨#[0xb1]⟩ 1 none] : List Cond), w ∈ gT) (hd1 : 1 ≤ d) (hsum : (st.map fun v => v.category).sum ≤ 8) (k : gF g d Y (pc + 3) ls st w Q) : gF g d Y pc ls (.ref a :: st) w Q := by
  refine k.pure fun r w' h => ?_
  intro p e R s m args below meth c n0 u0 H locs lsA C h1 h2 h3 h4 h5 h6 h7
  obtain ⟨hx, hb, hml, hown, hts, hlk, hrt, hnm, hK, hZ, hAO, hdf, hdl⟩ := id C
  refine W.objInit hx hb hown (hts _ (hw _ (by simp))) (hts _ (hw _ (by simp))) (hts _ (hw _ (by simp))) rfl (by rw [hml]; exact h7.1) rfl hd (by omega) ?_ (h p e R s m args below meth c n0 u0 H locs lsA C h1 h2 h3 h4 h5 h6 h7)
  have := lv_room (m := m) (pc := pc) (ls := lsA) (rest := Value.ref a :: st) hsum
  omega
/-- a method's contract out of its body -/
theorem gM.of {g : GE} {d : Nat} {Y : GM} {as : List Value} {w : GW} {Q : Option Value → GW → Prop} (hp : plainName Y.1.cls = true) (hl : (lg_sl as).length ≤ Y.2.2.1) (h : gF g d Y 0 (lv_args 0 as) [] w Q) : gM g d Y as w Q := by
  obtain ⟨r, w', hq, hn, hu, hG⟩ := h
  refine ⟨r, w', hq, hn, hu, ?_⟩
  refine Met.ofW (cc := Y.2.1) (maxL := Y.2.2.1) (ret := Y.2.2.2) hp rfl ?_
  intro p e s m args below meth c s₁ B hml hv
  obtain ⟨rfl, h5, hK, hZ, hAO⟩ := hv
  have hts := atoms_spec (ws := gWs Y) B.pre
  have he := lv_entry as (n := Y.2.2.1) hl
  rw [lg_entry_eq]
  have hWW := hG p e (headSpec (gWs Y) (gRm d (gN w' - gN w) (gU w' - gU w))).room s m _ below meth c (gN w) (gU w) s.heap [] _ ⟨B.exec, B.bytes, hml, findClass_of_methodNamed B.named, fun w hw => hts w (List.mem_cons_of_mem _ hw), B.notSynchronized, B.returns, (name_of_methodNamed B.named B.method).1, hK, hZ, hAO, Nat.le_refl _, Nat.le_refl _⟩ (Nat.le_refl _) (Nat.le_refl _) (Nat.le_refl _) (Nat.le_refl _) h5 va_S.rf he
  rw [Nat.sub_self, Nat.sub_self] at hWW
  exact hWW
end
section
abbrev mX0_init : GM := (yX0_init, cX0_init, 2, none)
abbrev mX0_routineAt : GM := (yX0_routineAt, cX0_routineAt, 2, (some (.object "GaugeBench$Routine")))
abbrev mX0_rowAt : GM := (yX0_rowAt, cX0_rowAt, 2, (some (.object "GaugeBench$Row")))
abbrev mX0_begin : GM := (yX0_begin, cX0_begin, 2, some .int)
abbrev mX0_doSteps : GM := (yX0_doSteps, cX0_doSteps, 9, some .int)
abbrev mX0_doStep : GM := (yX0_doStep, cX0_doStep, 5, some .int)
abbrev mX0_isCounted : GM := (yX0_isCounted, cX0_isCounted, 1, some .boolean)
abbrev mX0_throwNew : GM := (yX0_throwNew, cX0_throwNew, 3, some .int)
abbrev mX0_leaveBy : GM := (yX0_leaveBy, cX0_leaveBy, 2, some .int)
abbrev mX0_doPart : GM := (yX0_doPart, cX0_doPart, 5, some .int)
abbrev mX0_doTry : GM := (yX0_doTry, cX0_doTry, 9, some .int)
abbrev mX0_doFinally : GM := (yX0_doFinally, cX0_doFinally, 8, some .int)
abbrev mX0_doLoop : GM := (yX0_doLoop, cX0_doLoop, 7, some .int)
abbrev mX0_doCall : GM := (yX0_doCall, cX0_doCall, 5, some .int)
abbrev mX0_isSo : GM := (yX0_isSo, cX0_isSo, 6, some .boolean)
abbrev mX0_useCaught : GM := (yX0_useCaught, cX0_useCaught, 3, some .int)
abbrev mX0_work : GM := (yX0_work, cX0_work, 2, some .int)
abbrev mX0_workWithRow : GM := (yX0_workWithRow, cX0_workWithRow, 4, some .int)
abbrev mX0_getInto : GM := (yX0_getInto, cX0_getInto, 5, some .int)
abbrev mX0_doFine : GM := (yX0_doFine, cX0_doFine, 6, some .int)
abbrev mX0_doRough : GM := (yX0_doRough, cX0_doRough, 4, some .int)
abbrev mX0_doWhole : GM := (yX0_doWhole, cX0_doWhole, 4, some .int)
abbrev mX0_doWide : GM := (yX0_doWide, cX0_doWide, 6, some .int)
abbrev mX1_init : GM := (yX1_init, cX1_init, 3, none)
abbrev mX1_beginPart : GM := (yX1_beginPart, cX1_beginPart, 2, none)
abbrev mX1_takesPart : GM := (yX1_takesPart, cX1_takesPart, 2, some .boolean)
abbrev mX2_init : GM := (yX2_init, cX2_init, 1, none)
abbrev mX2_at : GM := (yX2_at, cX2_at, 2, some .double)
abbrev mX2_wholeAt : GM := (yX2_wholeAt, cX2_wholeAt, 2, some .int)
abbrev mX2_turn : GM := (yX2_turn, cX2_turn, 4, some .int)
abbrev mX3_init : GM := (yX3_init, cX3_init, 5, none)
abbrev mX3_weightOf : GM := (yX3_weightOf, cX3_weightOf, 3, some .int)
abbrev mX3_isUnder : GM := (yX3_isUnder, cX3_isUnder, 4, some .boolean)
abbrev mX4_init : GM := (yX4_init, cX4_init, 1, none)
abbrev mX4_empty : GM := (yX4_empty, cX4_empty, 1, none)
abbrev mX4_append : GM := (yX4_append, cX4_append, 3, none)
abbrev mX4_at : GM := (yX4_at, cX4_at, 2, some .double)
abbrev mX5_init : GM := (yX5_init, cX5_init, 2, none)
abbrev mX5_stepAt : GM := (yX5_stepAt, cX5_stepAt, 2, (some (.object "GaugeBench$Step")))
abbrev mX5_forget : GM := (yX5_forget, cX5_forget, 2, some .int)
abbrev mX5_append : GM := (yX5_append, cX5_append, 6, some .int)
abbrev mX5_mayStandHere : GM := (yX5_mayStandHere, cX5_mayStandHere, 2, some .boolean)
abbrev mX5_mayLeave : GM := (yX5_mayLeave, cX5_mayLeave, 2, some .boolean)
abbrev mX5_isPartOpen : GM := (yX5_isPartOpen, cX5_isPartOpen, 3, some .boolean)
abbrev mX5_tieToBlocks : GM := (yX5_tieToBlocks, cX5_tieToBlocks, 2, none)
abbrev mX5_closeInnermost : GM := (yX5_closeInnermost, cX5_closeInnermost, 2, none)
abbrev mX6_init : GM := (yX6_init, cX6_init, 2, none)
abbrev mX6_make : GM := (yX6_make, cX6_make, 3, some .int)
abbrev mX6_drop : GM := (yX6_drop, cX6_drop, 1, none)
abbrev mX6_faultAt : GM := (yX6_faultAt, cX6_faultAt, 2, some .int)
abbrev mX6_faultOfUse : GM := (yX6_faultOfUse, cX6_faultOfUse, 3, some .int)
abbrev mX6_got : GM := (yX6_got, cX6_got, 2, some .double)
abbrev mX6_put : GM := (yX6_put, cX6_put, 5, some .int)
abbrev mX6_fit : GM := (yX6_fit, cX6_fit, 3, some .int)
abbrev mX6_holdsProbe : GM := (yX6_holdsProbe, cX6_holdsProbe, 2, some .boolean)
abbrev mX6_asHeld : GM := (yX6_asHeld, cX6_asHeld, 3, some .double)
abbrev mX7_init : GM := (yX7_init, cX7_init, 7, none)
abbrev mX7_isTold : GM := (yX7_isTold, cX7_isTold, 4, some .boolean)
abbrev mX7_isWithin : GM := (yX7_isWithin, cX7_isWithin, 3, some .boolean)
abbrev mX7_partEnd : GM := (yX7_partEnd, cX7_partEnd, 1, some .int)
abbrev mX7_catchPartFor : GM := (yX7_catchPartFor, cX7_catchPartFor, 3, (some (.object "GaugeBench$Step")))
abbrev mX7_finallyPart : GM := (yX7_finallyPart, cX7_finallyPart, 2, (some (.object "GaugeBench$Step")))
abbrev mX8_divides : GM := (yX8_divides, cX8_divides, 1, some .boolean)
abbrev mX8_fine : GM := (yX8_fine, cX8_fine, 5, some .double)
abbrev mX8_rough : GM := (yX8_rough, cX8_rough, 3, some .double)
abbrev mX8_whole : GM := (yX8_whole, cX8_whole, 3, some .int)
abbrev mX8_wide : GM := (yX8_wide, cX8_wide, 5, some .long)
abbrev mX8_hasMinus : GM := (yX8_hasMinus, cX8_hasMinus, 2, some .boolean)
abbrev mX8_isLess : GM := (yX8_isLess, cX8_isLess, 4, some .boolean)
abbrev mX8_withSign : GM := (yX8_withSign, cX8_withSign, 4, some .double)
abbrev mX8_wholeBelow : GM := (yX8_wholeBelow, cX8_wholeBelow, 4, some .double)
abbrev mX8_nearestWhole : GM := (yX8_nearestWhole, cX8_nearestWhole, 10, some .double)
abbrev mX8_rest : GM := (yX8_rest, cX8_rest, 12, some .double)
abbrev mX9_init : GM := (yX9_init, cX9_init, 1, none)
abbrev mX9_choose : GM := (yX9_choose, cX9_choose, 3, some .int)
abbrev mX9_step : GM := (yX9_step, cX9_step, 5, some .int)
abbrev mX9_clear : GM := (yX9_clear, cX9_clear, 1, some .int)
abbrev mX9_run : GM := (yX9_run, cX9_run, 1, some .int)
abbrev mX9_dial : GM := (yX9_dial, cX9_dial, 2, some .double)
abbrev mX9_size : GM := (yX9_size, cX9_size, 3, some .int)
abbrev mX9_value : GM := (yX9_value, cX9_value, 4, some .double)
abbrev mX9_isFitted : GM := (yX9_isFitted, cX9_isFitted, 4, some .boolean)
abbrev mX9_log : GM := (yX9_log, cX9_log, 2, some .double)
abbrev mX9_isMinus : GM := (yX9_isMinus, cX9_isMinus, 2, some .boolean)
abbrev mX9_count : GM := (yX9_count, cX9_count, 2, some .int)
abbrev mX9_fault : GM := (yX9_fault, cX9_fault, 3, some .int)
abbrev mX10_init : GM := (yX10_init, cX10_init, 1, none)
abbrev mX10_isIn : GM := (yX10_isIn, cX10_isIn, 3, some .boolean)
abbrev mX10_choose : GM := (yX10_choose, cX10_choose, 2, some .int)
abbrev mX10_isDial : GM := (yX10_isDial, cX10_isDial, 1, some .boolean)
abbrev mX10_isRow : GM := (yX10_isRow, cX10_isRow, 1, some .boolean)
abbrev mX10_areTold : GM := (yX10_areTold, cX10_areTold, 4, some .boolean)
abbrev mX10_isBlock : GM := (yX10_isBlock, cX10_isBlock, 1, some .boolean)
abbrev mX10_partAt : GM := (yX10_partAt, cX10_partAt, 2, some .int)
abbrev mX10_isPartOpen : GM := (yX10_isPartOpen, cX10_isPartOpen, 5, some .boolean)
abbrev mX10_mayStand : GM := (yX10_mayStand, cX10_mayStand, 6, some .boolean)
abbrev mX10_step : GM := (yX10_step, cX10_step, 7, some .int)
abbrev mX10_clear : GM := (yX10_clear, cX10_clear, 2, some .int)
abbrev mX10_isUnder : GM := (yX10_isUnder, cX10_isUnder, 5, some .boolean)
abbrev mX10_throwNew : GM := (yX10_throwNew, cX10_throwNew, 5, none)
abbrev mX10_fail : GM := (yX10_fail, cX10_fail, 2, none)
abbrev mX10_weighed : GM := (yX10_weighed, cX10_weighed, 3, some .int)
abbrev mX10_below : GM := (yX10_below, cX10_below, 5, some .int)
abbrev mX10_weight : GM := (yX10_weight, cX10_weight, 5, some .int)
abbrev mX10_push : GM := (yX10_push, cX10_push, 4, none)
abbrev mX10_begin : GM := (yX10_begin, cX10_begin, 3, none)
abbrev mX10_over : GM := (yX10_over, cX10_over, 1, none)
abbrev mX10_lastPart : GM := (yX10_lastPart, cX10_lastPart, 4, none)
abbrev mX10_seekCatch : GM := (yX10_seekCatch, cX10_seekCatch, 4, none)
abbrev mX10_leave : GM := (yX10_leave, cX10_leave, 2, none)
abbrev mX10_isCounted : GM := (yX10_isCounted, cX10_isCounted, 1, some .boolean)
abbrev mX10_round : GM := (yX10_round, cX10_round, 2, none)
abbrev mX10_endPart : GM := (yX10_endPart, cX10_endPart, 2, none)
abbrev mX10_go : GM := (yX10_go, cX10_go, 2, none)
abbrev mX10_run : GM := (yX10_run, cX10_run, 2, some .int)
abbrev mX10_caught : GM := (yX10_caught, cX10_caught, 2, some .int)
abbrev mX10_note : GM := (yX10_note, cX10_note, 3, none)
abbrev mX10_isSo : GM := (yX10_isSo, cX10_isSo, 6, some .boolean)
abbrev mX10_call : GM := (yX10_call, cX10_call, 2, none)
abbrev mX10_wrap : GM := (yX10_wrap, cX10_wrap, 3, none)
abbrev mX10_tell : GM := (yX10_tell, cX10_tell, 2, none)
abbrev mX10_order : GM := (yX10_order, cX10_order, 2, none)
abbrev mX10_faultOf : GM := (yX10_faultOf, cX10_faultOf, 4, some .int)
abbrev mX10_kept : GM := (yX10_kept, cX10_kept, 3, some .double)
abbrev mX10_make : GM := (yX10_make, cX10_make, 4, none)
abbrev mX10_onRow : GM := (yX10_onRow, cX10_onRow, 5, none)
abbrev mX10_work : GM := (yX10_work, cX10_work, 4, none)
abbrev mX10_isMinusNumber : GM := (yX10_isMinusNumber, cX10_isMinusNumber, 2, some .boolean)
abbrev mX10_signed : GM := (yX10_signed, cX10_signed, 3, some .double)
abbrev mX10_lower : GM := (yX10_lower, cX10_lower, 4, some .double)
abbrev mX10_signed0 : GM := (yX10_signed0, cX10_signed0, 4, some .double)
abbrev mX10_upper : GM := (yX10_upper, cX10_upper, 4, some .double)
abbrev mX10_nearest : GM := (yX10_nearest, cX10_nearest, 7, some .double)
abbrev mX10_chosen : GM := (yX10_chosen, cX10_chosen, 5, some .double)
abbrev mX10_turn : GM := (yX10_turn, cX10_turn, 4, none)
abbrev mX10_fine : GM := (yX10_fine, cX10_fine, 9, none)
abbrev mX10_rough : GM := (yX10_rough, cX10_rough, 7, none)
abbrev mX10_whole : GM := (yX10_whole, cX10_whole, 6, none)
abbrev mX10_wide : GM := (yX10_wide, cX10_wide, 9, none)
abbrev mX10_dial : GM := (yX10_dial, cX10_dial, 2, some .double)
abbrev mX10_size : GM := (yX10_size, cX10_size, 2, some .int)
abbrev mX10_value : GM := (yX10_value, cX10_value, 3, some .double)
abbrev mX10_isFitted : GM := (yX10_isFitted, cX10_isFitted, 3, some .boolean)
abbrev mX10_log : GM := (yX10_log, cX10_log, 2, some .double)
abbrev mX10_isMinus : GM := (yX10_isMinus, cX10_isMinus, 2, some .boolean)
abbrev mX10_count : GM := (yX10_count, cX10_count, 2, some .int)
abbrev mX10_fault : GM := (yX10_fault, cX10_fault, 2, some .int)
abbrev mJ9_max_7cf53 : GM := (yJ9_max_7cf53, cJ9_max_7cf53, 2, some .int)
abbrev mL_law : GM := (yL_law, cL_law, 8, some .boolean)
theorem fX9_10 : gfl RX9 10 8 0 true := ⟨_, rfl, by decide, gT_in (i := 198) (by decide +kernel) rfl, rfl, rfl⟩
theorem fX9_20 : gfl RX9 20 0 4 false := ⟨_, rfl, by decide, gT_in (i := 170) (by decide +kernel) rfl, rfl, rfl⟩
theorem fX9_24 : gfl RX9 24 5 3 false := ⟨_, rfl, by decide, gT_in (i := 98) (by decide +kernel) rfl, rfl, rfl⟩
theorem fX9_44 : gfl RX9 44 5 4 false := ⟨_, rfl, by decide, gT_in (i := 101) (by decide +kernel) rfl, rfl, rfl⟩
theorem fX9_51 : gfl RX9 51 0 2 true := ⟨_, rfl, by decide, gT_in (i := 166) (by decide +kernel) rfl, rfl, rfl⟩
theorem fX9_65 : gfl RX9 65 6 3 false := ⟨_, rfl, by decide, gT_in (i := 126) (by decide +kernel) rfl, rfl, rfl⟩
theorem fX9_77 : gfl RX9 77 0 3 true := ⟨_, rfl, by decide, gT_in (i := 168) (by decide +kernel) rfl, rfl, rfl⟩
theorem fX9_90 : gfl RX9 90 0 5 false := ⟨_, rfl, by decide, gT_in (i := 172) (by decide +kernel) rfl, rfl, rfl⟩
theorem fX9_93 : gfl RX9 93 4 1 false := ⟨_, rfl, by decide, gT_in (i := 157) (by decide +kernel) rfl, rfl, rfl⟩
theorem fX9_94 : gfl RX9 94 0 6 false := ⟨_, rfl, by decide, gT_in (i := 174) (by decide +kernel) rfl, rfl, rfl⟩
theorem fX9_97 : gfl RX9 97 0 7 false := ⟨_, rfl, by decide, gT_in (i := 176) (by decide +kernel) rfl, rfl, rfl⟩
theorem fX9_100 : gfl RX9 100 0 8 false := ⟨_, rfl, by decide, gT_in (i := 178) (by decide +kernel) rfl, rfl, rfl⟩
theorem fX9_104 : gfl RX9 104 3 0 true := ⟨_, rfl, by decide, gT_in (i := 375) (by decide +kernel) rfl, rfl, rfl⟩
theorem fX9_109 : gfl RX9 109 3 1 true := ⟨_, rfl, by decide, gT_in (i := 377) (by decide +kernel) rfl, rfl, rfl⟩
theorem fX9_112 : gfl RX9 112 3 5 true := ⟨_, rfl, by decide, gT_in (i := 387) (by decide +kernel) rfl, rfl, rfl⟩
theorem fX9_115 : gfl RX9 115 3 2 true := ⟨_, rfl, by decide, gT_in (i := 380) (by decide +kernel) rfl, rfl, rfl⟩
theorem fX9_118 : gfl RX9 118 3 3 true := ⟨_, rfl, by decide, gT_in (i := 382) (by decide +kernel) rfl, rfl, rfl⟩
theorem fX9_121 : gfl RX9 121 3 4 true := ⟨_, rfl, by decide, gT_in (i := 385) (by decide +kernel) rfl, rfl, rfl⟩
theorem fX0_12 : gfl RX0 12 0 4 false := ⟨_, rfl, by decide, gT_in (i := 169) (by decide +kernel) rfl, rfl, rfl⟩
theorem fX0_18 : gfl RX0 18 0 0 true := ⟨_, rfl, by decide, gT_in (i := 163) (by decide +kernel) rfl, rfl, rfl⟩
theorem fX0_24 : gfl RX0 24 0 1 true := ⟨_, rfl, by decide, gT_in (i := 164) (by decide +kernel) rfl, rfl, rfl⟩
theorem fX0_32 : gfl RX0 32 0 2 true := ⟨_, rfl, by decide, gT_in (i := 165) (by decide +kernel) rfl, rfl, rfl⟩
theorem fX0_39 : gfl RX0 39 0 3 true := ⟨_, rfl, by decide, gT_in (i := 167) (by decide +kernel) rfl, rfl, rfl⟩
theorem fX0_46 : gfl RX0 46 0 5 false := ⟨_, rfl, by decide, gT_in (i := 171) (by decide +kernel) rfl, rfl, rfl⟩
theorem fX0_50 : gfl RX0 50 0 6 false := ⟨_, rfl, by decide, gT_in (i := 173) (by decide +kernel) rfl, rfl, rfl⟩
theorem fX0_53 : gfl RX0 53 0 7 false := ⟨_, rfl, by decide, gT_in (i := 175) (by decide +kernel) rfl, rfl, rfl⟩
theorem fX0_56 : gfl RX0 56 0 8 false := ⟨_, rfl, by decide, gT_in (i := 177) (by decide +kernel) rfl, rfl, rfl⟩
theorem fX0_60 : gfl RX0 60 5 3 false := ⟨_, rfl, by decide, gT_in (i := 99) (by decide +kernel) rfl, rfl, rfl⟩
theorem fX0_67 : gfl RX0 67 3 0 true := ⟨_, rfl, by decide, gT_in (i := 374) (by decide +kernel) rfl, rfl, rfl⟩
theorem fX0_80 : gfl RX0 80 7 6 false := ⟨_, rfl, by decide, gT_in (i := 269) (by decide +kernel) rfl, rfl, rfl⟩
theorem fX0_99 : gfl RX0 99 7 0 true := ⟨_, rfl, by decide, gT_in (i := 256) (by decide +kernel) rfl, rfl, rfl⟩
theorem fX0_119 : gfl RX0 119 7 5 true := ⟨_, rfl, by decide, gT_in (i := 267) (by decide +kernel) rfl, rfl, rfl⟩
theorem fX0_122 : gfl RX0 122 7 1 true := ⟨_, rfl, by decide, gT_in (i := 258) (by decide +kernel) rfl, rfl, rfl⟩
theorem fX0_140 : gfl RX0 140 7 4 true := ⟨_, rfl, by decide, gT_in (i := 265) (by decide +kernel) rfl, rfl, rfl⟩
theorem fX0_162 : gfl RX0 162 5 4 false := ⟨_, rfl, by decide, gT_in (i := 102) (by decide +kernel) rfl, rfl, rfl⟩
theorem fX0_169 : gfl RX0 169 7 3 true := ⟨_, rfl, by decide, gT_in (i := 262) (by decide +kernel) rfl, rfl, rfl⟩
theorem fX0_172 : gfl RX0 172 7 2 true := ⟨_, rfl, by decide, gT_in (i := 260) (by decide +kernel) rfl, rfl, rfl⟩
theorem fX0_175 : gfl RX0 175 3 3 true := ⟨_, rfl, by decide, gT_in (i := 383) (by decide +kernel) rfl, rfl, rfl⟩
theorem fX0_182 : gfl RX0 182 3 1 true := ⟨_, rfl, by decide, gT_in (i := 378) (by decide +kernel) rfl, rfl, rfl⟩
theorem fX0_183 : gfl RX0 183 3 5 true := ⟨_, rfl, by decide, gT_in (i := 388) (by decide +kernel) rfl, rfl, rfl⟩
theorem fX0_222 : gfl RX0 222 6 3 false := ⟨_, rfl, by decide, gT_in (i := 127) (by decide +kernel) rfl, rfl, rfl⟩
theorem fX1_7 : gfl RX1 7 1 0 true := ⟨_, rfl, by decide, gT_in (i := 300) (by decide +kernel) rfl, rfl, rfl⟩
theorem fX1_13 : gfl RX1 13 1 1 true := ⟨_, rfl, by decide, gT_in (i := 302) (by decide +kernel) rfl, rfl, rfl⟩
theorem fX1_17 : gfl RX1 17 1 2 false := ⟨_, rfl, by decide, gT_in (i := 304) (by decide +kernel) rfl, rfl, rfl⟩
theorem fX1_20 : gfl RX1 20 7 7 false := ⟨_, rfl, by decide, gT_in (i := 271) (by decide +kernel) rfl, rfl, rfl⟩
theorem fX1_25 : gfl RX1 25 7 0 true := ⟨_, rfl, by decide, gT_in (i := 254) (by decide +kernel) rfl, rfl, rfl⟩
theorem fX1_29 : gfl RX1 29 1 3 false := ⟨_, rfl, by decide, gT_in (i := 306) (by decide +kernel) rfl, rfl, rfl⟩
theorem fX2_9 : gfl RX2 9 2 0 true := ⟨_, rfl, by decide, gT_in (i := 145) (by decide +kernel) rfl, rfl, rfl⟩
theorem fX3_7 : gfl RX3 7 3 0 true := ⟨_, rfl, by decide, gT_in (i := 373) (by decide +kernel) rfl, rfl, rfl⟩
theorem fX3_13 : gfl RX3 13 3 1 true := ⟨_, rfl, by decide, gT_in (i := 376) (by decide +kernel) rfl, rfl, rfl⟩
theorem fX3_16 : gfl RX3 16 3 2 true := ⟨_, rfl, by decide, gT_in (i := 379) (by decide +kernel) rfl, rfl, rfl⟩
theorem fX3_19 : gfl RX3 19 3 3 true := ⟨_, rfl, by decide, gT_in (i := 381) (by decide +kernel) rfl, rfl, rfl⟩
theorem fX3_22 : gfl RX3 22 3 4 true := ⟨_, rfl, by decide, gT_in (i := 384) (by decide +kernel) rfl, rfl, rfl⟩
theorem fX3_25 : gfl RX3 25 3 5 true := ⟨_, rfl, by decide, gT_in (i := 386) (by decide +kernel) rfl, rfl, rfl⟩
theorem zX3_32 : Cond.fieldLink RX3 32 (gzC 4) (gzN 4) "[I" ∈ gT := gT_in (i := 425) (by decide +kernel) rfl
theorem fX4_11 : gfl RX4 11 4 0 true := ⟨_, rfl, by decide, gT_in (i := 155) (by decide +kernel) rfl, rfl, rfl⟩
theorem fX4_15 : gfl RX4 15 4 1 false := ⟨_, rfl, by decide, gT_in (i := 156) (by decide +kernel) rfl, rfl, rfl⟩
theorem fX5_7 : gfl RX5 7 5 0 true := ⟨_, rfl, by decide, gT_in (i := 94) (by decide +kernel) rfl, rfl, rfl⟩
theorem fX5_15 : gfl RX5 15 5 1 true := ⟨_, rfl, by decide, gT_in (i := 95) (by decide +kernel) rfl, rfl, rfl⟩
theorem fX5_19 : gfl RX5 19 5 3 false := ⟨_, rfl, by decide, gT_in (i := 97) (by decide +kernel) rfl, rfl, rfl⟩
theorem fX5_22 : gfl RX5 22 5 4 false := ⟨_, rfl, by decide, gT_in (i := 100) (by decide +kernel) rfl, rfl, rfl⟩
theorem fX5_25 : gfl RX5 25 5 2 false := ⟨_, rfl, by decide, gT_in (i := 96) (by decide +kernel) rfl, rfl, rfl⟩
theorem fX5_52 : gfl RX5 52 1 0 true := ⟨_, rfl, by decide, gT_in (i := 301) (by decide +kernel) rfl, rfl, rfl⟩
theorem fX5_56 : gfl RX5 56 7 0 true := ⟨_, rfl, by decide, gT_in (i := 255) (by decide +kernel) rfl, rfl, rfl⟩
theorem fX5_59 : gfl RX5 59 1 2 false := ⟨_, rfl, by decide, gT_in (i := 305) (by decide +kernel) rfl, rfl, rfl⟩
theorem fX5_62 : gfl RX5 62 1 1 true := ⟨_, rfl, by decide, gT_in (i := 303) (by decide +kernel) rfl, rfl, rfl⟩
theorem fX5_74 : gfl RX5 74 7 4 true := ⟨_, rfl, by decide, gT_in (i := 264) (by decide +kernel) rfl, rfl, rfl⟩
theorem fX5_75 : gfl RX5 75 7 6 false := ⟨_, rfl, by decide, gT_in (i := 270) (by decide +kernel) rfl, rfl, rfl⟩
theorem fX6_7 : gfl RX6 7 6 0 true := ⟨_, rfl, by decide, gT_in (i := 122) (by decide +kernel) rfl, rfl, rfl⟩
theorem fX6_13 : gfl RX6 13 6 1 true := ⟨_, rfl, by decide, gT_in (i := 123) (by decide +kernel) rfl, rfl, rfl⟩
theorem fX6_17 : gfl RX6 17 6 2 true := ⟨_, rfl, by decide, gT_in (i := 124) (by decide +kernel) rfl, rfl, rfl⟩
theorem fX6_21 : gfl RX6 21 6 3 false := ⟨_, rfl, by decide, gT_in (i := 125) (by decide +kernel) rfl, rfl, rfl⟩
theorem fX7_7 : gfl RX7 7 7 0 true := ⟨_, rfl, by decide, gT_in (i := 253) (by decide +kernel) rfl, rfl, rfl⟩
theorem fX7_13 : gfl RX7 13 7 1 true := ⟨_, rfl, by decide, gT_in (i := 257) (by decide +kernel) rfl, rfl, rfl⟩
theorem fX7_16 : gfl RX7 16 7 2 true := ⟨_, rfl, by decide, gT_in (i := 259) (by decide +kernel) rfl, rfl, rfl⟩
theorem fX7_19 : gfl RX7 19 7 3 true := ⟨_, rfl, by decide, gT_in (i := 261) (by decide +kernel) rfl, rfl, rfl⟩
theorem fX7_22 : gfl RX7 22 7 4 true := ⟨_, rfl, by decide, gT_in (i := 263) (by decide +kernel) rfl, rfl, rfl⟩
theorem fX7_25 : gfl RX7 25 7 5 true := ⟨_, rfl, by decide, gT_in (i := 266) (by decide +kernel) rfl, rfl, rfl⟩
theorem fX7_28 : gfl RX7 28 7 6 false := ⟨_, rfl, by decide, gT_in (i := 268) (by decide +kernel) rfl, rfl, rfl⟩
theorem zX7_31 : Cond.fieldLink RX7 31 (gzC 0) (gzN 0) "[I" ∈ gT := gT_in (i := 217) (by decide +kernel) rfl
theorem zX7_35 : Cond.fieldLink RX7 35 (gzC 1) (gzN 1) "[I" ∈ gT := gT_in (i := 219) (by decide +kernel) rfl
theorem zX7_42 : Cond.fieldLink RX7 42 (gzC 2) (gzN 2) "[I" ∈ gT := gT_in (i := 224) (by decide +kernel) rfl
theorem zX7_45 : Cond.fieldLink RX7 45 (gzC 3) (gzN 3) "[I" ∈ gT := gT_in (i := 226) (by decide +kernel) rfl
theorem fX7_48 : gfl RX7 48 7 7 false := ⟨_, rfl, by decide, gT_in (i := 272) (by decide +kernel) rfl, rfl, rfl⟩
theorem fX10_7 : gfl RX10 7 9 0 true := ⟨_, rfl, by decide, gT_in (i := 628) (by decide +kernel) rfl, rfl, rfl⟩
theorem fX10_13 : gfl RX10 13 9 1 true := ⟨_, rfl, by decide, gT_in (i := 629) (by decide +kernel) rfl, rfl, rfl⟩
theorem fX10_16 : gfl RX10 16 9 2 true := ⟨_, rfl, by decide, gT_in (i := 630) (by decide +kernel) rfl, rfl, rfl⟩
theorem fX10_19 : gfl RX10 19 9 3 true := ⟨_, rfl, by decide, gT_in (i := 631) (by decide +kernel) rfl, rfl, rfl⟩
theorem fX10_22 : gfl RX10 22 9 4 true := ⟨_, rfl, by decide, gT_in (i := 632) (by decide +kernel) rfl, rfl, rfl⟩
theorem fX10_25 : gfl RX10 25 9 5 true := ⟨_, rfl, by decide, gT_in (i := 633) (by decide +kernel) rfl, rfl, rfl⟩
theorem fX10_28 : gfl RX10 28 9 6 true := ⟨_, rfl, by decide, gT_in (i := 634) (by decide +kernel) rfl, rfl, rfl⟩
theorem fX10_31 : gfl RX10 31 9 7 true := ⟨_, rfl, by decide, gT_in (i := 635) (by decide +kernel) rfl, rfl, rfl⟩
theorem fX10_34 : gfl RX10 34 9 8 true := ⟨_, rfl, by decide, gT_in (i := 636) (by decide +kernel) rfl, rfl, rfl⟩
theorem fX10_37 : gfl RX10 37 9 9 true := ⟨_, rfl, by decide, gT_in (i := 637) (by decide +kernel) rfl, rfl, rfl⟩
theorem fX10_40 : gfl RX10 40 9 10 true := ⟨_, rfl, by decide, gT_in (i := 638) (by decide +kernel) rfl, rfl, rfl⟩
theorem fX10_43 : gfl RX10 43 9 12 true := ⟨_, rfl, by decide, gT_in (i := 640) (by decide +kernel) rfl, rfl, rfl⟩
theorem fX10_47 : gfl RX10 47 9 13 true := ⟨_, rfl, by decide, gT_in (i := 641) (by decide +kernel) rfl, rfl, rfl⟩
theorem fX10_51 : gfl RX10 51 9 14 true := ⟨_, rfl, by decide, gT_in (i := 642) (by decide +kernel) rfl, rfl, rfl⟩
theorem fX10_54 : gfl RX10 54 9 15 true := ⟨_, rfl, by decide, gT_in (i := 643) (by decide +kernel) rfl, rfl, rfl⟩
theorem fX10_57 : gfl RX10 57 9 16 true := ⟨_, rfl, by decide, gT_in (i := 644) (by decide +kernel) rfl, rfl, rfl⟩
theorem fX10_60 : gfl RX10 60 9 17 true := ⟨_, rfl, by decide, gT_in (i := 645) (by decide +kernel) rfl, rfl, rfl⟩
theorem fX10_63 : gfl RX10 63 9 18 true := ⟨_, rfl, by decide, gT_in (i := 646) (by decide +kernel) rfl, rfl, rfl⟩
theorem fX10_66 : gfl RX10 66 9 19 true := ⟨_, rfl, by decide, gT_in (i := 647) (by decide +kernel) rfl, rfl, rfl⟩
theorem fX10_69 : gfl RX10 69 9 20 true := ⟨_, rfl, by decide, gT_in (i := 648) (by decide +kernel) rfl, rfl, rfl⟩
theorem fX10_72 : gfl RX10 72 9 21 true := ⟨_, rfl, by decide, gT_in (i := 649) (by decide +kernel) rfl, rfl, rfl⟩
theorem fX10_75 : gfl RX10 75 9 23 false := ⟨_, rfl, by decide, gT_in (i := 651) (by decide +kernel) rfl, rfl, rfl⟩
theorem fX10_79 : gfl RX10 79 9 24 true := ⟨_, rfl, by decide, gT_in (i := 652) (by decide +kernel) rfl, rfl, rfl⟩
theorem fX10_82 : gfl RX10 82 9 25 true := ⟨_, rfl, by decide, gT_in (i := 653) (by decide +kernel) rfl, rfl, rfl⟩
theorem fX10_85 : gfl RX10 85 9 26 true := ⟨_, rfl, by decide, gT_in (i := 654) (by decide +kernel) rfl, rfl, rfl⟩
theorem fX10_88 : gfl RX10 88 9 27 true := ⟨_, rfl, by decide, gT_in (i := 655) (by decide +kernel) rfl, rfl, rfl⟩
theorem fX10_91 : gfl RX10 91 9 28 true := ⟨_, rfl, by decide, gT_in (i := 656) (by decide +kernel) rfl, rfl, rfl⟩
theorem fX10_94 : gfl RX10 94 9 37 true := ⟨_, rfl, by decide, gT_in (i := 665) (by decide +kernel) rfl, rfl, rfl⟩
theorem fX10_97 : gfl RX10 97 9 39 true := ⟨_, rfl, by decide, gT_in (i := 667) (by decide +kernel) rfl, rfl, rfl⟩
theorem fX10_104 : gfl RX10 104 9 11 false := ⟨_, rfl, by decide, gT_in (i := 639) (by decide +kernel) rfl, rfl, rfl⟩
theorem fX10_132 : gfl RX10 132 9 22 false := ⟨_, rfl, by decide, gT_in (i := 650) (by decide +kernel) rfl, rfl, rfl⟩
theorem fX10_135 : gfl RX10 135 9 32 false := ⟨_, rfl, by decide, gT_in (i := 660) (by decide +kernel) rfl, rfl, rfl⟩
theorem fX10_138 : gfl RX10 138 9 31 false := ⟨_, rfl, by decide, gT_in (i := 659) (by decide +kernel) rfl, rfl, rfl⟩
theorem fX10_141 : gfl RX10 141 9 30 false := ⟨_, rfl, by decide, gT_in (i := 658) (by decide +kernel) rfl, rfl, rfl⟩
theorem fX10_156 : gfl RX10 156 9 29 false := ⟨_, rfl, by decide, gT_in (i := 657) (by decide +kernel) rfl, rfl, rfl⟩
theorem fX10_163 : gfl RX10 163 9 33 false := ⟨_, rfl, by decide, gT_in (i := 661) (by decide +kernel) rfl, rfl, rfl⟩
theorem fX10_166 : gfl RX10 166 9 36 false := ⟨_, rfl, by decide, gT_in (i := 664) (by decide +kernel) rfl, rfl, rfl⟩
theorem fX10_175 : gfl RX10 175 9 35 false := ⟨_, rfl, by decide, gT_in (i := 663) (by decide +kernel) rfl, rfl, rfl⟩
theorem fX10_184 : gfl RX10 184 9 34 false := ⟨_, rfl, by decide, gT_in (i := 662) (by decide +kernel) rfl, rfl, rfl⟩
theorem fX10_207 : gfl RX10 207 9 38 false := ⟨_, rfl, by decide, gT_in (i := 666) (by decide +kernel) rfl, rfl, rfl⟩
theorem oi_inst : Cond.instanceMethod objectInit ∈ gT := gT_in (i := 78) (by decide +kernel) rfl
theorem oi_code : Cond.code objectInit ⟨#[0xb1]⟩ 1 none ∈ gT := gT_in (i := 79) (by decide +kernel) rfl
theorem oX9_1 : ∀ w ∈ ([Cond.methodLink RX9 1 objectInit, Cond.instanceMethod objectInit, Cond.code objectInit ⟨#[0xb1]⟩ 1 none] : List Cond), w ∈ gT := List.forall_mem_cons.mpr ⟨gT_in (i := 77) (by decide +kernel) rfl, List.forall_mem_cons.mpr ⟨oi_inst, List.forall_mem_cons.mpr ⟨oi_code, fun _ h => absurd h List.not_mem_nil⟩⟩⟩
theorem iX9_9 : gci RX9 9 mX0_init 0 := ⟨List.forall_mem_cons.mpr ⟨gT_in (i := 61) (by decide +kernel) rfl, List.forall_mem_cons.mpr ⟨gT_in (i := 82) (by decide +kernel) rfl, List.forall_mem_cons.mpr ⟨gT_in (i := 83) (by decide +kernel) rfl, List.forall_mem_cons.mpr ⟨gT_in (i := 84) (by decide +kernel) rfl, fun _ h => absurd h List.not_mem_nil⟩⟩⟩⟩, ⟨by decide +kernel, by decide +kernel, by decide +kernel⟩, by decide, rfl, rfl⟩
theorem vX9_16 : gcv RX9 16 mX0_routineAt 0 1 := ⟨⟨_, rfl, rfl⟩, List.forall_mem_cons.mpr ⟨gT_in (i := 206) (by decide +kernel) rfl, List.forall_mem_cons.mpr ⟨gT_in (i := 207) (by decide +kernel) rfl, List.forall_mem_cons.mpr ⟨gT_in (i := 208) (by decide +kernel) rfl, List.forall_mem_cons.mpr ⟨gT_in (i := 61) (by decide +kernel) rfl, List.forall_mem_cons.mpr ⟨gT_in (i := 209) (by decide +kernel) rfl, fun _ h => absurd h List.not_mem_nil⟩⟩⟩⟩⟩, ⟨by decide +kernel, by decide +kernel, by decide +kernel⟩, by decide⟩
theorem sX9_30 : gcs RX9 30 mX7_isTold 4 := ⟨List.forall_mem_cons.mpr ⟨gT_in (i := 214) (by decide +kernel) rfl, List.forall_mem_cons.mpr ⟨gT_in (i := 215) (by decide +kernel) rfl, List.forall_mem_cons.mpr ⟨gT_in (i := 67) (by decide +kernel) rfl, List.forall_mem_cons.mpr ⟨gT_in (i := 216) (by decide +kernel) rfl, fun _ h => absurd h List.not_mem_nil⟩⟩⟩⟩, ⟨by decide +kernel, by decide +kernel, by decide +kernel⟩, by decide⟩
theorem vX9_36 : gcv RX9 36 mX5_append 5 4 := ⟨⟨_, rfl, rfl⟩, List.forall_mem_cons.mpr ⟨gT_in (i := 228) (by decide +kernel) rfl, List.forall_mem_cons.mpr ⟨gT_in (i := 229) (by decide +kernel) rfl, List.forall_mem_cons.mpr ⟨gT_in (i := 230) (by decide +kernel) rfl, List.forall_mem_cons.mpr ⟨gT_in (i := 62) (by decide +kernel) rfl, List.forall_mem_cons.mpr ⟨gT_in (i := 231) (by decide +kernel) rfl, fun _ h => absurd h List.not_mem_nil⟩⟩⟩⟩⟩, ⟨by decide +kernel, by decide +kernel, by decide +kernel⟩, by decide⟩
theorem vX9_40 : gcv RX9 40 mX5_forget 5 0 := ⟨⟨_, rfl, rfl⟩, List.forall_mem_cons.mpr ⟨gT_in (i := 328) (by decide +kernel) rfl, List.forall_mem_cons.mpr ⟨gT_in (i := 329) (by decide +kernel) rfl, List.forall_mem_cons.mpr ⟨gT_in (i := 330) (by decide +kernel) rfl, List.forall_mem_cons.mpr ⟨gT_in (i := 62) (by decide +kernel) rfl, List.forall_mem_cons.mpr ⟨gT_in (i := 331) (by decide +kernel) rfl, fun _ h => absurd h List.not_mem_nil⟩⟩⟩⟩⟩, ⟨by decide +kernel, by decide +kernel, by decide +kernel⟩, by decide⟩
theorem vX9_47 : gcv RX9 47 mX0_begin 0 1 := ⟨⟨_, rfl, rfl⟩, List.forall_mem_cons.mpr ⟨gT_in (i := 336) (by decide +kernel) rfl, List.forall_mem_cons.mpr ⟨gT_in (i := 337) (by decide +kernel) rfl, List.forall_mem_cons.mpr ⟨gT_in (i := 338) (by decide +kernel) rfl, List.forall_mem_cons.mpr ⟨gT_in (i := 61) (by decide +kernel) rfl, List.forall_mem_cons.mpr ⟨gT_in (i := 339) (by decide +kernel) rfl, fun _ h => absurd h List.not_mem_nil⟩⟩⟩⟩⟩, ⟨by decide +kernel, by decide +kernel, by decide +kernel⟩, by decide⟩
theorem vX9_55 : gcv RX9 55 mX2_at 2 1 := ⟨⟨_, rfl, rfl⟩, List.forall_mem_cons.mpr ⟨gT_in (i := 582) (by decide +kernel) rfl, List.forall_mem_cons.mpr ⟨gT_in (i := 444) (by decide +kernel) rfl, List.forall_mem_cons.mpr ⟨gT_in (i := 445) (by decide +kernel) rfl, List.forall_mem_cons.mpr ⟨gT_in (i := 64) (by decide +kernel) rfl, List.forall_mem_cons.mpr ⟨gT_in (i := 446) (by decide +kernel) rfl, fun _ h => absurd h List.not_mem_nil⟩⟩⟩⟩⟩, ⟨by decide +kernel, by decide +kernel, by decide +kernel⟩, by decide⟩
theorem vX9_61 : gcv RX9 61 mX0_rowAt 0 1 := ⟨⟨_, rfl, rfl⟩, List.forall_mem_cons.mpr ⟨gT_in (i := 587) (by decide +kernel) rfl, List.forall_mem_cons.mpr ⟨gT_in (i := 531) (by decide +kernel) rfl, List.forall_mem_cons.mpr ⟨gT_in (i := 532) (by decide +kernel) rfl, List.forall_mem_cons.mpr ⟨gT_in (i := 61) (by decide +kernel) rfl, List.forall_mem_cons.mpr ⟨gT_in (i := 533) (by decide +kernel) rfl, fun _ h => absurd h List.not_mem_nil⟩⟩⟩⟩⟩, ⟨by decide +kernel, by decide +kernel, by decide +kernel⟩, by decide⟩
theorem vX9_70 : gcv RX9 70 mX6_got 6 1 := ⟨⟨_, rfl, rfl⟩, List.forall_mem_cons.mpr ⟨gT_in (i := 592) (by decide +kernel) rfl, List.forall_mem_cons.mpr ⟨gT_in (i := 559) (by decide +kernel) rfl, List.forall_mem_cons.mpr ⟨gT_in (i := 560) (by decide +kernel) rfl, List.forall_mem_cons.mpr ⟨gT_in (i := 63) (by decide +kernel) rfl, List.forall_mem_cons.mpr ⟨gT_in (i := 561) (by decide +kernel) rfl, fun _ h => absurd h List.not_mem_nil⟩⟩⟩⟩⟩, ⟨by decide +kernel, by decide +kernel, by decide +kernel⟩, by decide⟩
theorem vX9_73 : gcv RX9 73 mX6_holdsProbe 6 1 := ⟨⟨_, rfl, rfl⟩, List.forall_mem_cons.mpr ⟨gT_in (i := 597) (by decide +kernel) rfl, List.forall_mem_cons.mpr ⟨gT_in (i := 598) (by decide +kernel) rfl, List.forall_mem_cons.mpr ⟨gT_in (i := 599) (by decide +kernel) rfl, List.forall_mem_cons.mpr ⟨gT_in (i := 63) (by decide +kernel) rfl, List.forall_mem_cons.mpr ⟨gT_in (i := 600) (by decide +kernel) rfl, fun _ h => absurd h List.not_mem_nil⟩⟩⟩⟩⟩, ⟨by decide +kernel, by decide +kernel, by decide +kernel⟩, by decide⟩
theorem vX9_81 : gcv RX9 81 mX4_at 4 1 := ⟨⟨_, rfl, rfl⟩, List.forall_mem_cons.mpr ⟨gT_in (i := 605) (by decide +kernel) rfl, List.forall_mem_cons.mpr ⟨gT_in (i := 606) (by decide +kernel) rfl, List.forall_mem_cons.mpr ⟨gT_in (i := 607) (by decide +kernel) rfl, List.forall_mem_cons.mpr ⟨gT_in (i := 65) (by decide +kernel) rfl, List.forall_mem_cons.mpr ⟨gT_in (i := 608) (by decide +kernel) rfl, fun _ h => absurd h List.not_mem_nil⟩⟩⟩⟩⟩, ⟨by decide +kernel, by decide +kernel, by decide +kernel⟩, by decide⟩
theorem sX9_84 : gcs RX9 84 mX8_hasMinus 1 := ⟨List.forall_mem_cons.mpr ⟨gT_in (i := 613) (by decide +kernel) rfl, List.forall_mem_cons.mpr ⟨gT_in (i := 489) (by decide +kernel) rfl, List.forall_mem_cons.mpr ⟨gT_in (i := 70) (by decide +kernel) rfl, List.forall_mem_cons.mpr ⟨gT_in (i := 490) (by decide +kernel) rfl, fun _ h => absurd h List.not_mem_nil⟩⟩⟩⟩, ⟨by decide +kernel, by decide +kernel, by decide +kernel⟩, by decide⟩
theorem oX0_1 : ∀ w ∈ ([Cond.methodLink RX0 1 objectInit, Cond.instanceMethod objectInit, Cond.code objectInit ⟨#[0xb1]⟩ 1 none] : List Cond), w ∈ gT := List.forall_mem_cons.mpr ⟨gT_in (i := 85) (by decide +kernel) rfl, List.forall_mem_cons.mpr ⟨oi_inst, List.forall_mem_cons.mpr ⟨oi_code, fun _ h => absurd h List.not_mem_nil⟩⟩⟩
theorem iX0_9 : gci RX0 9 mX5_init 1 := ⟨List.forall_mem_cons.mpr ⟨gT_in (i := 62) (by decide +kernel) rfl, List.forall_mem_cons.mpr ⟨gT_in (i := 88) (by decide +kernel) rfl, List.forall_mem_cons.mpr ⟨gT_in (i := 89) (by decide +kernel) rfl, List.forall_mem_cons.mpr ⟨gT_in (i := 90) (by decide +kernel) rfl, fun _ h => absurd h List.not_mem_nil⟩⟩⟩⟩, ⟨by decide +kernel, by decide +kernel, by decide +kernel⟩, by decide, rfl, rfl⟩
theorem iX0_28 : gci RX0 28 mX6_init 1 := ⟨List.forall_mem_cons.mpr ⟨gT_in (i := 63) (by decide +kernel) rfl, List.forall_mem_cons.mpr ⟨gT_in (i := 118) (by decide +kernel) rfl, List.forall_mem_cons.mpr ⟨gT_in (i := 119) (by decide +kernel) rfl, List.forall_mem_cons.mpr ⟨gT_in (i := 120) (by decide +kernel) rfl, fun _ h => absurd h List.not_mem_nil⟩⟩⟩⟩, ⟨by decide +kernel, by decide +kernel, by decide +kernel⟩, by decide, rfl, rfl⟩
theorem iX0_31 : gci RX0 31 mX2_init 0 := ⟨List.forall_mem_cons.mpr ⟨gT_in (i := 64) (by decide +kernel) rfl, List.forall_mem_cons.mpr ⟨gT_in (i := 141) (by decide +kernel) rfl, List.forall_mem_cons.mpr ⟨gT_in (i := 142) (by decide +kernel) rfl, List.forall_mem_cons.mpr ⟨gT_in (i := 143) (by decide +kernel) rfl, fun _ h => absurd h List.not_mem_nil⟩⟩⟩⟩, ⟨by decide +kernel, by decide +kernel, by decide +kernel⟩, by decide, rfl, rfl⟩
theorem iX0_38 : gci RX0 38 mX4_init 0 := ⟨List.forall_mem_cons.mpr ⟨gT_in (i := 65) (by decide +kernel) rfl, List.forall_mem_cons.mpr ⟨gT_in (i := 151) (by decide +kernel) rfl, List.forall_mem_cons.mpr ⟨gT_in (i := 152) (by decide +kernel) rfl, List.forall_mem_cons.mpr ⟨gT_in (i := 153) (by decide +kernel) rfl, fun _ h => absurd h List.not_mem_nil⟩⟩⟩⟩, ⟨by decide +kernel, by decide +kernel, by decide +kernel⟩, by decide, rfl, rfl⟩
theorem vX0_43 : gcv RX0 43 mX4_empty 4 0 := ⟨⟨_, rfl, rfl⟩, List.forall_mem_cons.mpr ⟨gT_in (i := 340) (by decide +kernel) rfl, List.forall_mem_cons.mpr ⟨gT_in (i := 341) (by decide +kernel) rfl, List.forall_mem_cons.mpr ⟨gT_in (i := 342) (by decide +kernel) rfl, List.forall_mem_cons.mpr ⟨gT_in (i := 65) (by decide +kernel) rfl, List.forall_mem_cons.mpr ⟨gT_in (i := 343) (by decide +kernel) rfl, fun _ h => absurd h List.not_mem_nil⟩⟩⟩⟩⟩, ⟨by decide +kernel, by decide +kernel, by decide +kernel⟩, by decide⟩
theorem vX0_63 : gcv RX0 63 mX0_doSteps 0 5 := ⟨⟨_, rfl, rfl⟩, List.forall_mem_cons.mpr ⟨gT_in (i := 344) (by decide +kernel) rfl, List.forall_mem_cons.mpr ⟨gT_in (i := 346) (by decide +kernel) rfl, List.forall_mem_cons.mpr ⟨gT_in (i := 5) (by decide +kernel) rfl, List.forall_mem_cons.mpr ⟨gT_in (i := 61) (by decide +kernel) rfl, List.forall_mem_cons.mpr ⟨gT_in (i := 347) (by decide +kernel) rfl, fun _ h => absurd h List.not_mem_nil⟩⟩⟩⟩⟩, ⟨by decide +kernel, by decide +kernel, by decide +kernel⟩, by decide⟩
theorem vX0_72 : gcv RX0 72 mX5_stepAt 5 1 := ⟨⟨_, rfl, rfl⟩, List.forall_mem_cons.mpr ⟨gT_in (i := 348) (by decide +kernel) rfl, List.forall_mem_cons.mpr ⟨gT_in (i := 349) (by decide +kernel) rfl, List.forall_mem_cons.mpr ⟨gT_in (i := 350) (by decide +kernel) rfl, List.forall_mem_cons.mpr ⟨gT_in (i := 62) (by decide +kernel) rfl, List.forall_mem_cons.mpr ⟨gT_in (i := 351) (by decide +kernel) rfl, fun _ h => absurd h List.not_mem_nil⟩⟩⟩⟩⟩, ⟨by decide +kernel, by decide +kernel, by decide +kernel⟩, by decide⟩
theorem vX0_76 : gcv RX0 76 mX0_doStep 0 4 := ⟨⟨_, rfl, rfl⟩, List.forall_mem_cons.mpr ⟨gT_in (i := 352) (by decide +kernel) rfl, List.forall_mem_cons.mpr ⟨gT_in (i := 354) (by decide +kernel) rfl, List.forall_mem_cons.mpr ⟨gT_in (i := 6) (by decide +kernel) rfl, List.forall_mem_cons.mpr ⟨gT_in (i := 61) (by decide +kernel) rfl, List.forall_mem_cons.mpr ⟨gT_in (i := 355) (by decide +kernel) rfl, fun _ h => absurd h List.not_mem_nil⟩⟩⟩⟩⟩, ⟨by decide +kernel, by decide +kernel, by decide +kernel⟩, by decide⟩
theorem sX0_85 : gcs RX0 85 mJ9_max_7cf53 2 := ⟨List.forall_mem_cons.mpr ⟨gT_in (i := 575) (by decide +kernel) rfl, List.forall_mem_cons.mpr ⟨gT_in (i := 576) (by decide +kernel) rfl, List.forall_mem_cons.mpr ⟨gT_in (i := 71) (by decide +kernel) rfl, List.forall_mem_cons.mpr ⟨gT_in (i := 577) (by decide +kernel) rfl, fun _ h => absurd h List.not_mem_nil⟩⟩⟩⟩, ⟨by decide +kernel, by decide +kernel, by decide +kernel⟩, by decide⟩
theorem vX0_91 : gcv RX0 91 mX0_isCounted 0 0 := ⟨⟨_, rfl, rfl⟩, List.forall_mem_cons.mpr ⟨gT_in (i := 356) (by decide +kernel) rfl, List.forall_mem_cons.mpr ⟨gT_in (i := 358) (by decide +kernel) rfl, List.forall_mem_cons.mpr ⟨gT_in (i := 7) (by decide +kernel) rfl, List.forall_mem_cons.mpr ⟨gT_in (i := 61) (by decide +kernel) rfl, List.forall_mem_cons.mpr ⟨gT_in (i := 359) (by decide +kernel) rfl, fun _ h => absurd h List.not_mem_nil⟩⟩⟩⟩⟩, ⟨by decide +kernel, by decide +kernel, by decide +kernel⟩, by decide⟩
theorem vX0_95 : gcv RX0 95 mX0_throwNew 0 2 := ⟨⟨_, rfl, rfl⟩, List.forall_mem_cons.mpr ⟨gT_in (i := 360) (by decide +kernel) rfl, List.forall_mem_cons.mpr ⟨gT_in (i := 362) (by decide +kernel) rfl, List.forall_mem_cons.mpr ⟨gT_in (i := 8) (by decide +kernel) rfl, List.forall_mem_cons.mpr ⟨gT_in (i := 61) (by decide +kernel) rfl, List.forall_mem_cons.mpr ⟨gT_in (i := 363) (by decide +kernel) rfl, fun _ h => absurd h List.not_mem_nil⟩⟩⟩⟩⟩, ⟨by decide +kernel, by decide +kernel, by decide +kernel⟩, by decide⟩
theorem vX0_102 : gcv RX0 102 mX0_doTry 0 4 := ⟨⟨_, rfl, rfl⟩, List.forall_mem_cons.mpr ⟨gT_in (i := 406) (by decide +kernel) rfl, List.forall_mem_cons.mpr ⟨gT_in (i := 408) (by decide +kernel) rfl, List.forall_mem_cons.mpr ⟨gT_in (i := 10) (by decide +kernel) rfl, List.forall_mem_cons.mpr ⟨gT_in (i := 61) (by decide +kernel) rfl, List.forall_mem_cons.mpr ⟨gT_in (i := 409) (by decide +kernel) rfl, fun _ h => absurd h List.not_mem_nil⟩⟩⟩⟩⟩, ⟨by decide +kernel, by decide +kernel, by decide +kernel⟩, by decide⟩
theorem vX0_105 : gcv RX0 105 mX0_doLoop 0 4 := ⟨⟨_, rfl, rfl⟩, List.forall_mem_cons.mpr ⟨gT_in (i := 435) (by decide +kernel) rfl, List.forall_mem_cons.mpr ⟨gT_in (i := 437) (by decide +kernel) rfl, List.forall_mem_cons.mpr ⟨gT_in (i := 13) (by decide +kernel) rfl, List.forall_mem_cons.mpr ⟨gT_in (i := 61) (by decide +kernel) rfl, List.forall_mem_cons.mpr ⟨gT_in (i := 438) (by decide +kernel) rfl, fun _ h => absurd h List.not_mem_nil⟩⟩⟩⟩⟩, ⟨by decide +kernel, by decide +kernel, by decide +kernel⟩, by decide⟩
theorem vX0_108 : gcv RX0 108 mX0_isSo 0 1 := ⟨⟨_, rfl, rfl⟩, List.forall_mem_cons.mpr ⟨gT_in (i := 439) (by decide +kernel) rfl, List.forall_mem_cons.mpr ⟨gT_in (i := 441) (by decide +kernel) rfl, List.forall_mem_cons.mpr ⟨gT_in (i := 14) (by decide +kernel) rfl, List.forall_mem_cons.mpr ⟨gT_in (i := 61) (by decide +kernel) rfl, List.forall_mem_cons.mpr ⟨gT_in (i := 442) (by decide +kernel) rfl, fun _ h => absurd h List.not_mem_nil⟩⟩⟩⟩⟩, ⟨by decide +kernel, by decide +kernel, by decide +kernel⟩, by decide⟩
theorem vX0_112 : gcv RX0 112 mX0_doPart 0 4 := ⟨⟨_, rfl, rfl⟩, List.forall_mem_cons.mpr ⟨gT_in (i := 410) (by decide +kernel) rfl, List.forall_mem_cons.mpr ⟨gT_in (i := 412) (by decide +kernel) rfl, List.forall_mem_cons.mpr ⟨gT_in (i := 11) (by decide +kernel) rfl, List.forall_mem_cons.mpr ⟨gT_in (i := 61) (by decide +kernel) rfl, List.forall_mem_cons.mpr ⟨gT_in (i := 413) (by decide +kernel) rfl, fun _ h => absurd h List.not_mem_nil⟩⟩⟩⟩⟩, ⟨by decide +kernel, by decide +kernel, by decide +kernel⟩, by decide⟩
theorem vX0_115 : gcv RX0 115 mX0_doCall 0 2 := ⟨⟨_, rfl, rfl⟩, List.forall_mem_cons.mpr ⟨gT_in (i := 447) (by decide +kernel) rfl, List.forall_mem_cons.mpr ⟨gT_in (i := 449) (by decide +kernel) rfl, List.forall_mem_cons.mpr ⟨gT_in (i := 15) (by decide +kernel) rfl, List.forall_mem_cons.mpr ⟨gT_in (i := 61) (by decide +kernel) rfl, List.forall_mem_cons.mpr ⟨gT_in (i := 450) (by decide +kernel) rfl, fun _ h => absurd h List.not_mem_nil⟩⟩⟩⟩⟩, ⟨by decide +kernel, by decide +kernel, by decide +kernel⟩, by decide⟩
theorem iX0_125 : gci RX0 125 mX3_init 4 := ⟨List.forall_mem_cons.mpr ⟨gT_in (i := 69) (by decide +kernel) rfl, List.forall_mem_cons.mpr ⟨gT_in (i := 366) (by decide +kernel) rfl, List.forall_mem_cons.mpr ⟨gT_in (i := 367) (by decide +kernel) rfl, List.forall_mem_cons.mpr ⟨gT_in (i := 368) (by decide +kernel) rfl, fun _ h => absurd h List.not_mem_nil⟩⟩⟩⟩, ⟨by decide +kernel, by decide +kernel, by decide +kernel⟩, by decide, rfl, rfl⟩
theorem vX0_128 : gcv RX0 128 mX0_leaveBy 0 1 := ⟨⟨_, rfl, rfl⟩, List.forall_mem_cons.mpr ⟨gT_in (i := 402) (by decide +kernel) rfl, List.forall_mem_cons.mpr ⟨gT_in (i := 404) (by decide +kernel) rfl, List.forall_mem_cons.mpr ⟨gT_in (i := 9) (by decide +kernel) rfl, List.forall_mem_cons.mpr ⟨gT_in (i := 61) (by decide +kernel) rfl, List.forall_mem_cons.mpr ⟨gT_in (i := 405) (by decide +kernel) rfl, fun _ h => absurd h List.not_mem_nil⟩⟩⟩⟩⟩, ⟨by decide +kernel, by decide +kernel, by decide +kernel⟩, by decide⟩
theorem vX0_132 : gcv RX0 132 mX0_useCaught 0 2 := ⟨⟨_, rfl, rfl⟩, List.forall_mem_cons.mpr ⟨gT_in (i := 452) (by decide +kernel) rfl, List.forall_mem_cons.mpr ⟨gT_in (i := 454) (by decide +kernel) rfl, List.forall_mem_cons.mpr ⟨gT_in (i := 16) (by decide +kernel) rfl, List.forall_mem_cons.mpr ⟨gT_in (i := 61) (by decide +kernel) rfl, List.forall_mem_cons.mpr ⟨gT_in (i := 455) (by decide +kernel) rfl, fun _ h => absurd h List.not_mem_nil⟩⟩⟩⟩⟩, ⟨by decide +kernel, by decide +kernel, by decide +kernel⟩, by decide⟩
theorem vX0_136 : gcv RX0 136 mX0_work 0 1 := ⟨⟨_, rfl, rfl⟩, List.forall_mem_cons.mpr ⟨gT_in (i := 460) (by decide +kernel) rfl, List.forall_mem_cons.mpr ⟨gT_in (i := 462) (by decide +kernel) rfl, List.forall_mem_cons.mpr ⟨gT_in (i := 17) (by decide +kernel) rfl, List.forall_mem_cons.mpr ⟨gT_in (i := 61) (by decide +kernel) rfl, List.forall_mem_cons.mpr ⟨gT_in (i := 463) (by decide +kernel) rfl, fun _ h => absurd h List.not_mem_nil⟩⟩⟩⟩⟩, ⟨by decide +kernel, by decide +kernel, by decide +kernel⟩, by decide⟩
theorem vX0_143 : gcv RX0 143 mX7_partEnd 7 0 := ⟨⟨_, rfl, rfl⟩, List.forall_mem_cons.mpr ⟨gT_in (i := 414) (by decide +kernel) rfl, List.forall_mem_cons.mpr ⟨gT_in (i := 415) (by decide +kernel) rfl, List.forall_mem_cons.mpr ⟨gT_in (i := 416) (by decide +kernel) rfl, List.forall_mem_cons.mpr ⟨gT_in (i := 67) (by decide +kernel) rfl, List.forall_mem_cons.mpr ⟨gT_in (i := 417) (by decide +kernel) rfl, fun _ h => absurd h List.not_mem_nil⟩⟩⟩⟩⟩, ⟨by decide +kernel, by decide +kernel, by decide +kernel⟩, by decide⟩
theorem vX0_147 : gcv RX0 147 mX7_catchPartFor 7 1 := ⟨⟨_, rfl, rfl⟩, List.forall_mem_cons.mpr ⟨gT_in (i := 418) (by decide +kernel) rfl, List.forall_mem_cons.mpr ⟨gT_in (i := 419) (by decide +kernel) rfl, List.forall_mem_cons.mpr ⟨gT_in (i := 420) (by decide +kernel) rfl, List.forall_mem_cons.mpr ⟨gT_in (i := 67) (by decide +kernel) rfl, List.forall_mem_cons.mpr ⟨gT_in (i := 421) (by decide +kernel) rfl, fun _ h => absurd h List.not_mem_nil⟩⟩⟩⟩⟩, ⟨by decide +kernel, by decide +kernel, by decide +kernel⟩, by decide⟩
theorem vX0_150 : gcv RX0 150 mX7_finallyPart 7 0 := ⟨⟨_, rfl, rfl⟩, List.forall_mem_cons.mpr ⟨gT_in (i := 427) (by decide +kernel) rfl, List.forall_mem_cons.mpr ⟨gT_in (i := 428) (by decide +kernel) rfl, List.forall_mem_cons.mpr ⟨gT_in (i := 429) (by decide +kernel) rfl, List.forall_mem_cons.mpr ⟨gT_in (i := 67) (by decide +kernel) rfl, List.forall_mem_cons.mpr ⟨gT_in (i := 430) (by decide +kernel) rfl, fun _ h => absurd h List.not_mem_nil⟩⟩⟩⟩⟩, ⟨by decide +kernel, by decide +kernel, by decide +kernel⟩, by decide⟩
theorem vX0_154 : gcv RX0 154 mX0_doFinally 0 5 := ⟨⟨_, rfl, rfl⟩, List.forall_mem_cons.mpr ⟨gT_in (i := 431) (by decide +kernel) rfl, List.forall_mem_cons.mpr ⟨gT_in (i := 433) (by decide +kernel) rfl, List.forall_mem_cons.mpr ⟨gT_in (i := 12) (by decide +kernel) rfl, List.forall_mem_cons.mpr ⟨gT_in (i := 61) (by decide +kernel) rfl, List.forall_mem_cons.mpr ⟨gT_in (i := 434) (by decide +kernel) rfl, fun _ h => absurd h List.not_mem_nil⟩⟩⟩⟩⟩, ⟨by decide +kernel, by decide +kernel, by decide +kernel⟩, by decide⟩
theorem vX0_158 : gcv RX0 158 mX0_routineAt 0 1 := ⟨⟨_, rfl, rfl⟩, List.forall_mem_cons.mpr ⟨gT_in (i := 451) (by decide +kernel) rfl, List.forall_mem_cons.mpr ⟨gT_in (i := 207) (by decide +kernel) rfl, List.forall_mem_cons.mpr ⟨gT_in (i := 208) (by decide +kernel) rfl, List.forall_mem_cons.mpr ⟨gT_in (i := 61) (by decide +kernel) rfl, List.forall_mem_cons.mpr ⟨gT_in (i := 209) (by decide +kernel) rfl, fun _ h => absurd h List.not_mem_nil⟩⟩⟩⟩⟩, ⟨by decide +kernel, by decide +kernel, by decide +kernel⟩, by decide⟩
theorem vX0_165 : gcv RX0 165 mX2_at 2 1 := ⟨⟨_, rfl, rfl⟩, List.forall_mem_cons.mpr ⟨gT_in (i := 443) (by decide +kernel) rfl, List.forall_mem_cons.mpr ⟨gT_in (i := 444) (by decide +kernel) rfl, List.forall_mem_cons.mpr ⟨gT_in (i := 445) (by decide +kernel) rfl, List.forall_mem_cons.mpr ⟨gT_in (i := 64) (by decide +kernel) rfl, List.forall_mem_cons.mpr ⟨gT_in (i := 446) (by decide +kernel) rfl, fun _ h => absurd h List.not_mem_nil⟩⟩⟩⟩⟩, ⟨by decide +kernel, by decide +kernel, by decide +kernel⟩, by decide⟩
theorem vX0_178 : gcv RX0 178 mX4_append 4 1 := ⟨⟨_, rfl, rfl⟩, List.forall_mem_cons.mpr ⟨gT_in (i := 456) (by decide +kernel) rfl, List.forall_mem_cons.mpr ⟨gT_in (i := 457) (by decide +kernel) rfl, List.forall_mem_cons.mpr ⟨gT_in (i := 458) (by decide +kernel) rfl, List.forall_mem_cons.mpr ⟨gT_in (i := 65) (by decide +kernel) rfl, List.forall_mem_cons.mpr ⟨gT_in (i := 459) (by decide +kernel) rfl, fun _ h => absurd h List.not_mem_nil⟩⟩⟩⟩⟩, ⟨by decide +kernel, by decide +kernel, by decide +kernel⟩, by decide⟩
theorem vX0_188 : gcv RX0 188 mX2_turn 2 2 := ⟨⟨_, rfl, rfl⟩, List.forall_mem_cons.mpr ⟨gT_in (i := 465) (by decide +kernel) rfl, List.forall_mem_cons.mpr ⟨gT_in (i := 466) (by decide +kernel) rfl, List.forall_mem_cons.mpr ⟨gT_in (i := 467) (by decide +kernel) rfl, List.forall_mem_cons.mpr ⟨gT_in (i := 64) (by decide +kernel) rfl, List.forall_mem_cons.mpr ⟨gT_in (i := 468) (by decide +kernel) rfl, fun _ h => absurd h List.not_mem_nil⟩⟩⟩⟩⟩, ⟨by decide +kernel, by decide +kernel, by decide +kernel⟩, by decide⟩
theorem vX0_192 : gcv RX0 192 mX0_doFine 0 1 := ⟨⟨_, rfl, rfl⟩, List.forall_mem_cons.mpr ⟨gT_in (i := 471) (by decide +kernel) rfl, List.forall_mem_cons.mpr ⟨gT_in (i := 473) (by decide +kernel) rfl, List.forall_mem_cons.mpr ⟨gT_in (i := 18) (by decide +kernel) rfl, List.forall_mem_cons.mpr ⟨gT_in (i := 61) (by decide +kernel) rfl, List.forall_mem_cons.mpr ⟨gT_in (i := 474) (by decide +kernel) rfl, fun _ h => absurd h List.not_mem_nil⟩⟩⟩⟩⟩, ⟨by decide +kernel, by decide +kernel, by decide +kernel⟩, by decide⟩
theorem vX0_195 : gcv RX0 195 mX0_doRough 0 1 := ⟨⟨_, rfl, rfl⟩, List.forall_mem_cons.mpr ⟨gT_in (i := 503) (by decide +kernel) rfl, List.forall_mem_cons.mpr ⟨gT_in (i := 505) (by decide +kernel) rfl, List.forall_mem_cons.mpr ⟨gT_in (i := 19) (by decide +kernel) rfl, List.forall_mem_cons.mpr ⟨gT_in (i := 61) (by decide +kernel) rfl, List.forall_mem_cons.mpr ⟨gT_in (i := 506) (by decide +kernel) rfl, fun _ h => absurd h List.not_mem_nil⟩⟩⟩⟩⟩, ⟨by decide +kernel, by decide +kernel, by decide +kernel⟩, by decide⟩
theorem vX0_198 : gcv RX0 198 mX0_doWhole 0 1 := ⟨⟨_, rfl, rfl⟩, List.forall_mem_cons.mpr ⟨gT_in (i := 511) (by decide +kernel) rfl, List.forall_mem_cons.mpr ⟨gT_in (i := 513) (by decide +kernel) rfl, List.forall_mem_cons.mpr ⟨gT_in (i := 20) (by decide +kernel) rfl, List.forall_mem_cons.mpr ⟨gT_in (i := 61) (by decide +kernel) rfl, List.forall_mem_cons.mpr ⟨gT_in (i := 514) (by decide +kernel) rfl, fun _ h => absurd h List.not_mem_nil⟩⟩⟩⟩⟩, ⟨by decide +kernel, by decide +kernel, by decide +kernel⟩, by decide⟩
theorem vX0_201 : gcv RX0 201 mX0_doWide 0 1 := ⟨⟨_, rfl, rfl⟩, List.forall_mem_cons.mpr ⟨gT_in (i := 523) (by decide +kernel) rfl, List.forall_mem_cons.mpr ⟨gT_in (i := 525) (by decide +kernel) rfl, List.forall_mem_cons.mpr ⟨gT_in (i := 21) (by decide +kernel) rfl, List.forall_mem_cons.mpr ⟨gT_in (i := 61) (by decide +kernel) rfl, List.forall_mem_cons.mpr ⟨gT_in (i := 526) (by decide +kernel) rfl, fun _ h => absurd h List.not_mem_nil⟩⟩⟩⟩⟩, ⟨by decide +kernel, by decide +kernel, by decide +kernel⟩, by decide⟩
theorem vX0_204 : gcv RX0 204 mX0_rowAt 0 1 := ⟨⟨_, rfl, rfl⟩, List.forall_mem_cons.mpr ⟨gT_in (i := 530) (by decide +kernel) rfl, List.forall_mem_cons.mpr ⟨gT_in (i := 531) (by decide +kernel) rfl, List.forall_mem_cons.mpr ⟨gT_in (i := 532) (by decide +kernel) rfl, List.forall_mem_cons.mpr ⟨gT_in (i := 61) (by decide +kernel) rfl, List.forall_mem_cons.mpr ⟨gT_in (i := 533) (by decide +kernel) rfl, fun _ h => absurd h List.not_mem_nil⟩⟩⟩⟩⟩, ⟨by decide +kernel, by decide +kernel, by decide +kernel⟩, by decide⟩
theorem vX0_208 : gcv RX0 208 mX0_workWithRow 0 2 := ⟨⟨_, rfl, rfl⟩, List.forall_mem_cons.mpr ⟨gT_in (i := 534) (by decide +kernel) rfl, List.forall_mem_cons.mpr ⟨gT_in (i := 536) (by decide +kernel) rfl, List.forall_mem_cons.mpr ⟨gT_in (i := 22) (by decide +kernel) rfl, List.forall_mem_cons.mpr ⟨gT_in (i := 61) (by decide +kernel) rfl, List.forall_mem_cons.mpr ⟨gT_in (i := 537) (by decide +kernel) rfl, fun _ h => absurd h List.not_mem_nil⟩⟩⟩⟩⟩, ⟨by decide +kernel, by decide +kernel, by decide +kernel⟩, by decide⟩
theorem vX0_212 : gcv RX0 212 mX2_wholeAt 2 1 := ⟨⟨_, rfl, rfl⟩, List.forall_mem_cons.mpr ⟨gT_in (i := 515) (by decide +kernel) rfl, List.forall_mem_cons.mpr ⟨gT_in (i := 516) (by decide +kernel) rfl, List.forall_mem_cons.mpr ⟨gT_in (i := 517) (by decide +kernel) rfl, List.forall_mem_cons.mpr ⟨gT_in (i := 64) (by decide +kernel) rfl, List.forall_mem_cons.mpr ⟨gT_in (i := 518) (by decide +kernel) rfl, fun _ h => absurd h List.not_mem_nil⟩⟩⟩⟩⟩, ⟨by decide +kernel, by decide +kernel, by decide +kernel⟩, by decide⟩
theorem vX0_216 : gcv RX0 216 mX6_make 6 1 := ⟨⟨_, rfl, rfl⟩, List.forall_mem_cons.mpr ⟨gT_in (i := 538) (by decide +kernel) rfl, List.forall_mem_cons.mpr ⟨gT_in (i := 539) (by decide +kernel) rfl, List.forall_mem_cons.mpr ⟨gT_in (i := 540) (by decide +kernel) rfl, List.forall_mem_cons.mpr ⟨gT_in (i := 63) (by decide +kernel) rfl, List.forall_mem_cons.mpr ⟨gT_in (i := 541) (by decide +kernel) rfl, fun _ h => absurd h List.not_mem_nil⟩⟩⟩⟩⟩, ⟨by decide +kernel, by decide +kernel, by decide +kernel⟩, by decide⟩
theorem vX0_219 : gcv RX0 219 mX6_drop 6 0 := ⟨⟨_, rfl, rfl⟩, List.forall_mem_cons.mpr ⟨gT_in (i := 542) (by decide +kernel) rfl, List.forall_mem_cons.mpr ⟨gT_in (i := 543) (by decide +kernel) rfl, List.forall_mem_cons.mpr ⟨gT_in (i := 544) (by decide +kernel) rfl, List.forall_mem_cons.mpr ⟨gT_in (i := 63) (by decide +kernel) rfl, List.forall_mem_cons.mpr ⟨gT_in (i := 545) (by decide +kernel) rfl, fun _ h => absurd h List.not_mem_nil⟩⟩⟩⟩⟩, ⟨by decide +kernel, by decide +kernel, by decide +kernel⟩, by decide⟩
theorem vX0_225 : gcv RX0 225 mX0_getInto 0 3 := ⟨⟨_, rfl, rfl⟩, List.forall_mem_cons.mpr ⟨gT_in (i := 546) (by decide +kernel) rfl, List.forall_mem_cons.mpr ⟨gT_in (i := 548) (by decide +kernel) rfl, List.forall_mem_cons.mpr ⟨gT_in (i := 23) (by decide +kernel) rfl, List.forall_mem_cons.mpr ⟨gT_in (i := 61) (by decide +kernel) rfl, List.forall_mem_cons.mpr ⟨gT_in (i := 549) (by decide +kernel) rfl, fun _ h => absurd h List.not_mem_nil⟩⟩⟩⟩⟩, ⟨by decide +kernel, by decide +kernel, by decide +kernel⟩, by decide⟩
theorem vX0_229 : gcv RX0 229 mX6_put 6 2 := ⟨⟨_, rfl, rfl⟩, List.forall_mem_cons.mpr ⟨gT_in (i := 563) (by decide +kernel) rfl, List.forall_mem_cons.mpr ⟨gT_in (i := 564) (by decide +kernel) rfl, List.forall_mem_cons.mpr ⟨gT_in (i := 565) (by decide +kernel) rfl, List.forall_mem_cons.mpr ⟨gT_in (i := 63) (by decide +kernel) rfl, List.forall_mem_cons.mpr ⟨gT_in (i := 566) (by decide +kernel) rfl, fun _ h => absurd h List.not_mem_nil⟩⟩⟩⟩⟩, ⟨by decide +kernel, by decide +kernel, by decide +kernel⟩, by decide⟩
theorem vX0_232 : gcv RX0 232 mX6_fit 6 1 := ⟨⟨_, rfl, rfl⟩, List.forall_mem_cons.mpr ⟨gT_in (i := 571) (by decide +kernel) rfl, List.forall_mem_cons.mpr ⟨gT_in (i := 572) (by decide +kernel) rfl, List.forall_mem_cons.mpr ⟨gT_in (i := 573) (by decide +kernel) rfl, List.forall_mem_cons.mpr ⟨gT_in (i := 63) (by decide +kernel) rfl, List.forall_mem_cons.mpr ⟨gT_in (i := 574) (by decide +kernel) rfl, fun _ h => absurd h List.not_mem_nil⟩⟩⟩⟩⟩, ⟨by decide +kernel, by decide +kernel, by decide +kernel⟩, by decide⟩
theorem vX0_235 : gcv RX0 235 mX6_faultOfUse 6 1 := ⟨⟨_, rfl, rfl⟩, List.forall_mem_cons.mpr ⟨gT_in (i := 550) (by decide +kernel) rfl, List.forall_mem_cons.mpr ⟨gT_in (i := 551) (by decide +kernel) rfl, List.forall_mem_cons.mpr ⟨gT_in (i := 552) (by decide +kernel) rfl, List.forall_mem_cons.mpr ⟨gT_in (i := 63) (by decide +kernel) rfl, List.forall_mem_cons.mpr ⟨gT_in (i := 553) (by decide +kernel) rfl, fun _ h => absurd h List.not_mem_nil⟩⟩⟩⟩⟩, ⟨by decide +kernel, by decide +kernel, by decide +kernel⟩, by decide⟩
theorem vX0_238 : gcv RX0 238 mX6_got 6 1 := ⟨⟨_, rfl, rfl⟩, List.forall_mem_cons.mpr ⟨gT_in (i := 558) (by decide +kernel) rfl, List.forall_mem_cons.mpr ⟨gT_in (i := 559) (by decide +kernel) rfl, List.forall_mem_cons.mpr ⟨gT_in (i := 560) (by decide +kernel) rfl, List.forall_mem_cons.mpr ⟨gT_in (i := 63) (by decide +kernel) rfl, List.forall_mem_cons.mpr ⟨gT_in (i := 561) (by decide +kernel) rfl, fun _ h => absurd h List.not_mem_nil⟩⟩⟩⟩⟩, ⟨by decide +kernel, by decide +kernel, by decide +kernel⟩, by decide⟩
theorem sX0_241 : gcs RX0 241 mX8_divides 1 := ⟨List.forall_mem_cons.mpr ⟨gT_in (i := 475) (by decide +kernel) rfl, List.forall_mem_cons.mpr ⟨gT_in (i := 476) (by decide +kernel) rfl, List.forall_mem_cons.mpr ⟨gT_in (i := 70) (by decide +kernel) rfl, List.forall_mem_cons.mpr ⟨gT_in (i := 477) (by decide +kernel) rfl, fun _ h => absurd h List.not_mem_nil⟩⟩⟩⟩, ⟨by decide +kernel, by decide +kernel, by decide +kernel⟩, by decide⟩
theorem sX0_247 : gcs RX0 247 mX8_fine 3 := ⟨List.forall_mem_cons.mpr ⟨gT_in (i := 478) (by decide +kernel) rfl, List.forall_mem_cons.mpr ⟨gT_in (i := 479) (by decide +kernel) rfl, List.forall_mem_cons.mpr ⟨gT_in (i := 70) (by decide +kernel) rfl, List.forall_mem_cons.mpr ⟨gT_in (i := 480) (by decide +kernel) rfl, fun _ h => absurd h List.not_mem_nil⟩⟩⟩⟩, ⟨by decide +kernel, by decide +kernel, by decide +kernel⟩, by decide⟩
theorem sX0_251 : gcs RX0 251 mX8_rough 3 := ⟨List.forall_mem_cons.mpr ⟨gT_in (i := 507) (by decide +kernel) rfl, List.forall_mem_cons.mpr ⟨gT_in (i := 508) (by decide +kernel) rfl, List.forall_mem_cons.mpr ⟨gT_in (i := 70) (by decide +kernel) rfl, List.forall_mem_cons.mpr ⟨gT_in (i := 509) (by decide +kernel) rfl, fun _ h => absurd h List.not_mem_nil⟩⟩⟩⟩, ⟨by decide +kernel, by decide +kernel, by decide +kernel⟩, by decide⟩
theorem sX0_255 : gcs RX0 255 mX8_whole 3 := ⟨List.forall_mem_cons.mpr ⟨gT_in (i := 520) (by decide +kernel) rfl, List.forall_mem_cons.mpr ⟨gT_in (i := 521) (by decide +kernel) rfl, List.forall_mem_cons.mpr ⟨gT_in (i := 70) (by decide +kernel) rfl, List.forall_mem_cons.mpr ⟨gT_in (i := 522) (by decide +kernel) rfl, fun _ h => absurd h List.not_mem_nil⟩⟩⟩⟩, ⟨by decide +kernel, by decide +kernel, by decide +kernel⟩, by decide⟩
theorem sX0_259 : gcs RX0 259 mX8_wide 3 := ⟨List.forall_mem_cons.mpr ⟨gT_in (i := 527) (by decide +kernel) rfl, List.forall_mem_cons.mpr ⟨gT_in (i := 528) (by decide +kernel) rfl, List.forall_mem_cons.mpr ⟨gT_in (i := 70) (by decide +kernel) rfl, List.forall_mem_cons.mpr ⟨gT_in (i := 529) (by decide +kernel) rfl, fun _ h => absurd h List.not_mem_nil⟩⟩⟩⟩, ⟨by decide +kernel, by decide +kernel, by decide +kernel⟩, by decide⟩
theorem oX1_1 : ∀ w ∈ ([Cond.methodLink RX1 1 objectInit, Cond.instanceMethod objectInit, Cond.code objectInit ⟨#[0xb1]⟩ 1 none] : List Cond), w ∈ gT := List.forall_mem_cons.mpr ⟨gT_in (i := 299) (by decide +kernel) rfl, List.forall_mem_cons.mpr ⟨oi_inst, List.forall_mem_cons.mpr ⟨oi_code, fun _ h => absurd h List.not_mem_nil⟩⟩⟩
theorem oX2_1 : ∀ w ∈ ([Cond.methodLink RX2 1 objectInit, Cond.instanceMethod objectInit, Cond.code objectInit ⟨#[0xb1]⟩ 1 none] : List Cond), w ∈ gT := List.forall_mem_cons.mpr ⟨gT_in (i := 144) (by decide +kernel) rfl, List.forall_mem_cons.mpr ⟨oi_inst, List.forall_mem_cons.mpr ⟨oi_code, fun _ h => absurd h List.not_mem_nil⟩⟩⟩
theorem vX2_13 : gcv RX2 13 mX2_at 2 1 := ⟨⟨_, rfl, rfl⟩, List.forall_mem_cons.mpr ⟨gT_in (i := 519) (by decide +kernel) rfl, List.forall_mem_cons.mpr ⟨gT_in (i := 444) (by decide +kernel) rfl, List.forall_mem_cons.mpr ⟨gT_in (i := 445) (by decide +kernel) rfl, List.forall_mem_cons.mpr ⟨gT_in (i := 64) (by decide +kernel) rfl, List.forall_mem_cons.mpr ⟨gT_in (i := 446) (by decide +kernel) rfl, fun _ h => absurd h List.not_mem_nil⟩⟩⟩⟩⟩, ⟨by decide +kernel, by decide +kernel, by decide +kernel⟩, by decide⟩
theorem oX3_1 : ∀ w ∈ ([Cond.methodLink RX3 1 objectInit, Cond.instanceMethod objectInit, Cond.code objectInit ⟨#[0xb1]⟩ 1 none] : List Cond), w ∈ gT := List.forall_mem_cons.mpr ⟨gT_in (i := 369) (by decide +kernel) rfl, List.forall_mem_cons.mpr ⟨oi_inst, List.forall_mem_cons.mpr ⟨oi_code, fun _ h => absurd h List.not_mem_nil⟩⟩⟩
theorem sX3_28 : gcs RX3 28 mX3_weightOf 3 := ⟨List.forall_mem_cons.mpr ⟨gT_in (i := 370) (by decide +kernel) rfl, List.forall_mem_cons.mpr ⟨gT_in (i := 371) (by decide +kernel) rfl, List.forall_mem_cons.mpr ⟨gT_in (i := 69) (by decide +kernel) rfl, List.forall_mem_cons.mpr ⟨gT_in (i := 372) (by decide +kernel) rfl, fun _ h => absurd h List.not_mem_nil⟩⟩⟩⟩, ⟨by decide +kernel, by decide +kernel, by decide +kernel⟩, by decide⟩
theorem oX4_3 : ∀ w ∈ ([Cond.methodLink RX4 3 objectInit, Cond.instanceMethod objectInit, Cond.code objectInit ⟨#[0xb1]⟩ 1 none] : List Cond), w ∈ gT := List.forall_mem_cons.mpr ⟨gT_in (i := 154) (by decide +kernel) rfl, List.forall_mem_cons.mpr ⟨oi_inst, List.forall_mem_cons.mpr ⟨oi_code, fun _ h => absurd h List.not_mem_nil⟩⟩⟩
theorem oX5_1 : ∀ w ∈ ([Cond.methodLink RX5 1 objectInit, Cond.instanceMethod objectInit, Cond.code objectInit ⟨#[0xb1]⟩ 1 none] : List Cond), w ∈ gT := List.forall_mem_cons.mpr ⟨gT_in (i := 91) (by decide +kernel) rfl, List.forall_mem_cons.mpr ⟨oi_inst, List.forall_mem_cons.mpr ⟨oi_code, fun _ h => absurd h List.not_mem_nil⟩⟩⟩
theorem vX5_29 : gcv RX5 29 mX5_mayStandHere 5 1 := ⟨⟨_, rfl, rfl⟩, List.forall_mem_cons.mpr ⟨gT_in (i := 232) (by decide +kernel) rfl, List.forall_mem_cons.mpr ⟨gT_in (i := 234) (by decide +kernel) rfl, List.forall_mem_cons.mpr ⟨gT_in (i := 0) (by decide +kernel) rfl, List.forall_mem_cons.mpr ⟨gT_in (i := 62) (by decide +kernel) rfl, List.forall_mem_cons.mpr ⟨gT_in (i := 235) (by decide +kernel) rfl, fun _ h => absurd h List.not_mem_nil⟩⟩⟩⟩⟩, ⟨by decide +kernel, by decide +kernel, by decide +kernel⟩, by decide⟩
theorem iX5_33 : gci RX5 33 mX7_init 6 := ⟨List.forall_mem_cons.mpr ⟨gT_in (i := 67) (by decide +kernel) rfl, List.forall_mem_cons.mpr ⟨gT_in (i := 249) (by decide +kernel) rfl, List.forall_mem_cons.mpr ⟨gT_in (i := 250) (by decide +kernel) rfl, List.forall_mem_cons.mpr ⟨gT_in (i := 251) (by decide +kernel) rfl, fun _ h => absurd h List.not_mem_nil⟩⟩⟩⟩, ⟨by decide +kernel, by decide +kernel, by decide +kernel⟩, by decide, rfl, rfl⟩
theorem vX5_36 : gcv RX5 36 mX5_tieToBlocks 5 1 := ⟨⟨_, rfl, rfl⟩, List.forall_mem_cons.mpr ⟨gT_in (i := 290) (by decide +kernel) rfl, List.forall_mem_cons.mpr ⟨gT_in (i := 292) (by decide +kernel) rfl, List.forall_mem_cons.mpr ⟨gT_in (i := 3) (by decide +kernel) rfl, List.forall_mem_cons.mpr ⟨gT_in (i := 62) (by decide +kernel) rfl, List.forall_mem_cons.mpr ⟨gT_in (i := 293) (by decide +kernel) rfl, fun _ h => absurd h List.not_mem_nil⟩⟩⟩⟩⟩, ⟨by decide +kernel, by decide +kernel, by decide +kernel⟩, by decide⟩
theorem vX5_40 : gcv RX5 40 mX1_takesPart 1 1 := ⟨⟨_, rfl, rfl⟩, List.forall_mem_cons.mpr ⟨gT_in (i := 236) (by decide +kernel) rfl, List.forall_mem_cons.mpr ⟨gT_in (i := 237) (by decide +kernel) rfl, List.forall_mem_cons.mpr ⟨gT_in (i := 238) (by decide +kernel) rfl, List.forall_mem_cons.mpr ⟨gT_in (i := 68) (by decide +kernel) rfl, List.forall_mem_cons.mpr ⟨gT_in (i := 239) (by decide +kernel) rfl, fun _ h => absurd h List.not_mem_nil⟩⟩⟩⟩⟩, ⟨by decide +kernel, by decide +kernel, by decide +kernel⟩, by decide⟩
theorem vX5_45 : gcv RX5 45 mX5_mayLeave 5 0 := ⟨⟨_, rfl, rfl⟩, List.forall_mem_cons.mpr ⟨gT_in (i := 240) (by decide +kernel) rfl, List.forall_mem_cons.mpr ⟨gT_in (i := 242) (by decide +kernel) rfl, List.forall_mem_cons.mpr ⟨gT_in (i := 1) (by decide +kernel) rfl, List.forall_mem_cons.mpr ⟨gT_in (i := 62) (by decide +kernel) rfl, List.forall_mem_cons.mpr ⟨gT_in (i := 243) (by decide +kernel) rfl, fun _ h => absurd h List.not_mem_nil⟩⟩⟩⟩⟩, ⟨by decide +kernel, by decide +kernel, by decide +kernel⟩, by decide⟩
theorem vX5_49 : gcv RX5 49 mX5_isPartOpen 5 1 := ⟨⟨_, rfl, rfl⟩, List.forall_mem_cons.mpr ⟨gT_in (i := 244) (by decide +kernel) rfl, List.forall_mem_cons.mpr ⟨gT_in (i := 246) (by decide +kernel) rfl, List.forall_mem_cons.mpr ⟨gT_in (i := 2) (by decide +kernel) rfl, List.forall_mem_cons.mpr ⟨gT_in (i := 62) (by decide +kernel) rfl, List.forall_mem_cons.mpr ⟨gT_in (i := 247) (by decide +kernel) rfl, fun _ h => absurd h List.not_mem_nil⟩⟩⟩⟩⟩, ⟨by decide +kernel, by decide +kernel, by decide +kernel⟩, by decide⟩
theorem iX5_65 : gci RX5 65 mX1_init 2 := ⟨List.forall_mem_cons.mpr ⟨gT_in (i := 68) (by decide +kernel) rfl, List.forall_mem_cons.mpr ⟨gT_in (i := 296) (by decide +kernel) rfl, List.forall_mem_cons.mpr ⟨gT_in (i := 297) (by decide +kernel) rfl, List.forall_mem_cons.mpr ⟨gT_in (i := 298) (by decide +kernel) rfl, fun _ h => absurd h List.not_mem_nil⟩⟩⟩⟩, ⟨by decide +kernel, by decide +kernel, by decide +kernel⟩, by decide, rfl, rfl⟩
theorem vX5_68 : gcv RX5 68 mX1_beginPart 1 1 := ⟨⟨_, rfl, rfl⟩, List.forall_mem_cons.mpr ⟨gT_in (i := 316) (by decide +kernel) rfl, List.forall_mem_cons.mpr ⟨gT_in (i := 317) (by decide +kernel) rfl, List.forall_mem_cons.mpr ⟨gT_in (i := 318) (by decide +kernel) rfl, List.forall_mem_cons.mpr ⟨gT_in (i := 68) (by decide +kernel) rfl, List.forall_mem_cons.mpr ⟨gT_in (i := 319) (by decide +kernel) rfl, fun _ h => absurd h List.not_mem_nil⟩⟩⟩⟩⟩, ⟨by decide +kernel, by decide +kernel, by decide +kernel⟩, by decide⟩
theorem vX5_71 : gcv RX5 71 mX5_closeInnermost 5 1 := ⟨⟨_, rfl, rfl⟩, List.forall_mem_cons.mpr ⟨gT_in (i := 320) (by decide +kernel) rfl, List.forall_mem_cons.mpr ⟨gT_in (i := 322) (by decide +kernel) rfl, List.forall_mem_cons.mpr ⟨gT_in (i := 4) (by decide +kernel) rfl, List.forall_mem_cons.mpr ⟨gT_in (i := 62) (by decide +kernel) rfl, List.forall_mem_cons.mpr ⟨gT_in (i := 323) (by decide +kernel) rfl, fun _ h => absurd h List.not_mem_nil⟩⟩⟩⟩⟩, ⟨by decide +kernel, by decide +kernel, by decide +kernel⟩, by decide⟩
theorem oX6_1 : ∀ w ∈ ([Cond.methodLink RX6 1 objectInit, Cond.instanceMethod objectInit, Cond.code objectInit ⟨#[0xb1]⟩ 1 none] : List Cond), w ∈ gT := List.forall_mem_cons.mpr ⟨gT_in (i := 121) (by decide +kernel) rfl, List.forall_mem_cons.mpr ⟨oi_inst, List.forall_mem_cons.mpr ⟨oi_code, fun _ h => absurd h List.not_mem_nil⟩⟩⟩
theorem vX6_26 : gcv RX6 26 mX6_faultAt 6 1 := ⟨⟨_, rfl, rfl⟩, List.forall_mem_cons.mpr ⟨gT_in (i := 554) (by decide +kernel) rfl, List.forall_mem_cons.mpr ⟨gT_in (i := 555) (by decide +kernel) rfl, List.forall_mem_cons.mpr ⟨gT_in (i := 556) (by decide +kernel) rfl, List.forall_mem_cons.mpr ⟨gT_in (i := 63) (by decide +kernel) rfl, List.forall_mem_cons.mpr ⟨gT_in (i := 557) (by decide +kernel) rfl, fun _ h => absurd h List.not_mem_nil⟩⟩⟩⟩⟩, ⟨by decide +kernel, by decide +kernel, by decide +kernel⟩, by decide⟩
theorem vX6_30 : gcv RX6 30 mX6_faultOfUse 6 1 := ⟨⟨_, rfl, rfl⟩, List.forall_mem_cons.mpr ⟨gT_in (i := 562) (by decide +kernel) rfl, List.forall_mem_cons.mpr ⟨gT_in (i := 551) (by decide +kernel) rfl, List.forall_mem_cons.mpr ⟨gT_in (i := 552) (by decide +kernel) rfl, List.forall_mem_cons.mpr ⟨gT_in (i := 63) (by decide +kernel) rfl, List.forall_mem_cons.mpr ⟨gT_in (i := 553) (by decide +kernel) rfl, fun _ h => absurd h List.not_mem_nil⟩⟩⟩⟩⟩, ⟨by decide +kernel, by decide +kernel, by decide +kernel⟩, by decide⟩
theorem vX6_33 : gcv RX6 33 mX6_asHeld 6 1 := ⟨⟨_, rfl, rfl⟩, List.forall_mem_cons.mpr ⟨gT_in (i := 567) (by decide +kernel) rfl, List.forall_mem_cons.mpr ⟨gT_in (i := 569) (by decide +kernel) rfl, List.forall_mem_cons.mpr ⟨gT_in (i := 24) (by decide +kernel) rfl, List.forall_mem_cons.mpr ⟨gT_in (i := 63) (by decide +kernel) rfl, List.forall_mem_cons.mpr ⟨gT_in (i := 570) (by decide +kernel) rfl, fun _ h => absurd h List.not_mem_nil⟩⟩⟩⟩⟩, ⟨by decide +kernel, by decide +kernel, by decide +kernel⟩, by decide⟩
theorem oX7_1 : ∀ w ∈ ([Cond.methodLink RX7 1 objectInit, Cond.instanceMethod objectInit, Cond.code objectInit ⟨#[0xb1]⟩ 1 none] : List Cond), w ∈ gT := List.forall_mem_cons.mpr ⟨gT_in (i := 252) (by decide +kernel) rfl, List.forall_mem_cons.mpr ⟨oi_inst, List.forall_mem_cons.mpr ⟨oi_code, fun _ h => absurd h List.not_mem_nil⟩⟩⟩
theorem sX7_38 : gcs RX7 38 mX7_isWithin 3 := ⟨List.forall_mem_cons.mpr ⟨gT_in (i := 221) (by decide +kernel) rfl, List.forall_mem_cons.mpr ⟨gT_in (i := 222) (by decide +kernel) rfl, List.forall_mem_cons.mpr ⟨gT_in (i := 67) (by decide +kernel) rfl, List.forall_mem_cons.mpr ⟨gT_in (i := 223) (by decide +kernel) rfl, fun _ h => absurd h List.not_mem_nil⟩⟩⟩⟩, ⟨by decide +kernel, by decide +kernel, by decide +kernel⟩, by decide⟩
theorem sX7_52 : gcs RX7 52 mX3_isUnder 2 := ⟨List.forall_mem_cons.mpr ⟨gT_in (i := 422) (by decide +kernel) rfl, List.forall_mem_cons.mpr ⟨gT_in (i := 423) (by decide +kernel) rfl, List.forall_mem_cons.mpr ⟨gT_in (i := 69) (by decide +kernel) rfl, List.forall_mem_cons.mpr ⟨gT_in (i := 424) (by decide +kernel) rfl, fun _ h => absurd h List.not_mem_nil⟩⟩⟩⟩, ⟨by decide +kernel, by decide +kernel, by decide +kernel⟩, by decide⟩
theorem sX8_9 : gcs RX8 9 mX8_rest 2 := ⟨List.forall_mem_cons.mpr ⟨gT_in (i := 481) (by decide +kernel) rfl, List.forall_mem_cons.mpr ⟨gT_in (i := 482) (by decide +kernel) rfl, List.forall_mem_cons.mpr ⟨gT_in (i := 70) (by decide +kernel) rfl, List.forall_mem_cons.mpr ⟨gT_in (i := 483) (by decide +kernel) rfl, fun _ h => absurd h List.not_mem_nil⟩⟩⟩⟩, ⟨by decide +kernel, by decide +kernel, by decide +kernel⟩, by decide⟩
theorem sX8_13 : gcs RX8 13 mX8_isLess 2 := ⟨List.forall_mem_cons.mpr ⟨gT_in (i := 485) (by decide +kernel) rfl, List.forall_mem_cons.mpr ⟨gT_in (i := 486) (by decide +kernel) rfl, List.forall_mem_cons.mpr ⟨gT_in (i := 70) (by decide +kernel) rfl, List.forall_mem_cons.mpr ⟨gT_in (i := 487) (by decide +kernel) rfl, fun _ h => absurd h List.not_mem_nil⟩⟩⟩⟩, ⟨by decide +kernel, by decide +kernel, by decide +kernel⟩, by decide⟩
theorem sX8_17 : gcs RX8 17 mX8_withSign 2 := ⟨List.forall_mem_cons.mpr ⟨gT_in (i := 491) (by decide +kernel) rfl, List.forall_mem_cons.mpr ⟨gT_in (i := 492) (by decide +kernel) rfl, List.forall_mem_cons.mpr ⟨gT_in (i := 70) (by decide +kernel) rfl, List.forall_mem_cons.mpr ⟨gT_in (i := 493) (by decide +kernel) rfl, fun _ h => absurd h List.not_mem_nil⟩⟩⟩⟩, ⟨by decide +kernel, by decide +kernel, by decide +kernel⟩, by decide⟩
theorem sX8_20 : gcs RX8 20 mX8_wholeBelow 1 := ⟨List.forall_mem_cons.mpr ⟨gT_in (i := 494) (by decide +kernel) rfl, List.forall_mem_cons.mpr ⟨gT_in (i := 495) (by decide +kernel) rfl, List.forall_mem_cons.mpr ⟨gT_in (i := 70) (by decide +kernel) rfl, List.forall_mem_cons.mpr ⟨gT_in (i := 496) (by decide +kernel) rfl, fun _ h => absurd h List.not_mem_nil⟩⟩⟩⟩, ⟨by decide +kernel, by decide +kernel, by decide +kernel⟩, by decide⟩
theorem sX8_24 : gcs RX8 24 mX8_nearestWhole 1 := ⟨List.forall_mem_cons.mpr ⟨gT_in (i := 497) (by decide +kernel) rfl, List.forall_mem_cons.mpr ⟨gT_in (i := 498) (by decide +kernel) rfl, List.forall_mem_cons.mpr ⟨gT_in (i := 70) (by decide +kernel) rfl, List.forall_mem_cons.mpr ⟨gT_in (i := 499) (by decide +kernel) rfl, fun _ h => absurd h List.not_mem_nil⟩⟩⟩⟩, ⟨by decide +kernel, by decide +kernel, by decide +kernel⟩, by decide⟩
theorem sX8_29 : gcs RX8 29 mX8_fine 3 := ⟨List.forall_mem_cons.mpr ⟨gT_in (i := 510) (by decide +kernel) rfl, List.forall_mem_cons.mpr ⟨gT_in (i := 479) (by decide +kernel) rfl, List.forall_mem_cons.mpr ⟨gT_in (i := 70) (by decide +kernel) rfl, List.forall_mem_cons.mpr ⟨gT_in (i := 480) (by decide +kernel) rfl, fun _ h => absurd h List.not_mem_nil⟩⟩⟩⟩, ⟨by decide +kernel, by decide +kernel, by decide +kernel⟩, by decide⟩
theorem sX8_33 : gcs RX8 33 mX8_hasMinus 1 := ⟨List.forall_mem_cons.mpr ⟨gT_in (i := 488) (by decide +kernel) rfl, List.forall_mem_cons.mpr ⟨gT_in (i := 489) (by decide +kernel) rfl, List.forall_mem_cons.mpr ⟨gT_in (i := 70) (by decide +kernel) rfl, List.forall_mem_cons.mpr ⟨gT_in (i := 490) (by decide +kernel) rfl, fun _ h => absurd h List.not_mem_nil⟩⟩⟩⟩, ⟨by decide +kernel, by decide +kernel, by decide +kernel⟩, by decide⟩
theorem iL_9 : gci RL 9 mX9_init 0 := ⟨List.forall_mem_cons.mpr ⟨gT_in (i := 60) (by decide +kernel) rfl, List.forall_mem_cons.mpr ⟨gT_in (i := 74) (by decide +kernel) rfl, List.forall_mem_cons.mpr ⟨gT_in (i := 75) (by decide +kernel) rfl, List.forall_mem_cons.mpr ⟨gT_in (i := 76) (by decide +kernel) rfl, fun _ h => absurd h List.not_mem_nil⟩⟩⟩⟩, ⟨by decide +kernel, by decide +kernel, by decide +kernel⟩, by decide, rfl, rfl⟩
theorem iL_12 : gci RL 12 mX10_init 0 := ⟨List.forall_mem_cons.mpr ⟨gT_in (i := 66) (by decide +kernel) rfl, List.forall_mem_cons.mpr ⟨gT_in (i := 624) (by decide +kernel) rfl, List.forall_mem_cons.mpr ⟨gT_in (i := 625) (by decide +kernel) rfl, List.forall_mem_cons.mpr ⟨gT_in (i := 626) (by decide +kernel) rfl, fun _ h => absurd h List.not_mem_nil⟩⟩⟩⟩, ⟨by decide +kernel, by decide +kernel, by decide +kernel⟩, by decide, rfl, rfl⟩
theorem vL_13 : gcv RL 13 mX9_choose 8 1 := ⟨⟨_, rfl, rfl⟩, List.forall_mem_cons.mpr ⟨gT_in (i := 202) (by decide +kernel) rfl, List.forall_mem_cons.mpr ⟨gT_in (i := 203) (by decide +kernel) rfl, List.forall_mem_cons.mpr ⟨gT_in (i := 204) (by decide +kernel) rfl, List.forall_mem_cons.mpr ⟨gT_in (i := 60) (by decide +kernel) rfl, List.forall_mem_cons.mpr ⟨gT_in (i := 205) (by decide +kernel) rfl, fun _ h => absurd h List.not_mem_nil⟩⟩⟩⟩⟩, ⟨by decide +kernel, by decide +kernel, by decide +kernel⟩, by decide⟩
theorem vL_17 : gcv RL 17 mX10_choose 9 1 := ⟨⟨_, rfl, rfl⟩, List.forall_mem_cons.mpr ⟨gT_in (i := 750) (by decide +kernel) rfl, List.forall_mem_cons.mpr ⟨gT_in (i := 751) (by decide +kernel) rfl, List.forall_mem_cons.mpr ⟨gT_in (i := 752) (by decide +kernel) rfl, List.forall_mem_cons.mpr ⟨gT_in (i := 66) (by decide +kernel) rfl, List.forall_mem_cons.mpr ⟨gT_in (i := 753) (by decide +kernel) rfl, fun _ h => absurd h List.not_mem_nil⟩⟩⟩⟩⟩, ⟨by decide +kernel, by decide +kernel, by decide +kernel⟩, by decide⟩
theorem vL_18 : gcv RL 18 mX9_step 8 4 := ⟨⟨_, rfl, rfl⟩, List.forall_mem_cons.mpr ⟨gT_in (i := 210) (by decide +kernel) rfl, List.forall_mem_cons.mpr ⟨gT_in (i := 211) (by decide +kernel) rfl, List.forall_mem_cons.mpr ⟨gT_in (i := 212) (by decide +kernel) rfl, List.forall_mem_cons.mpr ⟨gT_in (i := 60) (by decide +kernel) rfl, List.forall_mem_cons.mpr ⟨gT_in (i := 213) (by decide +kernel) rfl, fun _ h => absurd h List.not_mem_nil⟩⟩⟩⟩⟩, ⟨by decide +kernel, by decide +kernel, by decide +kernel⟩, by decide⟩
theorem vL_22 : gcv RL 22 mX10_step 9 4 := ⟨⟨_, rfl, rfl⟩, List.forall_mem_cons.mpr ⟨gT_in (i := 757) (by decide +kernel) rfl, List.forall_mem_cons.mpr ⟨gT_in (i := 758) (by decide +kernel) rfl, List.forall_mem_cons.mpr ⟨gT_in (i := 759) (by decide +kernel) rfl, List.forall_mem_cons.mpr ⟨gT_in (i := 66) (by decide +kernel) rfl, List.forall_mem_cons.mpr ⟨gT_in (i := 760) (by decide +kernel) rfl, fun _ h => absurd h List.not_mem_nil⟩⟩⟩⟩⟩, ⟨by decide +kernel, by decide +kernel, by decide +kernel⟩, by decide⟩
theorem vL_23 : gcv RL 23 mX9_clear 8 0 := ⟨⟨_, rfl, rfl⟩, List.forall_mem_cons.mpr ⟨gT_in (i := 324) (by decide +kernel) rfl, List.forall_mem_cons.mpr ⟨gT_in (i := 325) (by decide +kernel) rfl, List.forall_mem_cons.mpr ⟨gT_in (i := 326) (by decide +kernel) rfl, List.forall_mem_cons.mpr ⟨gT_in (i := 60) (by decide +kernel) rfl, List.forall_mem_cons.mpr ⟨gT_in (i := 327) (by decide +kernel) rfl, fun _ h => absurd h List.not_mem_nil⟩⟩⟩⟩⟩, ⟨by decide +kernel, by decide +kernel, by decide +kernel⟩, by decide⟩
theorem vL_27 : gcv RL 27 mX10_clear 9 0 := ⟨⟨_, rfl, rfl⟩, List.forall_mem_cons.mpr ⟨gT_in (i := 785) (by decide +kernel) rfl, List.forall_mem_cons.mpr ⟨gT_in (i := 786) (by decide +kernel) rfl, List.forall_mem_cons.mpr ⟨gT_in (i := 787) (by decide +kernel) rfl, List.forall_mem_cons.mpr ⟨gT_in (i := 66) (by decide +kernel) rfl, List.forall_mem_cons.mpr ⟨gT_in (i := 788) (by decide +kernel) rfl, fun _ h => absurd h List.not_mem_nil⟩⟩⟩⟩⟩, ⟨by decide +kernel, by decide +kernel, by decide +kernel⟩, by decide⟩
theorem vL_28 : gcv RL 28 mX9_run 8 0 := ⟨⟨_, rfl, rfl⟩, List.forall_mem_cons.mpr ⟨gT_in (i := 332) (by decide +kernel) rfl, List.forall_mem_cons.mpr ⟨gT_in (i := 333) (by decide +kernel) rfl, List.forall_mem_cons.mpr ⟨gT_in (i := 334) (by decide +kernel) rfl, List.forall_mem_cons.mpr ⟨gT_in (i := 60) (by decide +kernel) rfl, List.forall_mem_cons.mpr ⟨gT_in (i := 335) (by decide +kernel) rfl, fun _ h => absurd h List.not_mem_nil⟩⟩⟩⟩⟩, ⟨by decide +kernel, by decide +kernel, by decide +kernel⟩, by decide⟩
theorem vL_31 : gcv RL 31 mX10_run 9 0 := ⟨⟨_, rfl, rfl⟩, List.forall_mem_cons.mpr ⟨gT_in (i := 789) (by decide +kernel) rfl, List.forall_mem_cons.mpr ⟨gT_in (i := 790) (by decide +kernel) rfl, List.forall_mem_cons.mpr ⟨gT_in (i := 791) (by decide +kernel) rfl, List.forall_mem_cons.mpr ⟨gT_in (i := 66) (by decide +kernel) rfl, List.forall_mem_cons.mpr ⟨gT_in (i := 792) (by decide +kernel) rfl, fun _ h => absurd h List.not_mem_nil⟩⟩⟩⟩⟩, ⟨by decide +kernel, by decide +kernel, by decide +kernel⟩, by decide⟩
theorem vL_32 : gcv RL 32 mX9_dial 8 1 := ⟨⟨_, rfl, rfl⟩, List.forall_mem_cons.mpr ⟨gT_in (i := 578) (by decide +kernel) rfl, List.forall_mem_cons.mpr ⟨gT_in (i := 579) (by decide +kernel) rfl, List.forall_mem_cons.mpr ⟨gT_in (i := 580) (by decide +kernel) rfl, List.forall_mem_cons.mpr ⟨gT_in (i := 60) (by decide +kernel) rfl, List.forall_mem_cons.mpr ⟨gT_in (i := 581) (by decide +kernel) rfl, fun _ h => absurd h List.not_mem_nil⟩⟩⟩⟩⟩, ⟨by decide +kernel, by decide +kernel, by decide +kernel⟩, by decide⟩
theorem vL_36 : gcv RL 36 mX10_dial 9 1 := ⟨⟨_, rfl, rfl⟩, List.forall_mem_cons.mpr ⟨gT_in (i := 951) (by decide +kernel) rfl, List.forall_mem_cons.mpr ⟨gT_in (i := 952) (by decide +kernel) rfl, List.forall_mem_cons.mpr ⟨gT_in (i := 953) (by decide +kernel) rfl, List.forall_mem_cons.mpr ⟨gT_in (i := 66) (by decide +kernel) rfl, List.forall_mem_cons.mpr ⟨gT_in (i := 954) (by decide +kernel) rfl, fun _ h => absurd h List.not_mem_nil⟩⟩⟩⟩⟩, ⟨by decide +kernel, by decide +kernel, by decide +kernel⟩, by decide⟩
theorem vL_37 : gcv RL 37 mX9_size 8 1 := ⟨⟨_, rfl, rfl⟩, List.forall_mem_cons.mpr ⟨gT_in (i := 583) (by decide +kernel) rfl, List.forall_mem_cons.mpr ⟨gT_in (i := 584) (by decide +kernel) rfl, List.forall_mem_cons.mpr ⟨gT_in (i := 585) (by decide +kernel) rfl, List.forall_mem_cons.mpr ⟨gT_in (i := 60) (by decide +kernel) rfl, List.forall_mem_cons.mpr ⟨gT_in (i := 586) (by decide +kernel) rfl, fun _ h => absurd h List.not_mem_nil⟩⟩⟩⟩⟩, ⟨by decide +kernel, by decide +kernel, by decide +kernel⟩, by decide⟩
theorem vL_40 : gcv RL 40 mX10_size 9 1 := ⟨⟨_, rfl, rfl⟩, List.forall_mem_cons.mpr ⟨gT_in (i := 955) (by decide +kernel) rfl, List.forall_mem_cons.mpr ⟨gT_in (i := 956) (by decide +kernel) rfl, List.forall_mem_cons.mpr ⟨gT_in (i := 957) (by decide +kernel) rfl, List.forall_mem_cons.mpr ⟨gT_in (i := 66) (by decide +kernel) rfl, List.forall_mem_cons.mpr ⟨gT_in (i := 958) (by decide +kernel) rfl, fun _ h => absurd h List.not_mem_nil⟩⟩⟩⟩⟩, ⟨by decide +kernel, by decide +kernel, by decide +kernel⟩, by decide⟩
theorem vL_41 : gcv RL 41 mX9_value 8 2 := ⟨⟨_, rfl, rfl⟩, List.forall_mem_cons.mpr ⟨gT_in (i := 588) (by decide +kernel) rfl, List.forall_mem_cons.mpr ⟨gT_in (i := 589) (by decide +kernel) rfl, List.forall_mem_cons.mpr ⟨gT_in (i := 590) (by decide +kernel) rfl, List.forall_mem_cons.mpr ⟨gT_in (i := 60) (by decide +kernel) rfl, List.forall_mem_cons.mpr ⟨gT_in (i := 591) (by decide +kernel) rfl, fun _ h => absurd h List.not_mem_nil⟩⟩⟩⟩⟩, ⟨by decide +kernel, by decide +kernel, by decide +kernel⟩, by decide⟩
theorem vL_45 : gcv RL 45 mX10_value 9 2 := ⟨⟨_, rfl, rfl⟩, List.forall_mem_cons.mpr ⟨gT_in (i := 959) (by decide +kernel) rfl, List.forall_mem_cons.mpr ⟨gT_in (i := 960) (by decide +kernel) rfl, List.forall_mem_cons.mpr ⟨gT_in (i := 961) (by decide +kernel) rfl, List.forall_mem_cons.mpr ⟨gT_in (i := 66) (by decide +kernel) rfl, List.forall_mem_cons.mpr ⟨gT_in (i := 962) (by decide +kernel) rfl, fun _ h => absurd h List.not_mem_nil⟩⟩⟩⟩⟩, ⟨by decide +kernel, by decide +kernel, by decide +kernel⟩, by decide⟩
theorem vL_46 : gcv RL 46 mX9_isFitted 8 2 := ⟨⟨_, rfl, rfl⟩, List.forall_mem_cons.mpr ⟨gT_in (i := 593) (by decide +kernel) rfl, List.forall_mem_cons.mpr ⟨gT_in (i := 594) (by decide +kernel) rfl, List.forall_mem_cons.mpr ⟨gT_in (i := 595) (by decide +kernel) rfl, List.forall_mem_cons.mpr ⟨gT_in (i := 60) (by decide +kernel) rfl, List.forall_mem_cons.mpr ⟨gT_in (i := 596) (by decide +kernel) rfl, fun _ h => absurd h List.not_mem_nil⟩⟩⟩⟩⟩, ⟨by decide +kernel, by decide +kernel, by decide +kernel⟩, by decide⟩
theorem vL_50 : gcv RL 50 mX10_isFitted 9 2 := ⟨⟨_, rfl, rfl⟩, List.forall_mem_cons.mpr ⟨gT_in (i := 963) (by decide +kernel) rfl, List.forall_mem_cons.mpr ⟨gT_in (i := 964) (by decide +kernel) rfl, List.forall_mem_cons.mpr ⟨gT_in (i := 965) (by decide +kernel) rfl, List.forall_mem_cons.mpr ⟨gT_in (i := 66) (by decide +kernel) rfl, List.forall_mem_cons.mpr ⟨gT_in (i := 966) (by decide +kernel) rfl, fun _ h => absurd h List.not_mem_nil⟩⟩⟩⟩⟩, ⟨by decide +kernel, by decide +kernel, by decide +kernel⟩, by decide⟩
theorem vL_51 : gcv RL 51 mX9_log 8 1 := ⟨⟨_, rfl, rfl⟩, List.forall_mem_cons.mpr ⟨gT_in (i := 601) (by decide +kernel) rfl, List.forall_mem_cons.mpr ⟨gT_in (i := 602) (by decide +kernel) rfl, List.forall_mem_cons.mpr ⟨gT_in (i := 603) (by decide +kernel) rfl, List.forall_mem_cons.mpr ⟨gT_in (i := 60) (by decide +kernel) rfl, List.forall_mem_cons.mpr ⟨gT_in (i := 604) (by decide +kernel) rfl, fun _ h => absurd h List.not_mem_nil⟩⟩⟩⟩⟩, ⟨by decide +kernel, by decide +kernel, by decide +kernel⟩, by decide⟩
theorem vL_54 : gcv RL 54 mX10_log 9 1 := ⟨⟨_, rfl, rfl⟩, List.forall_mem_cons.mpr ⟨gT_in (i := 967) (by decide +kernel) rfl, List.forall_mem_cons.mpr ⟨gT_in (i := 968) (by decide +kernel) rfl, List.forall_mem_cons.mpr ⟨gT_in (i := 969) (by decide +kernel) rfl, List.forall_mem_cons.mpr ⟨gT_in (i := 66) (by decide +kernel) rfl, List.forall_mem_cons.mpr ⟨gT_in (i := 970) (by decide +kernel) rfl, fun _ h => absurd h List.not_mem_nil⟩⟩⟩⟩⟩, ⟨by decide +kernel, by decide +kernel, by decide +kernel⟩, by decide⟩
theorem vL_55 : gcv RL 55 mX9_isMinus 8 1 := ⟨⟨_, rfl, rfl⟩, List.forall_mem_cons.mpr ⟨gT_in (i := 609) (by decide +kernel) rfl, List.forall_mem_cons.mpr ⟨gT_in (i := 610) (by decide +kernel) rfl, List.forall_mem_cons.mpr ⟨gT_in (i := 611) (by decide +kernel) rfl, List.forall_mem_cons.mpr ⟨gT_in (i := 60) (by decide +kernel) rfl, List.forall_mem_cons.mpr ⟨gT_in (i := 612) (by decide +kernel) rfl, fun _ h => absurd h List.not_mem_nil⟩⟩⟩⟩⟩, ⟨by decide +kernel, by decide +kernel, by decide +kernel⟩, by decide⟩
theorem vL_59 : gcv RL 59 mX10_isMinus 9 1 := ⟨⟨_, rfl, rfl⟩, List.forall_mem_cons.mpr ⟨gT_in (i := 971) (by decide +kernel) rfl, List.forall_mem_cons.mpr ⟨gT_in (i := 972) (by decide +kernel) rfl, List.forall_mem_cons.mpr ⟨gT_in (i := 973) (by decide +kernel) rfl, List.forall_mem_cons.mpr ⟨gT_in (i := 66) (by decide +kernel) rfl, List.forall_mem_cons.mpr ⟨gT_in (i := 974) (by decide +kernel) rfl, fun _ h => absurd h List.not_mem_nil⟩⟩⟩⟩⟩, ⟨by decide +kernel, by decide +kernel, by decide +kernel⟩, by decide⟩
theorem vL_60 : gcv RL 60 mX9_count 8 1 := ⟨⟨_, rfl, rfl⟩, List.forall_mem_cons.mpr ⟨gT_in (i := 614) (by decide +kernel) rfl, List.forall_mem_cons.mpr ⟨gT_in (i := 615) (by decide +kernel) rfl, List.forall_mem_cons.mpr ⟨gT_in (i := 616) (by decide +kernel) rfl, List.forall_mem_cons.mpr ⟨gT_in (i := 60) (by decide +kernel) rfl, List.forall_mem_cons.mpr ⟨gT_in (i := 617) (by decide +kernel) rfl, fun _ h => absurd h List.not_mem_nil⟩⟩⟩⟩⟩, ⟨by decide +kernel, by decide +kernel, by decide +kernel⟩, by decide⟩
theorem vL_63 : gcv RL 63 mX10_count 9 1 := ⟨⟨_, rfl, rfl⟩, List.forall_mem_cons.mpr ⟨gT_in (i := 975) (by decide +kernel) rfl, List.forall_mem_cons.mpr ⟨gT_in (i := 976) (by decide +kernel) rfl, List.forall_mem_cons.mpr ⟨gT_in (i := 977) (by decide +kernel) rfl, List.forall_mem_cons.mpr ⟨gT_in (i := 66) (by decide +kernel) rfl, List.forall_mem_cons.mpr ⟨gT_in (i := 978) (by decide +kernel) rfl, fun _ h => absurd h List.not_mem_nil⟩⟩⟩⟩⟩, ⟨by decide +kernel, by decide +kernel, by decide +kernel⟩, by decide⟩
theorem vL_64 : gcv RL 64 mX9_fault 8 1 := ⟨⟨_, rfl, rfl⟩, List.forall_mem_cons.mpr ⟨gT_in (i := 618) (by decide +kernel) rfl, List.forall_mem_cons.mpr ⟨gT_in (i := 619) (by decide +kernel) rfl, List.forall_mem_cons.mpr ⟨gT_in (i := 620) (by decide +kernel) rfl, List.forall_mem_cons.mpr ⟨gT_in (i := 60) (by decide +kernel) rfl, List.forall_mem_cons.mpr ⟨gT_in (i := 621) (by decide +kernel) rfl, fun _ h => absurd h List.not_mem_nil⟩⟩⟩⟩⟩, ⟨by decide +kernel, by decide +kernel, by decide +kernel⟩, by decide⟩
theorem vL_67 : gcv RL 67 mX10_fault 9 1 := ⟨⟨_, rfl, rfl⟩, List.forall_mem_cons.mpr ⟨gT_in (i := 979) (by decide +kernel) rfl, List.forall_mem_cons.mpr ⟨gT_in (i := 980) (by decide +kernel) rfl, List.forall_mem_cons.mpr ⟨gT_in (i := 981) (by decide +kernel) rfl, List.forall_mem_cons.mpr ⟨gT_in (i := 66) (by decide +kernel) rfl, List.forall_mem_cons.mpr ⟨gT_in (i := 982) (by decide +kernel) rfl, fun _ h => absurd h List.not_mem_nil⟩⟩⟩⟩⟩, ⟨by decide +kernel, by decide +kernel, by decide +kernel⟩, by decide⟩
theorem oX10_1 : ∀ w ∈ ([Cond.methodLink RX10 1 objectInit, Cond.instanceMethod objectInit, Cond.code objectInit ⟨#[0xb1]⟩ 1 none] : List Cond), w ∈ gT := List.forall_mem_cons.mpr ⟨gT_in (i := 627) (by decide +kernel) rfl, List.forall_mem_cons.mpr ⟨oi_inst, List.forall_mem_cons.mpr ⟨oi_code, fun _ h => absurd h List.not_mem_nil⟩⟩⟩
theorem sX10_100 : gcs RX10 100 mX10_isIn 3 := ⟨List.forall_mem_cons.mpr ⟨gT_in (i := 754) (by decide +kernel) rfl, List.forall_mem_cons.mpr ⟨gT_in (i := 755) (by decide +kernel) rfl, List.forall_mem_cons.mpr ⟨gT_in (i := 66) (by decide +kernel) rfl, List.forall_mem_cons.mpr ⟨gT_in (i := 756) (by decide +kernel) rfl, fun _ h => absurd h List.not_mem_nil⟩⟩⟩⟩, ⟨by decide +kernel, by decide +kernel, by decide +kernel⟩, by decide⟩
theorem sX10_107 : gcs RX10 107 mX10_isDial 1 := ⟨List.forall_mem_cons.mpr ⟨gT_in (i := 764) (by decide +kernel) rfl, List.forall_mem_cons.mpr ⟨gT_in (i := 765) (by decide +kernel) rfl, List.forall_mem_cons.mpr ⟨gT_in (i := 66) (by decide +kernel) rfl, List.forall_mem_cons.mpr ⟨gT_in (i := 766) (by decide +kernel) rfl, fun _ h => absurd h List.not_mem_nil⟩⟩⟩⟩, ⟨by decide +kernel, by decide +kernel, by decide +kernel⟩, by decide⟩
theorem sX10_111 : gcs RX10 111 mX10_isRow 1 := ⟨List.forall_mem_cons.mpr ⟨gT_in (i := 767) (by decide +kernel) rfl, List.forall_mem_cons.mpr ⟨gT_in (i := 768) (by decide +kernel) rfl, List.forall_mem_cons.mpr ⟨gT_in (i := 66) (by decide +kernel) rfl, List.forall_mem_cons.mpr ⟨gT_in (i := 769) (by decide +kernel) rfl, fun _ h => absurd h List.not_mem_nil⟩⟩⟩⟩, ⟨by decide +kernel, by decide +kernel, by decide +kernel⟩, by decide⟩
theorem vX10_114 : gcv RX10 114 mX10_partAt 9 1 := ⟨⟨_, rfl, rfl⟩, List.forall_mem_cons.mpr ⟨gT_in (i := 777) (by decide +kernel) rfl, List.forall_mem_cons.mpr ⟨gT_in (i := 779) (by decide +kernel) rfl, List.forall_mem_cons.mpr ⟨gT_in (i := 26) (by decide +kernel) rfl, List.forall_mem_cons.mpr ⟨gT_in (i := 66) (by decide +kernel) rfl, List.forall_mem_cons.mpr ⟨gT_in (i := 780) (by decide +kernel) rfl, fun _ h => absurd h List.not_mem_nil⟩⟩⟩⟩⟩, ⟨by decide +kernel, by decide +kernel, by decide +kernel⟩, by decide⟩
theorem sX10_118 : gcs RX10 118 mX10_isBlock 1 := ⟨List.forall_mem_cons.mpr ⟨gT_in (i := 774) (by decide +kernel) rfl, List.forall_mem_cons.mpr ⟨gT_in (i := 775) (by decide +kernel) rfl, List.forall_mem_cons.mpr ⟨gT_in (i := 66) (by decide +kernel) rfl, List.forall_mem_cons.mpr ⟨gT_in (i := 776) (by decide +kernel) rfl, fun _ h => absurd h List.not_mem_nil⟩⟩⟩⟩, ⟨by decide +kernel, by decide +kernel, by decide +kernel⟩, by decide⟩
theorem vX10_121 : gcv RX10 121 mX10_isPartOpen 9 2 := ⟨⟨_, rfl, rfl⟩, List.forall_mem_cons.mpr ⟨gT_in (i := 781) (by decide +kernel) rfl, List.forall_mem_cons.mpr ⟨gT_in (i := 783) (by decide +kernel) rfl, List.forall_mem_cons.mpr ⟨gT_in (i := 27) (by decide +kernel) rfl, List.forall_mem_cons.mpr ⟨gT_in (i := 66) (by decide +kernel) rfl, List.forall_mem_cons.mpr ⟨gT_in (i := 784) (by decide +kernel) rfl, fun _ h => absurd h List.not_mem_nil⟩⟩⟩⟩⟩, ⟨by decide +kernel, by decide +kernel, by decide +kernel⟩, by decide⟩
theorem sX10_125 : gcs RX10 125 mX10_areTold 4 := ⟨List.forall_mem_cons.mpr ⟨gT_in (i := 761) (by decide +kernel) rfl, List.forall_mem_cons.mpr ⟨gT_in (i := 762) (by decide +kernel) rfl, List.forall_mem_cons.mpr ⟨gT_in (i := 66) (by decide +kernel) rfl, List.forall_mem_cons.mpr ⟨gT_in (i := 763) (by decide +kernel) rfl, fun _ h => absurd h List.not_mem_nil⟩⟩⟩⟩, ⟨by decide +kernel, by decide +kernel, by decide +kernel⟩, by decide⟩
theorem vX10_129 : gcv RX10 129 mX10_mayStand 9 1 := ⟨⟨_, rfl, rfl⟩, List.forall_mem_cons.mpr ⟨gT_in (i := 770) (by decide +kernel) rfl, List.forall_mem_cons.mpr ⟨gT_in (i := 772) (by decide +kernel) rfl, List.forall_mem_cons.mpr ⟨gT_in (i := 25) (by decide +kernel) rfl, List.forall_mem_cons.mpr ⟨gT_in (i := 66) (by decide +kernel) rfl, List.forall_mem_cons.mpr ⟨gT_in (i := 773) (by decide +kernel) rfl, fun _ h => absurd h List.not_mem_nil⟩⟩⟩⟩⟩, ⟨by decide +kernel, by decide +kernel, by decide +kernel⟩, by decide⟩
theorem vX10_144 : gcv RX10 144 mX10_throwNew 9 4 := ⟨⟨_, rfl, rfl⟩, List.forall_mem_cons.mpr ⟨gT_in (i := 826) (by decide +kernel) rfl, List.forall_mem_cons.mpr ⟨gT_in (i := 828) (by decide +kernel) rfl, List.forall_mem_cons.mpr ⟨gT_in (i := 36) (by decide +kernel) rfl, List.forall_mem_cons.mpr ⟨gT_in (i := 66) (by decide +kernel) rfl, List.forall_mem_cons.mpr ⟨gT_in (i := 829) (by decide +kernel) rfl, fun _ h => absurd h List.not_mem_nil⟩⟩⟩⟩⟩, ⟨by decide +kernel, by decide +kernel, by decide +kernel⟩, by decide⟩
theorem vX10_148 : gcv RX10 148 mX10_below 9 2 := ⟨⟨_, rfl, rfl⟩, List.forall_mem_cons.mpr ⟨gT_in (i := 862) (by decide +kernel) rfl, List.forall_mem_cons.mpr ⟨gT_in (i := 864) (by decide +kernel) rfl, List.forall_mem_cons.mpr ⟨gT_in (i := 45) (by decide +kernel) rfl, List.forall_mem_cons.mpr ⟨gT_in (i := 66) (by decide +kernel) rfl, List.forall_mem_cons.mpr ⟨gT_in (i := 865) (by decide +kernel) rfl, fun _ h => absurd h List.not_mem_nil⟩⟩⟩⟩⟩, ⟨by decide +kernel, by decide +kernel, by decide +kernel⟩, by decide⟩
theorem sX10_152 : gcs RX10 152 mX10_weighed 3 := ⟨List.forall_mem_cons.mpr ⟨gT_in (i := 866) (by decide +kernel) rfl, List.forall_mem_cons.mpr ⟨gT_in (i := 867) (by decide +kernel) rfl, List.forall_mem_cons.mpr ⟨gT_in (i := 66) (by decide +kernel) rfl, List.forall_mem_cons.mpr ⟨gT_in (i := 868) (by decide +kernel) rfl, fun _ h => absurd h List.not_mem_nil⟩⟩⟩⟩, ⟨by decide +kernel, by decide +kernel, by decide +kernel⟩, by decide⟩
theorem vX10_159 : gcv RX10 159 mX10_push 9 3 := ⟨⟨_, rfl, rfl⟩, List.forall_mem_cons.mpr ⟨gT_in (i := 797) (by decide +kernel) rfl, List.forall_mem_cons.mpr ⟨gT_in (i := 799) (by decide +kernel) rfl, List.forall_mem_cons.mpr ⟨gT_in (i := 29) (by decide +kernel) rfl, List.forall_mem_cons.mpr ⟨gT_in (i := 66) (by decide +kernel) rfl, List.forall_mem_cons.mpr ⟨gT_in (i := 800) (by decide +kernel) rfl, fun _ h => absurd h List.not_mem_nil⟩⟩⟩⟩⟩, ⟨by decide +kernel, by decide +kernel, by decide +kernel⟩, by decide⟩
theorem vX10_169 : gcv RX10 169 mX10_isUnder 9 2 := ⟨⟨_, rfl, rfl⟩, List.forall_mem_cons.mpr ⟨gT_in (i := 947) (by decide +kernel) rfl, List.forall_mem_cons.mpr ⟨gT_in (i := 949) (by decide +kernel) rfl, List.forall_mem_cons.mpr ⟨gT_in (i := 58) (by decide +kernel) rfl, List.forall_mem_cons.mpr ⟨gT_in (i := 66) (by decide +kernel) rfl, List.forall_mem_cons.mpr ⟨gT_in (i := 950) (by decide +kernel) rfl, fun _ h => absurd h List.not_mem_nil⟩⟩⟩⟩⟩, ⟨by decide +kernel, by decide +kernel, by decide +kernel⟩, by decide⟩
theorem vX10_172 : gcv RX10 172 mX10_lastPart 9 0 := ⟨⟨_, rfl, rfl⟩, List.forall_mem_cons.mpr ⟨gT_in (i := 830) (by decide +kernel) rfl, List.forall_mem_cons.mpr ⟨gT_in (i := 832) (by decide +kernel) rfl, List.forall_mem_cons.mpr ⟨gT_in (i := 37) (by decide +kernel) rfl, List.forall_mem_cons.mpr ⟨gT_in (i := 66) (by decide +kernel) rfl, List.forall_mem_cons.mpr ⟨gT_in (i := 833) (by decide +kernel) rfl, fun _ h => absurd h List.not_mem_nil⟩⟩⟩⟩⟩, ⟨by decide +kernel, by decide +kernel, by decide +kernel⟩, by decide⟩
theorem vX10_178 : gcv RX10 178 mX10_over 9 0 := ⟨⟨_, rfl, rfl⟩, List.forall_mem_cons.mpr ⟨gT_in (i := 806) (by decide +kernel) rfl, List.forall_mem_cons.mpr ⟨gT_in (i := 808) (by decide +kernel) rfl, List.forall_mem_cons.mpr ⟨gT_in (i := 31) (by decide +kernel) rfl, List.forall_mem_cons.mpr ⟨gT_in (i := 66) (by decide +kernel) rfl, List.forall_mem_cons.mpr ⟨gT_in (i := 809) (by decide +kernel) rfl, fun _ h => absurd h List.not_mem_nil⟩⟩⟩⟩⟩, ⟨by decide +kernel, by decide +kernel, by decide +kernel⟩, by decide⟩
theorem vX10_181 : gcv RX10 181 mX10_seekCatch 9 0 := ⟨⟨_, rfl, rfl⟩, List.forall_mem_cons.mpr ⟨gT_in (i := 943) (by decide +kernel) rfl, List.forall_mem_cons.mpr ⟨gT_in (i := 945) (by decide +kernel) rfl, List.forall_mem_cons.mpr ⟨gT_in (i := 57) (by decide +kernel) rfl, List.forall_mem_cons.mpr ⟨gT_in (i := 66) (by decide +kernel) rfl, List.forall_mem_cons.mpr ⟨gT_in (i := 946) (by decide +kernel) rfl, fun _ h => absurd h List.not_mem_nil⟩⟩⟩⟩⟩, ⟨by decide +kernel, by decide +kernel, by decide +kernel⟩, by decide⟩
theorem vX10_187 : gcv RX10 187 mX10_isCounted 9 0 := ⟨⟨_, rfl, rfl⟩, List.forall_mem_cons.mpr ⟨gT_in (i := 818) (by decide +kernel) rfl, List.forall_mem_cons.mpr ⟨gT_in (i := 820) (by decide +kernel) rfl, List.forall_mem_cons.mpr ⟨gT_in (i := 34) (by decide +kernel) rfl, List.forall_mem_cons.mpr ⟨gT_in (i := 66) (by decide +kernel) rfl, List.forall_mem_cons.mpr ⟨gT_in (i := 821) (by decide +kernel) rfl, fun _ h => absurd h List.not_mem_nil⟩⟩⟩⟩⟩, ⟨by decide +kernel, by decide +kernel, by decide +kernel⟩, by decide⟩
theorem vX10_191 : gcv RX10 191 mX10_fail 9 1 := ⟨⟨_, rfl, rfl⟩, List.forall_mem_cons.mpr ⟨gT_in (i := 822) (by decide +kernel) rfl, List.forall_mem_cons.mpr ⟨gT_in (i := 824) (by decide +kernel) rfl, List.forall_mem_cons.mpr ⟨gT_in (i := 35) (by decide +kernel) rfl, List.forall_mem_cons.mpr ⟨gT_in (i := 66) (by decide +kernel) rfl, List.forall_mem_cons.mpr ⟨gT_in (i := 825) (by decide +kernel) rfl, fun _ h => absurd h List.not_mem_nil⟩⟩⟩⟩⟩, ⟨by decide +kernel, by decide +kernel, by decide +kernel⟩, by decide⟩
theorem vX10_195 : gcv RX10 195 mX10_round 9 0 := ⟨⟨_, rfl, rfl⟩, List.forall_mem_cons.mpr ⟨gT_in (i := 814) (by decide +kernel) rfl, List.forall_mem_cons.mpr ⟨gT_in (i := 816) (by decide +kernel) rfl, List.forall_mem_cons.mpr ⟨gT_in (i := 33) (by decide +kernel) rfl, List.forall_mem_cons.mpr ⟨gT_in (i := 66) (by decide +kernel) rfl, List.forall_mem_cons.mpr ⟨gT_in (i := 817) (by decide +kernel) rfl, fun _ h => absurd h List.not_mem_nil⟩⟩⟩⟩⟩, ⟨by decide +kernel, by decide +kernel, by decide +kernel⟩, by decide⟩
theorem vX10_198 : gcv RX10 198 mX10_endPart 9 0 := ⟨⟨_, rfl, rfl⟩, List.forall_mem_cons.mpr ⟨gT_in (i := 810) (by decide +kernel) rfl, List.forall_mem_cons.mpr ⟨gT_in (i := 812) (by decide +kernel) rfl, List.forall_mem_cons.mpr ⟨gT_in (i := 32) (by decide +kernel) rfl, List.forall_mem_cons.mpr ⟨gT_in (i := 66) (by decide +kernel) rfl, List.forall_mem_cons.mpr ⟨gT_in (i := 813) (by decide +kernel) rfl, fun _ h => absurd h List.not_mem_nil⟩⟩⟩⟩⟩, ⟨by decide +kernel, by decide +kernel, by decide +kernel⟩, by decide⟩
theorem vX10_201 : gcv RX10 201 mX10_order 9 1 := ⟨⟨_, rfl, rfl⟩, List.forall_mem_cons.mpr ⟨gT_in (i := 834) (by decide +kernel) rfl, List.forall_mem_cons.mpr ⟨gT_in (i := 836) (by decide +kernel) rfl, List.forall_mem_cons.mpr ⟨gT_in (i := 38) (by decide +kernel) rfl, List.forall_mem_cons.mpr ⟨gT_in (i := 66) (by decide +kernel) rfl, List.forall_mem_cons.mpr ⟨gT_in (i := 837) (by decide +kernel) rfl, fun _ h => absurd h List.not_mem_nil⟩⟩⟩⟩⟩, ⟨by decide +kernel, by decide +kernel, by decide +kernel⟩, by decide⟩
theorem vX10_204 : gcv RX10 204 mX10_work 9 1 := ⟨⟨_, rfl, rfl⟩, List.forall_mem_cons.mpr ⟨gT_in (i := 873) (by decide +kernel) rfl, List.forall_mem_cons.mpr ⟨gT_in (i := 875) (by decide +kernel) rfl, List.forall_mem_cons.mpr ⟨gT_in (i := 47) (by decide +kernel) rfl, List.forall_mem_cons.mpr ⟨gT_in (i := 66) (by decide +kernel) rfl, List.forall_mem_cons.mpr ⟨gT_in (i := 876) (by decide +kernel) rfl, fun _ h => absurd h List.not_mem_nil⟩⟩⟩⟩⟩, ⟨by decide +kernel, by decide +kernel, by decide +kernel⟩, by decide⟩
theorem vX10_210 : gcv RX10 210 mX10_begin 9 2 := ⟨⟨_, rfl, rfl⟩, List.forall_mem_cons.mpr ⟨gT_in (i := 793) (by decide +kernel) rfl, List.forall_mem_cons.mpr ⟨gT_in (i := 795) (by decide +kernel) rfl, List.forall_mem_cons.mpr ⟨gT_in (i := 28) (by decide +kernel) rfl, List.forall_mem_cons.mpr ⟨gT_in (i := 66) (by decide +kernel) rfl, List.forall_mem_cons.mpr ⟨gT_in (i := 796) (by decide +kernel) rfl, fun _ h => absurd h List.not_mem_nil⟩⟩⟩⟩⟩, ⟨by decide +kernel, by decide +kernel, by decide +kernel⟩, by decide⟩
theorem vX10_215 : gcv RX10 215 mX10_go 9 0 := ⟨⟨_, rfl, rfl⟩, List.forall_mem_cons.mpr ⟨gT_in (i := 802) (by decide +kernel) rfl, List.forall_mem_cons.mpr ⟨gT_in (i := 804) (by decide +kernel) rfl, List.forall_mem_cons.mpr ⟨gT_in (i := 30) (by decide +kernel) rfl, List.forall_mem_cons.mpr ⟨gT_in (i := 66) (by decide +kernel) rfl, List.forall_mem_cons.mpr ⟨gT_in (i := 805) (by decide +kernel) rfl, fun _ h => absurd h List.not_mem_nil⟩⟩⟩⟩⟩, ⟨by decide +kernel, by decide +kernel, by decide +kernel⟩, by decide⟩
theorem vX10_218 : gcv RX10 218 mX10_leave 9 0 := ⟨⟨_, rfl, rfl⟩, List.forall_mem_cons.mpr ⟨gT_in (i := 939) (by decide +kernel) rfl, List.forall_mem_cons.mpr ⟨gT_in (i := 941) (by decide +kernel) rfl, List.forall_mem_cons.mpr ⟨gT_in (i := 56) (by decide +kernel) rfl, List.forall_mem_cons.mpr ⟨gT_in (i := 66) (by decide +kernel) rfl, List.forall_mem_cons.mpr ⟨gT_in (i := 942) (by decide +kernel) rfl, fun _ h => absurd h List.not_mem_nil⟩⟩⟩⟩⟩, ⟨by decide +kernel, by decide +kernel, by decide +kernel⟩, by decide⟩
theorem vX10_221 : gcv RX10 221 mX10_caught 9 0 := ⟨⟨_, rfl, rfl⟩, List.forall_mem_cons.mpr ⟨gT_in (i := 842) (by decide +kernel) rfl, List.forall_mem_cons.mpr ⟨gT_in (i := 844) (by decide +kernel) rfl, List.forall_mem_cons.mpr ⟨gT_in (i := 40) (by decide +kernel) rfl, List.forall_mem_cons.mpr ⟨gT_in (i := 66) (by decide +kernel) rfl, List.forall_mem_cons.mpr ⟨gT_in (i := 845) (by decide +kernel) rfl, fun _ h => absurd h List.not_mem_nil⟩⟩⟩⟩⟩, ⟨by decide +kernel, by decide +kernel, by decide +kernel⟩, by decide⟩
theorem vX10_225 : gcv RX10 225 mX10_note 9 1 := ⟨⟨_, rfl, rfl⟩, List.forall_mem_cons.mpr ⟨gT_in (i := 854) (by decide +kernel) rfl, List.forall_mem_cons.mpr ⟨gT_in (i := 856) (by decide +kernel) rfl, List.forall_mem_cons.mpr ⟨gT_in (i := 43) (by decide +kernel) rfl, List.forall_mem_cons.mpr ⟨gT_in (i := 66) (by decide +kernel) rfl, List.forall_mem_cons.mpr ⟨gT_in (i := 857) (by decide +kernel) rfl, fun _ h => absurd h List.not_mem_nil⟩⟩⟩⟩⟩, ⟨by decide +kernel, by decide +kernel, by decide +kernel⟩, by decide⟩
theorem vX10_229 : gcv RX10 229 mX10_weight 9 1 := ⟨⟨_, rfl, rfl⟩, List.forall_mem_cons.mpr ⟨gT_in (i := 858) (by decide +kernel) rfl, List.forall_mem_cons.mpr ⟨gT_in (i := 860) (by decide +kernel) rfl, List.forall_mem_cons.mpr ⟨gT_in (i := 44) (by decide +kernel) rfl, List.forall_mem_cons.mpr ⟨gT_in (i := 66) (by decide +kernel) rfl, List.forall_mem_cons.mpr ⟨gT_in (i := 861) (by decide +kernel) rfl, fun _ h => absurd h List.not_mem_nil⟩⟩⟩⟩⟩, ⟨by decide +kernel, by decide +kernel, by decide +kernel⟩, by decide⟩
theorem vX10_232 : gcv RX10 232 mX10_isSo 9 1 := ⟨⟨_, rfl, rfl⟩, List.forall_mem_cons.mpr ⟨gT_in (i := 838) (by decide +kernel) rfl, List.forall_mem_cons.mpr ⟨gT_in (i := 840) (by decide +kernel) rfl, List.forall_mem_cons.mpr ⟨gT_in (i := 39) (by decide +kernel) rfl, List.forall_mem_cons.mpr ⟨gT_in (i := 66) (by decide +kernel) rfl, List.forall_mem_cons.mpr ⟨gT_in (i := 841) (by decide +kernel) rfl, fun _ h => absurd h List.not_mem_nil⟩⟩⟩⟩⟩, ⟨by decide +kernel, by decide +kernel, by decide +kernel⟩, by decide⟩
theorem vX10_235 : gcv RX10 235 mX10_wrap 9 1 := ⟨⟨_, rfl, rfl⟩, List.forall_mem_cons.mpr ⟨gT_in (i := 846) (by decide +kernel) rfl, List.forall_mem_cons.mpr ⟨gT_in (i := 848) (by decide +kernel) rfl, List.forall_mem_cons.mpr ⟨gT_in (i := 41) (by decide +kernel) rfl, List.forall_mem_cons.mpr ⟨gT_in (i := 66) (by decide +kernel) rfl, List.forall_mem_cons.mpr ⟨gT_in (i := 849) (by decide +kernel) rfl, fun _ h => absurd h List.not_mem_nil⟩⟩⟩⟩⟩, ⟨by decide +kernel, by decide +kernel, by decide +kernel⟩, by decide⟩
theorem vX10_238 : gcv RX10 238 mX10_tell 9 0 := ⟨⟨_, rfl, rfl⟩, List.forall_mem_cons.mpr ⟨gT_in (i := 850) (by decide +kernel) rfl, List.forall_mem_cons.mpr ⟨gT_in (i := 852) (by decide +kernel) rfl, List.forall_mem_cons.mpr ⟨gT_in (i := 42) (by decide +kernel) rfl, List.forall_mem_cons.mpr ⟨gT_in (i := 66) (by decide +kernel) rfl, List.forall_mem_cons.mpr ⟨gT_in (i := 853) (by decide +kernel) rfl, fun _ h => absurd h List.not_mem_nil⟩⟩⟩⟩⟩, ⟨by decide +kernel, by decide +kernel, by decide +kernel⟩, by decide⟩
theorem vX10_241 : gcv RX10 241 mX10_call 9 1 := ⟨⟨_, rfl, rfl⟩, List.forall_mem_cons.mpr ⟨gT_in (i := 869) (by decide +kernel) rfl, List.forall_mem_cons.mpr ⟨gT_in (i := 871) (by decide +kernel) rfl, List.forall_mem_cons.mpr ⟨gT_in (i := 46) (by decide +kernel) rfl, List.forall_mem_cons.mpr ⟨gT_in (i := 66) (by decide +kernel) rfl, List.forall_mem_cons.mpr ⟨gT_in (i := 872) (by decide +kernel) rfl, fun _ h => absurd h List.not_mem_nil⟩⟩⟩⟩⟩, ⟨by decide +kernel, by decide +kernel, by decide +kernel⟩, by decide⟩
theorem vX10_244 : gcv RX10 244 mX10_faultOf 9 3 := ⟨⟨_, rfl, rfl⟩, List.forall_mem_cons.mpr ⟨gT_in (i := 932) (by decide +kernel) rfl, List.forall_mem_cons.mpr ⟨gT_in (i := 934) (by decide +kernel) rfl, List.forall_mem_cons.mpr ⟨gT_in (i := 55) (by decide +kernel) rfl, List.forall_mem_cons.mpr ⟨gT_in (i := 66) (by decide +kernel) rfl, List.forall_mem_cons.mpr ⟨gT_in (i := 935) (by decide +kernel) rfl, fun _ h => absurd h List.not_mem_nil⟩⟩⟩⟩⟩, ⟨by decide +kernel, by decide +kernel, by decide +kernel⟩, by decide⟩
theorem sX10_248 : gcs RX10 248 mX10_kept 2 := ⟨List.forall_mem_cons.mpr ⟨gT_in (i := 936) (by decide +kernel) rfl, List.forall_mem_cons.mpr ⟨gT_in (i := 937) (by decide +kernel) rfl, List.forall_mem_cons.mpr ⟨gT_in (i := 66) (by decide +kernel) rfl, List.forall_mem_cons.mpr ⟨gT_in (i := 938) (by decide +kernel) rfl, fun _ h => absurd h List.not_mem_nil⟩⟩⟩⟩, ⟨by decide +kernel, by decide +kernel, by decide +kernel⟩, by decide⟩
theorem vX10_252 : gcv RX10 252 mX10_make 9 2 := ⟨⟨_, rfl, rfl⟩, List.forall_mem_cons.mpr ⟨gT_in (i := 877) (by decide +kernel) rfl, List.forall_mem_cons.mpr ⟨gT_in (i := 879) (by decide +kernel) rfl, List.forall_mem_cons.mpr ⟨gT_in (i := 48) (by decide +kernel) rfl, List.forall_mem_cons.mpr ⟨gT_in (i := 66) (by decide +kernel) rfl, List.forall_mem_cons.mpr ⟨gT_in (i := 880) (by decide +kernel) rfl, fun _ h => absurd h List.not_mem_nil⟩⟩⟩⟩⟩, ⟨by decide +kernel, by decide +kernel, by decide +kernel⟩, by decide⟩
theorem vX10_257 : gcv RX10 257 mX10_fine 9 1 := ⟨⟨_, rfl, rfl⟩, List.forall_mem_cons.mpr ⟨gT_in (i := 882) (by decide +kernel) rfl, List.forall_mem_cons.mpr ⟨gT_in (i := 884) (by decide +kernel) rfl, List.forall_mem_cons.mpr ⟨gT_in (i := 49) (by decide +kernel) rfl, List.forall_mem_cons.mpr ⟨gT_in (i := 66) (by decide +kernel) rfl, List.forall_mem_cons.mpr ⟨gT_in (i := 885) (by decide +kernel) rfl, fun _ h => absurd h List.not_mem_nil⟩⟩⟩⟩⟩, ⟨by decide +kernel, by decide +kernel, by decide +kernel⟩, by decide⟩
theorem vX10_260 : gcv RX10 260 mX10_rough 9 1 := ⟨⟨_, rfl, rfl⟩, List.forall_mem_cons.mpr ⟨gT_in (i := 916) (by decide +kernel) rfl, List.forall_mem_cons.mpr ⟨gT_in (i := 918) (by decide +kernel) rfl, List.forall_mem_cons.mpr ⟨gT_in (i := 51) (by decide +kernel) rfl, List.forall_mem_cons.mpr ⟨gT_in (i := 66) (by decide +kernel) rfl, List.forall_mem_cons.mpr ⟨gT_in (i := 919) (by decide +kernel) rfl, fun _ h => absurd h List.not_mem_nil⟩⟩⟩⟩⟩, ⟨by decide +kernel, by decide +kernel, by decide +kernel⟩, by decide⟩
theorem vX10_263 : gcv RX10 263 mX10_whole 9 1 := ⟨⟨_, rfl, rfl⟩, List.forall_mem_cons.mpr ⟨gT_in (i := 920) (by decide +kernel) rfl, List.forall_mem_cons.mpr ⟨gT_in (i := 922) (by decide +kernel) rfl, List.forall_mem_cons.mpr ⟨gT_in (i := 52) (by decide +kernel) rfl, List.forall_mem_cons.mpr ⟨gT_in (i := 66) (by decide +kernel) rfl, List.forall_mem_cons.mpr ⟨gT_in (i := 923) (by decide +kernel) rfl, fun _ h => absurd h List.not_mem_nil⟩⟩⟩⟩⟩, ⟨by decide +kernel, by decide +kernel, by decide +kernel⟩, by decide⟩
theorem vX10_266 : gcv RX10 266 mX10_wide 9 1 := ⟨⟨_, rfl, rfl⟩, List.forall_mem_cons.mpr ⟨gT_in (i := 924) (by decide +kernel) rfl, List.forall_mem_cons.mpr ⟨gT_in (i := 926) (by decide +kernel) rfl, List.forall_mem_cons.mpr ⟨gT_in (i := 53) (by decide +kernel) rfl, List.forall_mem_cons.mpr ⟨gT_in (i := 66) (by decide +kernel) rfl, List.forall_mem_cons.mpr ⟨gT_in (i := 927) (by decide +kernel) rfl, fun _ h => absurd h List.not_mem_nil⟩⟩⟩⟩⟩, ⟨by decide +kernel, by decide +kernel, by decide +kernel⟩, by decide⟩
theorem vX10_269 : gcv RX10 269 mX10_onRow 9 1 := ⟨⟨_, rfl, rfl⟩, List.forall_mem_cons.mpr ⟨gT_in (i := 928) (by decide +kernel) rfl, List.forall_mem_cons.mpr ⟨gT_in (i := 930) (by decide +kernel) rfl, List.forall_mem_cons.mpr ⟨gT_in (i := 54) (by decide +kernel) rfl, List.forall_mem_cons.mpr ⟨gT_in (i := 66) (by decide +kernel) rfl, List.forall_mem_cons.mpr ⟨gT_in (i := 931) (by decide +kernel) rfl, fun _ h => absurd h List.not_mem_nil⟩⟩⟩⟩⟩, ⟨by decide +kernel, by decide +kernel, by decide +kernel⟩, by decide⟩
theorem sX10_272 : gcs RX10 272 mX10_isMinusNumber 1 := ⟨List.forall_mem_cons.mpr ⟨gT_in (i := 889) (by decide +kernel) rfl, List.forall_mem_cons.mpr ⟨gT_in (i := 890) (by decide +kernel) rfl, List.forall_mem_cons.mpr ⟨gT_in (i := 66) (by decide +kernel) rfl, List.forall_mem_cons.mpr ⟨gT_in (i := 891) (by decide +kernel) rfl, fun _ h => absurd h List.not_mem_nil⟩⟩⟩⟩, ⟨by decide +kernel, by decide +kernel, by decide +kernel⟩, by decide⟩
theorem sX10_276 : gcs RX10 276 mX10_signed0 2 := ⟨List.forall_mem_cons.mpr ⟨gT_in (i := 898) (by decide +kernel) rfl, List.forall_mem_cons.mpr ⟨gT_in (i := 899) (by decide +kernel) rfl, List.forall_mem_cons.mpr ⟨gT_in (i := 66) (by decide +kernel) rfl, List.forall_mem_cons.mpr ⟨gT_in (i := 900) (by decide +kernel) rfl, fun _ h => absurd h List.not_mem_nil⟩⟩⟩⟩, ⟨by decide +kernel, by decide +kernel, by decide +kernel⟩, by decide⟩
theorem sX10_280 : gcs RX10 280 mX10_signed 2 := ⟨List.forall_mem_cons.mpr ⟨gT_in (i := 892) (by decide +kernel) rfl, List.forall_mem_cons.mpr ⟨gT_in (i := 893) (by decide +kernel) rfl, List.forall_mem_cons.mpr ⟨gT_in (i := 66) (by decide +kernel) rfl, List.forall_mem_cons.mpr ⟨gT_in (i := 894) (by decide +kernel) rfl, fun _ h => absurd h List.not_mem_nil⟩⟩⟩⟩, ⟨by decide +kernel, by decide +kernel, by decide +kernel⟩, by decide⟩
theorem sX10_284 : gcs RX10 284 mX10_lower 1 := ⟨List.forall_mem_cons.mpr ⟨gT_in (i := 895) (by decide +kernel) rfl, List.forall_mem_cons.mpr ⟨gT_in (i := 896) (by decide +kernel) rfl, List.forall_mem_cons.mpr ⟨gT_in (i := 66) (by decide +kernel) rfl, List.forall_mem_cons.mpr ⟨gT_in (i := 897) (by decide +kernel) rfl, fun _ h => absurd h List.not_mem_nil⟩⟩⟩⟩, ⟨by decide +kernel, by decide +kernel, by decide +kernel⟩, by decide⟩
theorem sX10_292 : gcs RX10 292 mX10_upper 1 := ⟨List.forall_mem_cons.mpr ⟨gT_in (i := 901) (by decide +kernel) rfl, List.forall_mem_cons.mpr ⟨gT_in (i := 902) (by decide +kernel) rfl, List.forall_mem_cons.mpr ⟨gT_in (i := 66) (by decide +kernel) rfl, List.forall_mem_cons.mpr ⟨gT_in (i := 903) (by decide +kernel) rfl, fun _ h => absurd h List.not_mem_nil⟩⟩⟩⟩, ⟨by decide +kernel, by decide +kernel, by decide +kernel⟩, by decide⟩
theorem sX10_295 : gcs RX10 295 mX10_nearest 1 := ⟨List.forall_mem_cons.mpr ⟨gT_in (i := 904) (by decide +kernel) rfl, List.forall_mem_cons.mpr ⟨gT_in (i := 905) (by decide +kernel) rfl, List.forall_mem_cons.mpr ⟨gT_in (i := 66) (by decide +kernel) rfl, List.forall_mem_cons.mpr ⟨gT_in (i := 906) (by decide +kernel) rfl, fun _ h => absurd h List.not_mem_nil⟩⟩⟩⟩, ⟨by decide +kernel, by decide +kernel, by decide +kernel⟩, by decide⟩
theorem sX10_304 : gcs RX10 304 mX10_chosen 3 := ⟨List.forall_mem_cons.mpr ⟨gT_in (i := 886) (by decide +kernel) rfl, List.forall_mem_cons.mpr ⟨gT_in (i := 887) (by decide +kernel) rfl, List.forall_mem_cons.mpr ⟨gT_in (i := 66) (by decide +kernel) rfl, List.forall_mem_cons.mpr ⟨gT_in (i := 888) (by decide +kernel) rfl, fun _ h => absurd h List.not_mem_nil⟩⟩⟩⟩, ⟨by decide +kernel, by decide +kernel, by decide +kernel⟩, by decide⟩
theorem vX10_308 : gcv RX10 308 mX10_turn 9 2 := ⟨⟨_, rfl, rfl⟩, List.forall_mem_cons.mpr ⟨gT_in (i := 910) (by decide +kernel) rfl, List.forall_mem_cons.mpr ⟨gT_in (i := 912) (by decide +kernel) rfl, List.forall_mem_cons.mpr ⟨gT_in (i := 50) (by decide +kernel) rfl, List.forall_mem_cons.mpr ⟨gT_in (i := 66) (by decide +kernel) rfl, List.forall_mem_cons.mpr ⟨gT_in (i := 913) (by decide +kernel) rfl, fun _ h => absurd h List.not_mem_nil⟩⟩⟩⟩⟩, ⟨by decide +kernel, by decide +kernel, by decide +kernel⟩, by decide⟩
theorem kX9_7 : Cond.classLink RX9 7 RX0 ∈ gT := gT_in (i := 80) (by decide +kernel) rfl
theorem nX9_7 : gnw RX9 7 0 := ⟨_, rfl, kX9_7, gT_in (i := 81) (by decide +kernel) rfl, gT_in (i := 61) (by decide +kernel) rfl⟩
theorem kX0_7 : Cond.classLink RX0 7 RX5 ∈ gT := gT_in (i := 86) (by decide +kernel) rfl
theorem nX0_7 : gnw RX0 7 5 := ⟨_, rfl, kX0_7, gT_in (i := 87) (by decide +kernel) rfl, gT_in (i := 62) (by decide +kernel) rfl⟩
theorem kX0_22 : Cond.classLink RX0 22 RX6 ∈ gT := gT_in (i := 115) (by decide +kernel) rfl
theorem nX0_22 : gnw RX0 22 6 := ⟨_, rfl, kX0_22, gT_in (i := 117) (by decide +kernel) rfl, gT_in (i := 63) (by decide +kernel) rfl⟩
theorem kX0_29 : Cond.classLink RX0 29 RX2 ∈ gT := gT_in (i := 139) (by decide +kernel) rfl
theorem nX0_29 : gnw RX0 29 2 := ⟨_, rfl, kX0_29, gT_in (i := 140) (by decide +kernel) rfl, gT_in (i := 64) (by decide +kernel) rfl⟩
theorem kX0_36 : Cond.classLink RX0 36 RX4 ∈ gT := gT_in (i := 149) (by decide +kernel) rfl
theorem nX0_36 : gnw RX0 36 4 := ⟨_, rfl, kX0_36, gT_in (i := 150) (by decide +kernel) rfl, gT_in (i := 65) (by decide +kernel) rfl⟩
theorem kX0_68 : Cond.classLink RX0 68 RX3 ∈ gT := gT_in (i := 364) (by decide +kernel) rfl
theorem nX0_68 : gnw RX0 68 3 := ⟨_, rfl, kX0_68, gT_in (i := 365) (by decide +kernel) rfl, gT_in (i := 69) (by decide +kernel) rfl⟩
theorem kX5_13 : Cond.classLink RX5 13 RX7 ∈ gT := gT_in (i := 92) (by decide +kernel) rfl
theorem nX5_13 : gnw RX5 13 7 := ⟨_, rfl, kX5_13, gT_in (i := 248) (by decide +kernel) rfl, gT_in (i := 67) (by decide +kernel) rfl⟩
theorem kX5_41 : Cond.classLink RX5 41 RX1 ∈ gT := gT_in (i := 294) (by decide +kernel) rfl
theorem nX5_41 : gnw RX5 41 1 := ⟨_, rfl, kX5_41, gT_in (i := 295) (by decide +kernel) rfl, gT_in (i := 68) (by decide +kernel) rfl⟩
theorem kL_7 : Cond.classLink RL 7 RX9 ∈ gT := gT_in (i := 72) (by decide +kernel) rfl
theorem nL_7 : gnw RL 7 8 := ⟨_, rfl, kL_7, gT_in (i := 73) (by decide +kernel) rfl, gT_in (i := 60) (by decide +kernel) rfl⟩
theorem kL_10 : Cond.classLink RL 10 RX10 ∈ gT := gT_in (i := 622) (by decide +kernel) rfl
theorem nL_10 : gnw RL 10 9 := ⟨_, rfl, kL_10, gT_in (i := 623) (by decide +kernel) rfl, gT_in (i := 66) (by decide +kernel) rfl⟩
theorem qX0_186 : Cond.constantDouble RX0 186 (4620693217682128896 : UInt64) ∈ gT := gT_in (i := 464) (by decide +kernel) rfl
theorem qX2_17 : Cond.constantDouble RX2 17 (4831355200913801216 : UInt64) ∈ gT := gT_in (i := 469) (by decide +kernel) rfl
theorem qX2_19 : Cond.constantDouble RX2 19 (14054727237768577024 : UInt64) ∈ gT := gT_in (i := 470) (by decide +kernel) rfl
theorem qX8_27 : Cond.constantDouble RX8 27 (13830554455654793216 : UInt64) ∈ gT := gT_in (i := 502) (by decide +kernel) rfl
theorem qX8_37 : Cond.constantDouble RX8 37 (4602678819172646912 : UInt64) ∈ gT := gT_in (i := 500) (by decide +kernel) rfl
theorem qX8_39 : Cond.constantLong RX8 39 (2 : Int64) ∈ gT := gT_in (i := 501) (by decide +kernel) rfl
theorem qX8_41 : Cond.constantDouble RX8 41 (4611686018427387904 : UInt64) ∈ gT := gT_in (i := 484) (by decide +kernel) rfl
theorem qX10_214 : Cond.constant RX10 214 (1000000 : Int32) ∈ gT := gT_in (i := 801) (by decide +kernel) rfl
theorem qX10_255 : Cond.constantDouble RX10 255 (4620693217682128896 : UInt64) ∈ gT := gT_in (i := 881) (by decide +kernel) rfl
theorem qX10_288 : Cond.constantDouble RX10 288 (4602678819172646912 : UInt64) ∈ gT := gT_in (i := 907) (by decide +kernel) rfl
theorem qX10_290 : Cond.constantLong RX10 290 (2 : Int64) ∈ gT := gT_in (i := 908) (by decide +kernel) rfl
theorem qX10_298 : Cond.constantDouble RX10 298 (13830554455654793216 : UInt64) ∈ gT := gT_in (i := 909) (by decide +kernel) rfl
theorem qX10_300 : Cond.constantDouble RX10 300 (4831355200913801216 : UInt64) ∈ gT := gT_in (i := 914) (by decide +kernel) rfl
theorem qX10_302 : Cond.constantDouble RX10 302 (14054727237768577024 : UInt64) ∈ gT := gT_in (i := 915) (by decide +kernel) rfl
theorem ac_double : Cond.arrayClass .double ∈ gT := gT_in (i := 137) (by decide +kernel) rfl
theorem ac_int : Cond.arrayClass .int ∈ gT := gT_in (i := 749) (by decide +kernel) rfl
theorem ac_boolean : Cond.arrayClass .boolean ∈ gT := gT_in (i := 138) (by decide +kernel) rfl
end
section
/-! a switch by a table, case by case -/
def tswK (P : Nat → Int32 → Prop) (v : Int) : List Nat → Prop
  | [] => True
  | t :: l => P t (Int32.ofInt v) ∧ tswK P (v + 1) l
theorem tswK_at {P : Nat → Int32 → Prop} : ∀ {l : List Nat} {v : Int}, tswK P v l → ∀ {j t : Nat}, l[j]? = some t → P t (Int32.ofInt (v + j))
  | [], _, _, j, t, ht => by cases j <;> cases ht
  | a :: l, v, h, 0, t, ht => by cases ht; have := h.1; simpa using this
  | a :: l, v, h, j + 1, t, ht => by
    have := tswK_at h.2 (j := j) (t := t) ht
    have e : v + 1 + (j : Int) = v + ((j + 1 : Nat) : Int) := by omega
    rw [e] at this
    exact this
theorem g_tsw {g : GE} {d : Nat} {Y : GM} {pc : Nat} {ls : List (Nat × Value)} {st : List Value} {w : GW} {Q : Option Value → GW → Prop} {dflt lo hi : Int} {offs : Array Int} {len : Nat} {x : Int32} (hd : decode Y.2.1 pc = .ok (.tableswitch dflt lo hi offs, len)) (tg : List Nat) (dt : Nat) (hdt : (pc : Int) + dflt = (dt : Int))
    (hoffs : offs.toList.map (fun o => (pc : Int) + o) = tg.map (fun t : Nat => (t : Int))) (hlen : (tg.length : Int) = hi - lo + 1) (hlo : -2147483648 ≤ lo) (hhi : hi < 2147483648)
    (kin : tswK (fun t v => x = v → gF g d Y t ls st w Q) lo tg) (kout : (x.toInt < lo ∨ hi < x.toInt) → gF g d Y dt ls st w Q) : gF g d Y pc ls (.int x :: st) w Q := by
  by_cases h1 : x.toInt < lo
  · exact g_tableOut dt hd (Or.inl h1) hdt (kout (Or.inl h1))
  · by_cases h2 : hi < x.toInt
    · exact g_tableOut dt hd (Or.inr h2) hdt (kout (Or.inr h2))
    · have hj : (x.toInt - lo).toNat < tg.length := by omega
      obtain ⟨t, ht⟩ : ∃ t, tg[(x.toInt - lo).toNat]? = some t := ⟨_, List.getElem?_eq_getElem hj⟩
      have hm : (offs.toList.map (fun o => (pc : Int) + o))[(x.toInt - lo).toNat]? = some ((t : Nat) : Int) := by
        rw [hoffs, List.getElem?_map, ht]; rfl
      rw [List.getElem?_map] at hm
      cases ho : offs.toList[(x.toInt - lo).toNat]? with
      | none => rw [ho] at hm; cases hm
      | some off =>
        rw [ho] at hm
        have hoff : (pc : Int) + off = (t : Int) := Option.some.inj hm
        refine g_tableIn t hd h1 h2 (by rw [← Array.getElem?_toList]; exact ho) hoff (tswK_at kin ht ?_)
        have e : lo + ((x.toInt - lo).toNat : Int) = x.toInt := by omega
        rw [e, Int32.ofInt_toInt]
theorem tsw_ne {x : Int32} {lo hi : Int} (h : x.toInt < lo ∨ hi < x.toInt) (k : Int32) (hk : lo ≤ k.toInt ∧ k.toInt ≤ hi) : ¬ x = k := fun e => by subst e; omega
theorem gOb_newO {g : GE} {w : GW} {a ci c N : Nat} (h : gOb g w a ci) : gOb g (newO w c N) a ci := ⟨h.1, by rw [gN_newO]; have := h.2.1; omega, by rw [gK_newO, va_up_ne _ _ (Nat.ne_of_lt h.2.1)]; exact h.2.2⟩
theorem gOb_newA {g : GE} {w : GW} {a ci c N : Nat} (h : gOb g w a ci) : gOb g (newA w c N) a ci := ⟨h.1, by rw [gN_newA]; have := h.2.1; omega, by rw [gK_newA, va_up_ne _ _ (Nat.ne_of_lt h.2.1)]; exact h.2.2⟩
theorem gOb_selfO {g : GE} {w : GW} {ci N : Nat} (h : eB g ≤ gN w) : gOb g (newO w ci N) (gN w) ci := ⟨h, Nat.lt_succ_self _, by rw [gK_newO, va_up_self]⟩
theorem gOb_selfA {g : GE} {w : GW} {kd N : Nat} (h : eB g ≤ gN w) : gOb g (newA w kd N) (gN w) kd := ⟨h, Nat.lt_succ_self _, by rw [gK_newA, va_up_self]⟩
/-! ints that are small numbers -/
theorem nI_of_rng {x : Int32} {n : Nat} (h0 : ¬ x < 0) (h1 : ¬ nI n ≤ x) (hn : n < 2 ^ 31) : ∃ j : Nat, j < n ∧ x = nI j := by
  obtain ⟨j, hj, rfl⟩ := nI_of h0
  refine ⟨j, ?_, rfl⟩
  rcases Nat.lt_or_ge j n with q | q
  · exact q
  · exact absurd (nI_le q (by omega)) h1
/-! ===== what stands at fixed addresses, once both are made ===== -/
/-- kinds by offset: 0 GaugeBench, 1 Bench, 2 Routine 0, 3 its steps, 4 routines, 5.. Routines 1 to 3, 11 rows, 12 + 3 w Row w, its doubles, its ready, 66 Dials, 67 its doubles, 68 NumberLog, 69 its doubles; 70 the model, 71 .. its arrays -/
def kTab : List Nat := [8, 0, 5, 15, 13, 5, 15, 5, 15, 5, 15, 14] ++ (List.replicate 18 [6, 10, 12]).flatten ++ [2, 10, 4, 10] ++ [9] ++ [11, 11, 11, 11, 11, 11, 11, 11, 11, 11, 11, 10, 12, 11, 10, 12, 11, 11, 11, 11, 11, 11, 11, 11, 11, 11, 10, 11]
def lTab : List Nat := [0, 0, 0, 40, 4, 0, 40, 0, 40, 0, 40, 18] ++ (List.replicate 18 [0, 16, 16]).flatten ++ [0, 8, 0, 800] ++ [0] ++ [160, 160, 160, 160, 160, 160, 4, 4, 24, 24, 24, 8, 18, 18, 288, 288, 600, 600, 600, 600, 600, 60, 60, 60, 60, 60, 1000, 12]
/-- final references: field, offset of the object, offset of what it names -/
def rTab : List (Nat × Nat × Nat) := [(512, 0, 1), (0, 1, 4), (1, 1, 11), (2, 1, 66), (3, 1, 68), (321, 2, 3), (321, 5, 6), (321, 7, 8), (321, 9, 10), (128, 66, 67), (256, 68, 69)] ++ (List.range 18).flatMap (fun r => [(385, 12 + 3 * r, 13 + 3 * r), (386, 12 + 3 * r, 14 + 3 * r)]) ++ [(576, 70, 71), (577, 70, 72), (578, 70, 73), (579, 70, 74), (580, 70, 75), (581, 70, 76), (582, 70, 77), (583, 70, 78), (584, 70, 79), (585, 70, 80), (586, 70, 81), (588, 70, 82), (589, 70, 83), (590, 70, 84), (591, 70, 85), (592, 70, 86), (593, 70, 87), (594, 70, 88), (595, 70, 89), (596, 70, 90), (597, 70, 91), (600, 70, 92), (601, 70, 93), (602, 70, 94), (603, 70, 95), (604, 70, 96), (613, 70, 97), (615, 70, 98)]
def pTab : List (Nat × Nat × Nat) := [(4, 0, 2), (4, 1, 5), (4, 2, 7), (4, 3, 9)] ++ (List.range 18).map (fun r => (11, r, 12 + 3 * r))
def iTab : List (Nat × Nat × Int32) := [(320, 2, 0), (320, 5, 1), (320, 7, 2), (320, 9, 3)] ++ (List.range 18).map (fun r => (384, 12 + 3 * r, nI (r / 2)))
/-- both are made: kinds, lengths, final fields at their addresses -/
def SK (g : GE) (w : GW) : Prop := eB g + 99 ≤ gN w ∧ (∀ i k, kTab[i]? = some k → gK w (eB g + i) = k) ∧ (∀ i n, lTab[i]? = some n → 10 ≤ kTab.getD i 0 → gL w (eB g + i) = n) ∧ (∀ e ∈ rTab, gR w e.1 (eB g + e.2.1) = some (eB g + e.2.2)) ∧ (∀ e ∈ pTab, gP w (eB g + e.1) e.2.1 = some (eB g + e.2.2)) ∧ (∀ e ∈ iTab, gI w e.1 (eB g + e.2.1) = e.2.2)
theorem SK.ob {g : GE} {w : GW} (h : SK g w) (i : Nat) {k : Nat} (hk : kTab[i]? = some k) : gOb g w (eB g + i) k := by
  have h1 := h.1
  have hi : i < 99 := by
    rcases Nat.lt_or_ge i 99 with q | q
    · exact q
    · rw [List.getElem?_eq_none (by show kTab.length ≤ i; exact q)] at hk; cases hk
  exact ⟨by omega, by omega, h.2.1 i k hk⟩
theorem SK.len {g : GE} {w : GW} (h : SK g w) (i : Nat) {n : Nat} (hn : lTab[i]? = some n) (hk : 10 ≤ kTab.getD i 0) : gL w (eB g + i) = n := h.2.2.1 i n hn hk
theorem SK.rf {g : GE} {w : GW} (h : SK g w) (c i j : Nat) (he : (c, i, j) ∈ rTab) : gR w c (eB g + i) = some (eB g + j) := h.2.2.2.1 _ he
theorem SK.pt {g : GE} {w : GW} (h : SK g w) (a i j : Nat) (he : (a, i, j) ∈ pTab) : gP w (eB g + a) i = some (eB g + j) := h.2.2.2.2.1 _ he
theorem SK.it {g : GE} {w : GW} (h : SK g w) (c i : Nat) (v : Int32) (he : (c, i, v) ∈ iTab) : gI w c (eB g + i) = v := h.2.2.2.2.2 _ he
theorem SK.setA {g : GE} {w : GW} (h : SK g w) (a i : Nat) (x : Int32) : SK g (setA w a i x) := h
theorem SK.setD {g : GE} {w : GW} (h : SK g w) (a i : Nat) (x : UInt64) : SK g (setD w a i x) := h
theorem SK.setI {g : GE} {w : GW} (h : SK g w) (c a : Nat) (x : Int32) (hc : c ≠ 320 ∧ c ≠ 384) : SK g (setI w c a x) := by
  refine ⟨h.1, h.2.1, h.2.2.1, h.2.2.2.1, h.2.2.2.2.1, fun e he => ?_⟩
  have h1 : e.1 = 320 ∨ e.1 = 384 := by
    have : ∀ e ∈ iTab, e.1 = 320 ∨ e.1 = 384 := by decide +kernel
    exact this e he
  rw [gI_setI, up2_ne _ _ (by omega)]
  exact h.2.2.2.2.2 e he
theorem SK.setR {g : GE} {w : GW} (h : SK g w) (c a : Nat) (x : Option Nat) (hc : rTab.all (fun e => !(e.1 == c)) = true) : SK g (setR w c a x) := by
  refine ⟨h.1, h.2.1, h.2.2.1, fun e he => ?_, h.2.2.2.2.1, h.2.2.2.2.2⟩
  have h1 := List.all_eq_true.mp hc e he
  have h2 : e.1 ≠ c := by simpa using h1
  rw [gR_setR, up2_ne _ _ (by omega)]
  exact h.2.2.2.1 e he
/-- a cell in the array of a routine's steps -/
theorem SK.setP {g : GE} {w : GW} (h : SK g w) (a i : Nat) (x : Option Nat) (ha : a ≠ eB g + 4 ∧ a ≠ eB g + 11) : SK g (setP w a i x) := by
  refine ⟨h.1, h.2.1, h.2.2.1, h.2.2.2.1, fun e he => ?_, h.2.2.2.2.2⟩
  have h1 : e.1 = 4 ∨ e.1 = 11 := by
    have : ∀ e ∈ pTab, e.1 = 4 ∨ e.1 = 11 := by decide +kernel
    exact this e he
  rw [gP_setP, up2_ne _ _ (by omega)]
  exact h.2.2.2.2.1 e he
theorem SK.newO {g : GE} {w : GW} (h : SK g w) (ci N : Nat) : SK g (newO w ci N) := by
  have h0 := h.1
  have hk : ∀ (i : Nat), i < 99 → eB g + i ≠ gN w := fun i hi => by omega
  have hkl : kTab.length = 99 := by decide +kernel
  refine ⟨by rw [gN_newO]; omega, fun i k hi => ?_, h.2.2.1, fun e he => ?_, h.2.2.2.2.1, fun e he => ?_⟩
  · have : i < 99 := by rw [← hkl]; exact (List.getElem?_eq_some_iff.mp hi).1
    rw [gK_newO, va_up_ne _ _ (hk i this)]
    exact h.2.1 i k hi
  · have h1 : e.2.1 < 99 := by
      have : ∀ e ∈ rTab, e.2.1 < 99 := by decide +kernel
      exact this e he
    rw [gR_newO, nul2, if_neg (hk _ h1)]
    exact h.2.2.2.1 e he
  · have h1 : e.2.1 < 99 := by
      have : ∀ e ∈ iTab, e.2.1 < 99 := by decide +kernel
      exact this e he
    rw [gI_newO, nul2, if_neg (hk _ h1)]
    exact h.2.2.2.2.2 e he
/-! what a comparison of doubles answers -/
theorem cv_gtl (o : Option Ordering) : 0 < Op.cmpValue o .l ↔ o = some .gt := by rcases o with _ | _ | _ | _ <;> decide
theorem cv_gtg (o : Option Ordering) : 0 < Op.cmpValue o .g ↔ (o = some .gt ∨ o = none) := by rcases o with _ | _ | _ | _ <;> decide
theorem cv_lel (o : Option Ordering) : Op.cmpValue o .l ≤ 0 ↔ ¬ o = some .gt := by rcases o with _ | _ | _ | _ <;> decide
theorem cv_gel (o : Option Ordering) : 0 ≤ Op.cmpValue o .l ↔ (o = some .gt ∨ o = some .eq) := by rcases o with _ | _ | _ | _ <;> decide
theorem cv_geg (o : Option Ordering) : 0 ≤ Op.cmpValue o .g ↔ ¬ o = some .lt := by rcases o with _ | _ | _ | _ <;> decide
theorem cv_ltl (o : Option Ordering) : Op.cmpValue o .l < 0 ↔ (o = some .lt ∨ o = none) := by rcases o with _ | _ | _ | _ <;> decide
theorem cv_ltg (o : Option Ordering) : Op.cmpValue o .g < 0 ↔ o = some .lt := by rcases o with _ | _ | _ | _ <;> decide
theorem cv_leg (o : Option Ordering) : Op.cmpValue o .g ≤ 0 ↔ (o = some .lt ∨ o = some .eq) := by rcases o with _ | _ | _ | _ <;> decide
theorem cv_eql (o : Option Ordering) : Op.cmpValue o .l = 0 ↔ o = some .eq := by rcases o with _ | _ | _ | _ <;> decide
theorem cv_eqg (o : Option Ordering) : Op.cmpValue o .g = 0 ↔ o = some .eq := by rcases o with _ | _ | _ | _ <;> decide
end
section
def dMost : UInt64 := 4831355200913801216
def dLeast : UInt64 := 14054727237768577024
def fBeyond (x : UInt64) : Prop := FP.dcmp x dMost = some .gt ∨ FP.dcmp x dLeast = some .lt
/-- Dials.at -/
def cAt (g : GE) (w : GW) (i : Int32) : UInt64 := if i < 0 ∨ 8 ≤ i then FP.dconst0 else gD w (eB g + 67) i.toNatClampNeg
theorem cAt_in {g : GE} {w : GW} {j : Nat} (h : j < 8) : cAt g w (nI j) = gD w (eB g + 67) j := by
  rw [cAt, if_neg (fun q => q.elim (nI_pos (by omega)) (nI_ge h (by decide))), nI_clamp (by omega)]
set_option maxHeartbeats 4000000 in
set_option maxRecDepth 20000 in
theorem c_at {g : GE} {d : Nat} {w : GW} {Q : Option Value → GW → Prop} {i : Int32} (hS : SK g w) (k : Q (some (.double (cAt g w i))) w) : gM g d mX2_at [.ref (eB g + 66), .int i] w Q := by
  refine gM.of (by decide) (Nat.le_of_ble_eq_true rfl) ?_
  have o66 : gOb g w (eB g + 66) 2 := hS.ob 66 rfl
  have o67 : gOb g w (eB g + 67) 10 := hS.ob 67 rfl
  have l67 : gL w (eB g + 67) = 8 := hS.len 67 rfl (by decide)
  have r66 : gR w 128 (eB g + 66) = some (eB g + 67) := hS.rf 128 66 67 (by decide)
  refine g_iload_n dX2_at_0 rfl ?_
  refine g_if_lt 19 dX2_at_1 (by decide) (fun c1 => ?_) (fun c1 => ?_)
  · refine g_dconst0 dX2_at_19 ?_
    refine g_dret dX2_at_20 rfl ?_
    first
      | (rw [cAt_in hj] at k; exact k)
      | (simpa [cAt, c1] using k)
  · refine g_iload_n dX2_at_4 rfl ?_
    refine g_bipushV (v := 8) dX2_at_5 (by decide) ?_
    refine g_icmp_ge 19 dX2_at_7 (by decide) (fun c2 => ?_) (fun c2 => ?_)
    · refine g_dconst0 dX2_at_19 ?_
      refine g_dret dX2_at_20 rfl ?_
      first
        | (rw [cAt_in hj] at k; exact k)
        | (simpa [cAt, c1, c2] using k)
    · obtain ⟨j, hj, rfl⟩ := nI_of_rng (n := 8) c1 c2 (by decide)
      have hj8 : j < gL w (eB g + 67) := by rw [l67]; exact hj
      have hji : nI j = nI j := rfl
      refine g_aload_n dX2_at_10 rfl ?_
      refine g_getR 2 0 128 dX2_at_11 fX2_9 rfl rfl (by assumption) (by assumption) ?_
      refine g_iload_n dX2_at_14 rfl ?_
      refine g_dald dX2_at_15 (by assumption) (by assumption) (by assumption) ?_
      refine g_goto 20 dX2_at_16 (by decide) ?_
      refine g_dret dX2_at_20 rfl ?_
      first
        | (rw [cAt_in hj] at k; exact k)
        | (simpa [cAt, c1, c2] using k)
set_option maxHeartbeats 4000000 in
set_option maxRecDepth 20000 in
theorem c_wholeAt {g : GE} {d : Nat} {w : GW} {Q : Option Value → GW → Prop} (hd : 1 ≤ d) {i : Int32} (hS : SK g w) (k : Q (some (.int (FP.d2i (cAt g w i)))) w) : gM g d mX2_wholeAt [.ref (eB g + 66), .int i] w Q := by
  refine gM.of (by decide) (Nat.le_of_ble_eq_true rfl) ?_
  have o66 : gOb g w (eB g + 66) 2 := hS.ob 66 rfl
  refine g_aload_n dX2_wholeAt_0 rfl ?_
  refine g_iload_n dX2_wholeAt_1 rfl ?_
  refine g_callV (d1 := d - 1) (As := [_]) 2 dX2_wholeAt_2 vX2_13 (by omega) (by assumption) rfl rfl (Nat.le_of_ble_eq_true rfl) ?_
  refine c_at hS ?_
  refine g_d2i dX2_wholeAt_5 ?_
  refine g_iret dX2_wholeAt_6 rfl ?_
  exact k
set_option maxHeartbeats 4000000 in
set_option maxRecDepth 20000 in
theorem c_turn {g : GE} {d : Nat} {w : GW} {Q : Option Value → GW → Prop} {j : Nat} {x : UInt64} (hS : SK g w) (hj : j < 8) (k1 : fBeyond x → Q (some (.int 8)) w) (k2 : ¬ fBeyond x → Q (some (.int 0)) (setD w (eB g + 67) j x)) : gM g d mX2_turn [.ref (eB g + 66), .int (nI j), .double x] w Q := by
  refine gM.of (by decide) (Nat.le_of_ble_eq_true rfl) ?_
  have o66 : gOb g w (eB g + 66) 2 := hS.ob 66 rfl
  have o67 : gOb g w (eB g + 67) 10 := hS.ob 67 rfl
  have l67 : gL w (eB g + 67) = 8 := hS.len 67 rfl (by decide)
  have r66 : gR w 128 (eB g + 66) = some (eB g + 67) := hS.rf 128 66 67 (by decide)
  have hj8 : j < gL w (eB g + 67) := by rw [l67]; exact hj
  have hji : nI j = nI j := rfl
  refine g_dload_n dX2_turn_0 rfl ?_
  refine g_ldc2d dX2_turn_1 qX2_17 ?_
  refine g_dcmp dX2_turn_4 ?_
  refine g_if_gt 16 dX2_turn_5 (by decide) (fun c1 => ?_) (fun c1 => ?_)
  · refine g_bipushV (v := 8) dX2_turn_16 (by decide) ?_
    refine g_iret dX2_turn_18 rfl ?_
    first
      | exact k1 (Or.inl ((cv_gtl _).mp c1))
      | exact absurd c3 (nI_pos (by omega))
      | exact absurd c4 (nI_ge hj (by decide))
      | exact k2 (fun q => q.elim (fun q => c1 ((cv_gtl _).mpr q)) (fun q => (cv_geg _).mp c2 q))
      | exact k1 (Or.inr (Classical.byContradiction fun q => c2 ((cv_geg _).mpr q)))
  · refine g_dload_n dX2_turn_8 rfl ?_
    refine g_ldc2d dX2_turn_9 qX2_19 ?_
    refine g_dcmp dX2_turn_12 ?_
    refine g_if_ge 19 dX2_turn_13 (by decide) (fun c2 => ?_) (fun c2 => ?_)
    · refine g_iload_n dX2_turn_19 rfl ?_
      refine g_if_lt 36 dX2_turn_20 (by decide) (fun c3 => ?_) (fun c3 => ?_)
      · refine g_iconstV (v := 0) dX2_turn_36 (by decide) ?_
        refine g_iret dX2_turn_37 rfl ?_
        first
          | exact k1 (Or.inl ((cv_gtl _).mp c1))
          | exact absurd c3 (nI_pos (by omega))
          | exact absurd c4 (nI_ge hj (by decide))
          | exact k2 (fun q => q.elim (fun q => c1 ((cv_gtl _).mpr q)) (fun q => (cv_geg _).mp c2 q))
          | exact k1 (Or.inr (Classical.byContradiction fun q => c2 ((cv_geg _).mpr q)))
      · refine g_iload_n dX2_turn_23 rfl ?_
        refine g_bipushV (v := 8) dX2_turn_24 (by decide) ?_
        refine g_icmp_ge 36 dX2_turn_26 (by decide) (fun c4 => ?_) (fun c4 => ?_)
        · refine g_iconstV (v := 0) dX2_turn_36 (by decide) ?_
          refine g_iret dX2_turn_37 rfl ?_
          first
            | exact k1 (Or.inl ((cv_gtl _).mp c1))
            | exact absurd c3 (nI_pos (by omega))
            | exact absurd c4 (nI_ge hj (by decide))
            | exact k2 (fun q => q.elim (fun q => c1 ((cv_gtl _).mpr q)) (fun q => (cv_geg _).mp c2 q))
            | exact k1 (Or.inr (Classical.byContradiction fun q => c2 ((cv_geg _).mpr q)))
        · refine g_aload_n dX2_turn_29 rfl ?_
          refine g_getR 2 0 128 dX2_turn_30 fX2_9 rfl rfl (by assumption) (by assumption) ?_
          refine g_iload_n dX2_turn_33 rfl ?_
          refine g_dload_n dX2_turn_34 rfl ?_
          refine g_dast dX2_turn_35 (by assumption) (by assumption) (by assumption) ?_
          refine g_iconstV (v := 0) dX2_turn_36 (by decide) ?_
          refine g_iret dX2_turn_37 rfl ?_
          first
            | exact k1 (Or.inl ((cv_gtl _).mp c1))
            | exact absurd c3 (nI_pos (by omega))
            | exact absurd c4 (nI_ge hj (by decide))
            | exact k2 (fun q => q.elim (fun q => c1 ((cv_gtl _).mpr q)) (fun q => (cv_geg _).mp c2 q))
            | exact k1 (Or.inr (Classical.byContradiction fun q => c2 ((cv_geg _).mpr q)))
    · refine g_bipushV (v := 8) dX2_turn_16 (by decide) ?_
      refine g_iret dX2_turn_18 rfl ?_
      first
        | exact k1 (Or.inl ((cv_gtl _).mp c1))
        | exact absurd c3 (nI_pos (by omega))
        | exact absurd c4 (nI_ge hj (by decide))
        | exact k2 (fun q => q.elim (fun q => c1 ((cv_gtl _).mpr q)) (fun q => (cv_geg _).mp c2 q))
        | exact k1 (Or.inr (Classical.byContradiction fun q => c2 ((cv_geg _).mpr q)))
set_option maxHeartbeats 4000000 in
set_option maxRecDepth 20000 in
theorem c_empty {g : GE} {d : Nat} {w : GW} {Q : Option Value → GW → Prop} (hS : SK g w) (k : Q none (setI w 257 (eB g + 68) 0)) : gM g d mX4_empty [.ref (eB g + 68)] w Q := by
  refine gM.of (by decide) (Nat.le_of_ble_eq_true rfl) ?_
  have o68 : gOb g w (eB g + 68) 4 := hS.ob 68 rfl
  refine g_aload_n dX4_empty_0 rfl ?_
  refine g_iconstV (v := 0) dX4_empty_1 (by decide) ?_
  refine g_putI 4 1 257 dX4_empty_2 fX4_15 rfl rfl (by assumption) ?_
  refine g_vret dX4_empty_5 rfl ?_
  exact k
set_option maxHeartbeats 4000000 in
set_option maxRecDepth 20000 in
theorem c_append {g : GE} {d : Nat} {w : GW} {Q : Option Value → GW → Prop} {n : Nat} {x : UInt64} (hS : SK g w) (hu : gI w 257 (eB g + 68) = nI n) (hn : n < 800) (k : Q none (setI (setD w (eB g + 69) n x) 257 (eB g + 68) (nI (n + 1)))) : gM g d mX4_append [.ref (eB g + 68), .double x] w Q := by
  refine gM.of (by decide) (Nat.le_of_ble_eq_true rfl) ?_
  have o68 : gOb g w (eB g + 68) 4 := hS.ob 68 rfl
  have o69 : gOb g w (eB g + 69) 10 := hS.ob 69 rfl
  have l69 : gL w (eB g + 69) = 800 := hS.len 69 rfl (by decide)
  have r68 : gR w 256 (eB g + 68) = some (eB g + 69) := hS.rf 256 68 69 (by decide)
  have hj8 : n < gL w (eB g + 69) := by rw [l69]; exact hn
  refine g_aload_n dX4_append_0 rfl ?_
  refine g_getI 4 1 257 dX4_append_1 fX4_15 rfl rfl (by assumption) ?_
  refine g_if_lt 37 dX4_append_4 (by decide) (fun c1 => ?_) (fun c1 => ?_)
  · refine g_vret dX4_append_37 rfl ?_
    first
      | (rw [hu] at c1; exact absurd c1 (nI_pos (by omega)))
      | (rw [hu] at c2; exact absurd c2 (nI_ge hn (by decide)))
      | (have e : gI w 257 (eB g + 68) + 1 = nI (n + 1) := (by rw [hu]; exact nI_1 n)
         exact e ▸ k)
  · refine g_aload_n dX4_append_7 rfl ?_
    refine g_getI 4 1 257 dX4_append_8 fX4_15 rfl rfl (by assumption) ?_
    refine g_sipushV (v := 800) dX4_append_11 (by decide) ?_
    refine g_icmp_ge 37 dX4_append_14 (by decide) (fun c2 => ?_) (fun c2 => ?_)
    · refine g_vret dX4_append_37 rfl ?_
      first
        | (rw [hu] at c1; exact absurd c1 (nI_pos (by omega)))
        | (rw [hu] at c2; exact absurd c2 (nI_ge hn (by decide)))
        | (have e : gI w 257 (eB g + 68) + 1 = nI (n + 1) := (by rw [hu]; exact nI_1 n)
           exact e ▸ k)
    · refine g_aload_n dX4_append_17 rfl ?_
      refine g_getR 4 0 256 dX4_append_18 fX4_11 rfl rfl (by assumption) (by assumption) ?_
      refine g_aload_n dX4_append_21 rfl ?_
      refine g_getI 4 1 257 dX4_append_22 fX4_15 rfl rfl (by assumption) ?_
      refine g_dload_n dX4_append_25 rfl ?_
      refine g_dast dX4_append_26 (by assumption) (by assumption) (by assumption) ?_
      refine g_aload_n dX4_append_27 rfl ?_
      refine g_dup dX4_append_28 rfl ?_
      refine g_getI 4 1 257 dX4_append_29 fX4_15 rfl rfl (by assumption) ?_
      refine g_iconstV (v := 1) dX4_append_32 (by decide) ?_
      refine g_iadd dX4_append_33 ?_
      refine g_putI 4 1 257 dX4_append_34 fX4_15 rfl rfl (by assumption) ?_
      refine g_vret dX4_append_37 rfl ?_
      first
        | (rw [hu] at c1; exact absurd c1 (nI_pos (by omega)))
        | (rw [hu] at c2; exact absurd c2 (nI_ge hn (by decide)))
        | (have e : gI w 257 (eB g + 68) + 1 = nI (n + 1) := (by rw [hu]; exact nI_1 n)
           exact e ▸ k)
def cLog (g : GE) (w : GW) (i : Int32) : UInt64 := if i < 0 ∨ gI w 257 (eB g + 68) ≤ i ∨ 800 ≤ i then FP.dconst0 else gD w (eB g + 69) i.toNatClampNeg
set_option maxHeartbeats 4000000 in
set_option maxRecDepth 20000 in
theorem c_logAt {g : GE} {d : Nat} {w : GW} {Q : Option Value → GW → Prop} {i : Int32} (hS : SK g w) (k : Q (some (.double (cLog g w i))) w) : gM g d mX4_at [.ref (eB g + 68), .int i] w Q := by
  refine gM.of (by decide) (Nat.le_of_ble_eq_true rfl) ?_
  have o68 : gOb g w (eB g + 68) 4 := hS.ob 68 rfl
  have o69 : gOb g w (eB g + 69) 10 := hS.ob 69 rfl
  have l69 : gL w (eB g + 69) = 800 := hS.len 69 rfl (by decide)
  have r68 : gR w 256 (eB g + 68) = some (eB g + 69) := hS.rf 256 68 69 (by decide)
  refine g_iload_n dX4_at_0 rfl ?_
  refine g_if_lt 28 dX4_at_1 (by decide) (fun c1 => ?_) (fun c1 => ?_)
  · refine g_dconst0 dX4_at_28 ?_
    refine g_dret dX4_at_29 rfl ?_
    first
      | (rw [ek] at k; exact k)
      | (simpa [cLog, c1] using k)
  · refine g_iload_n dX4_at_4 rfl ?_
    refine g_aload_n dX4_at_5 rfl ?_
    refine g_getI 4 1 257 dX4_at_6 fX4_15 rfl rfl (by assumption) ?_
    refine g_icmp_ge 28 dX4_at_9 (by decide) (fun c2 => ?_) (fun c2 => ?_)
    · refine g_dconst0 dX4_at_28 ?_
      refine g_dret dX4_at_29 rfl ?_
      first
        | (rw [ek] at k; exact k)
        | (simpa [cLog, c1, c2] using k)
    · refine g_iload_n dX4_at_12 rfl ?_
      refine g_sipushV (v := 800) dX4_at_13 (by decide) ?_
      refine g_icmp_ge 28 dX4_at_16 (by decide) (fun c3 => ?_) (fun c3 => ?_)
      · refine g_dconst0 dX4_at_28 ?_
        refine g_dret dX4_at_29 rfl ?_
        first
          | (rw [ek] at k; exact k)
          | (simpa [cLog, c1, c2, c3] using k)
      · obtain ⟨j, hj, rfl⟩ := nI_of_rng (n := 800) c1 c3 (by decide)
        have hj8 : j < gL w (eB g + 69) := by rw [l69]; exact hj
        have hji : nI j = nI j := rfl
        have ek : cLog g w (nI j) = gD w (eB g + 69) j := by rw [cLog, if_neg (fun q => q.elim c1 (fun q => q.elim c2 c3)), nI_clamp (by omega)]
        refine g_aload_n dX4_at_19 rfl ?_
        refine g_getR 4 0 256 dX4_at_20 fX4_11 rfl rfl (by assumption) (by assumption) ?_
        refine g_iload_n dX4_at_23 rfl ?_
        refine g_dald dX4_at_24 (by assumption) (by assumption) (by assumption) ?_
        refine g_goto 29 dX4_at_25 (by decide) ?_
        refine g_dret dX4_at_29 rfl ?_
        first
          | (rw [ek] at k; exact k)
          | (simpa [cLog, c1, c2, c3] using k)
theorem rw_tab1 : ∀ r, r < 18 → kTab[12 + 3 * r]? = some 6 ∧ kTab[13 + 3 * r]? = some 10 ∧ kTab[14 + 3 * r]? = some 12 := by decide +kernel
theorem rw_tab2 : ∀ r, r < 18 → lTab[13 + 3 * r]? = some 16 ∧ lTab[14 + 3 * r]? = some 16 := by decide +kernel
theorem rw_tab3 : ∀ r, r < 18 → (385, 12 + 3 * r, 13 + 3 * r) ∈ rTab ∧ (386, 12 + 3 * r, 14 + 3 * r) ∈ rTab := by decide +kernel
theorem rw_tab4 : ∀ r, r < 18 → (384, 12 + 3 * r, nI (r / 2)) ∈ iTab := by decide +kernel
theorem rw_tab5 : ∀ r, r < 18 → (11, r, 12 + 3 * r) ∈ pTab := by decide +kernel
theorem rw_tab6 : ∀ r, r < 18 → 10 ≤ kTab.getD (13 + 3 * r) 0 ∧ 10 ≤ kTab.getD (14 + 3 * r) 0 := by decide +kernel
/-- the address of Row r, of its doubles, of its flags -/
def aRow (g : GE) (r : Nat) : Nat := eB g + (12 + 3 * r)
def aRd (g : GE) (r : Nat) : Nat := eB g + (13 + 3 * r)
def aRz (g : GE) (r : Nat) : Nat := eB g + (14 + 3 * r)
theorem SK.row {g : GE} {w : GW} (h : SK g w) {r : Nat} (hr : r < 18) : gOb g w (aRow g r) 6 ∧ gOb g w (aRd g r) 10 ∧ gOb g w (aRz g r) 12 ∧ gL w (aRd g r) = 16 ∧ gL w (aRz g r) = 16 ∧ gR w 385 (aRow g r) = some (aRd g r) ∧ gR w 386 (aRow g r) = some (aRz g r) ∧ gI w 384 (aRow g r) = nI (r / 2) ∧ gP w (eB g + 11) r = some (aRow g r) := by
  obtain ⟨h1, h2, h3⟩ := rw_tab1 r hr
  obtain ⟨h4, h5⟩ := rw_tab2 r hr
  obtain ⟨h6, h7⟩ := rw_tab3 r hr
  have h8 := rw_tab4 r hr
  have h9 := rw_tab5 r hr
  obtain ⟨h10, h11⟩ := rw_tab6 r hr
  exact ⟨h.ob _ h1, h.ob _ h2, h.ob _ h3, h.len _ h4 h10, h.len _ h5 h11, h.rf _ _ _ h6, h.rf _ _ _ h7, h.it _ _ _ h8, h.pt _ _ _ h9⟩
def rowPl (g : GE) (w : GW) (r : Nat) : Int32 := gI w 387 (aRow g r)
def fFaultAt (pl i : Int32) : Int32 := if 0 ≤ pl then (if i < 0 ∨ pl ≤ i ∨ 16 ≤ i then 4 else 0) else 3
theorem fFaultAt_0 {pl i : Int32} (h : fFaultAt pl i = 0) : ∃ j : Nat, j < 16 ∧ i = nI j ∧ ¬ pl ≤ i ∧ 0 ≤ pl := by
  unfold fFaultAt at h
  by_cases h1 : 0 ≤ pl
  · rw [if_pos h1] at h
    by_cases h2 : i < 0 ∨ pl ≤ i ∨ 16 ≤ i
    · rw [if_pos h2] at h; exact absurd h (by decide)
    · obtain ⟨j, hj, e⟩ := nI_of_rng (n := 16) (fun q => h2 (Or.inl q)) (fun q => h2 (Or.inr (Or.inr q))) (by decide)
      exact ⟨j, hj, e, fun q => h2 (Or.inr (Or.inl q)), h1⟩
  · rw [if_neg h1] at h; exact absurd h (by decide)
def fUse (g : GE) (w : GW) (r : Nat) (i : Int32) : Int32 := if fFaultAt (rowPl g w r) i = 0 then (if gA w (aRz g r) i.toNatClampNeg = 0 then 3 else 0) else fFaultAt (rowPl g w r) i
set_option maxHeartbeats 4000000 in
set_option maxRecDepth 20000 in
theorem c_faultAt {g : GE} {d : Nat} {w : GW} {Q : Option Value → GW → Prop} {r : Nat} {i : Int32} (hS : SK g w) (hr : r < 18) (k : Q (some (.int (fFaultAt (rowPl g w r) i))) w) : gM g d mX6_faultAt [.ref (aRow g r), .int i] w Q := by
  refine gM.of (by decide) (Nat.le_of_ble_eq_true rfl) ?_
  obtain ⟨o1, o2, o3, l2, l3, r2, r3, i1, p1⟩ := hS.row hr
  refine g_aload_n dX6_faultAt_0 rfl ?_
  refine g_getI 6 3 387 dX6_faultAt_1 fX6_21 rfl rfl (by assumption) ?_
  refine g_if_ge 9 dX6_faultAt_4 (by decide) (fun c1 => ?_) (fun c1 => ?_)
  · refine g_iload_n dX6_faultAt_9 rfl ?_
    refine g_if_lt 31 dX6_faultAt_10 (by decide) (fun c2 => ?_) (fun c2 => ?_)
    · refine g_iconstV (v := 4) dX6_faultAt_31 (by decide) ?_
      refine g_iret dX6_faultAt_32 rfl ?_
      simp only [fFaultAt, rowPl, c1, c2, if_true, if_false, true_or, or_true, or_self, false_or, or_false] at k
      exact k
    · refine g_iload_n dX6_faultAt_13 rfl ?_
      refine g_aload_n dX6_faultAt_14 rfl ?_
      refine g_getI 6 3 387 dX6_faultAt_15 fX6_21 rfl rfl (by assumption) ?_
      refine g_icmp_ge 31 dX6_faultAt_18 (by decide) (fun c3 => ?_) (fun c3 => ?_)
      · refine g_iconstV (v := 4) dX6_faultAt_31 (by decide) ?_
        refine g_iret dX6_faultAt_32 rfl ?_
        simp only [fFaultAt, rowPl, c1, c2, c3, if_true, if_false, true_or, or_true, or_self, false_or, or_false] at k
        exact k
      · refine g_iload_n dX6_faultAt_21 rfl ?_
        refine g_bipushV (v := 16) dX6_faultAt_22 (by decide) ?_
        refine g_icmp_ge 31 dX6_faultAt_24 (by decide) (fun c4 => ?_) (fun c4 => ?_)
        · refine g_iconstV (v := 4) dX6_faultAt_31 (by decide) ?_
          refine g_iret dX6_faultAt_32 rfl ?_
          simp only [fFaultAt, rowPl, c1, c2, c3, c4, if_true, if_false, true_or, or_true, or_self, false_or, or_false] at k
          exact k
        · refine g_iconstV (v := 0) dX6_faultAt_27 (by decide) ?_
          refine g_goto 32 dX6_faultAt_28 (by decide) ?_
          refine g_iret dX6_faultAt_32 rfl ?_
          simp only [fFaultAt, rowPl, c1, c2, c3, c4, if_true, if_false, true_or, or_true, or_self, false_or, or_false] at k
          exact k
  · refine g_iconstV (v := 3) dX6_faultAt_7 (by decide) ?_
    refine g_iret dX6_faultAt_8 rfl ?_
    simp only [fFaultAt, rowPl, c1, if_true, if_false, true_or, or_true, or_self, false_or, or_false] at k
    exact k
set_option maxHeartbeats 4000000 in
set_option maxRecDepth 20000 in
theorem c_faultOfUse {g : GE} {d : Nat} {w : GW} {Q : Option Value → GW → Prop} (hd : 1 ≤ d) {r : Nat} {i : Int32} (hS : SK g w) (hr : r < 18) (k : Q (some (.int (fUse g w r i))) w) : gM g d mX6_faultOfUse [.ref (aRow g r), .int i] w Q := by
  refine gM.of (by decide) (Nat.le_of_ble_eq_true rfl) ?_
  obtain ⟨o1, o2, o3, l2, l3, r2, r3, i1, p1⟩ := hS.row hr
  refine g_aload_n dX6_faultOfUse_0 rfl ?_
  refine g_iload_n dX6_faultOfUse_1 rfl ?_
  refine g_callV (d1 := d - 1) (As := [_]) 6 dX6_faultOfUse_2 vX6_26 (by omega) (by assumption) rfl rfl (Nat.le_of_ble_eq_true rfl) ?_
  refine c_faultAt hS hr ?_
  refine g_istore_n dX6_faultOfUse_5 (by decide) rfl ?_
  refine g_iload_n dX6_faultOfUse_6 rfl ?_
  refine g_if_eq 12 dX6_faultOfUse_7 (by decide) (fun c1 => ?_) (fun c1 => ?_)
  · obtain ⟨j, hj, rfl, -, -⟩ := fFaultAt_0 c1
    have hj8 : j < gL w (aRz g r) := by rw [l3]; exact hj
    have hji : nI j = nI j := rfl
    have ek : fUse g w r (nI j) = if gA w (aRz g r) j = 0 then 3 else 0 := by rw [fUse, if_pos c1, nI_clamp (by omega)]
    rw [ek] at k
    refine g_aload_n dX6_faultOfUse_12 rfl ?_
    refine g_getR 6 2 386 dX6_faultOfUse_13 fX6_17 rfl rfl (by assumption) (by assumption) ?_
    refine g_iload_n dX6_faultOfUse_16 rfl ?_
    refine g_zald dX6_faultOfUse_17 (by assumption) (by assumption) (by assumption) ?_
    refine g_if_eq 25 dX6_faultOfUse_18 (by decide) (fun c2 => ?_) (fun c2 => ?_)
    · refine g_iconstV (v := 3) dX6_faultOfUse_25 (by decide) ?_
      refine g_iret dX6_faultOfUse_26 rfl ?_
      first
        | (rw [fUse, if_neg c1] at k; exact k)
        | (rw [if_pos c2] at k; exact k)
        | (rw [if_neg c2] at k; exact k)
    · refine g_iconstV (v := 0) dX6_faultOfUse_21 (by decide) ?_
      refine g_goto 26 dX6_faultOfUse_22 (by decide) ?_
      refine g_iret dX6_faultOfUse_26 rfl ?_
      first
        | (rw [fUse, if_neg c1] at k; exact k)
        | (rw [if_pos c2] at k; exact k)
        | (rw [if_neg c2] at k; exact k)
  · refine g_iload_n dX6_faultOfUse_10 rfl ?_
    refine g_iret dX6_faultOfUse_11 rfl ?_
    first
      | (rw [fUse, if_neg c1] at k; exact k)
      | (rw [if_pos c2] at k; exact k)
      | (rw [if_neg c2] at k; exact k)
/-- Row.got -/
def cGot (g : GE) (w : GW) (r : Nat) (i : Int32) : UInt64 := if fUse g w r i = 0 then gD w (aRd g r) i.toNatClampNeg else FP.dconst0
theorem fUse_0 {g : GE} {w : GW} {r : Nat} {i : Int32} (h : fUse g w r i = 0) : fFaultAt (rowPl g w r) i = 0 := by
  unfold fUse at h
  by_cases h1 : fFaultAt (rowPl g w r) i = 0
  · exact h1
  · rw [if_neg h1] at h; exact absurd h h1
set_option maxHeartbeats 4000000 in
set_option maxRecDepth 20000 in
theorem c_got {g : GE} {d : Nat} {w : GW} {Q : Option Value → GW → Prop} (hd : 2 ≤ d) {r : Nat} {i : Int32} (hS : SK g w) (hr : r < 18) (k : Q (some (.double (cGot g w r i))) w) : gM g d mX6_got [.ref (aRow g r), .int i] w Q := by
  refine gM.of (by decide) (Nat.le_of_ble_eq_true rfl) ?_
  obtain ⟨o1, o2, o3, l2, l3, r2, r3, i1, p1⟩ := hS.row hr
  refine g_aload_n dX6_got_0 rfl ?_
  refine g_iload_n dX6_got_1 rfl ?_
  refine g_callV (d1 := d - 1) (As := [_]) 6 dX6_got_2 vX6_30 (by omega) (by assumption) rfl rfl (Nat.le_of_ble_eq_true rfl) ?_
  refine c_faultOfUse (by omega) hS hr ?_
  refine g_if_ne 17 dX6_got_5 (by decide) (fun c1 => ?_) (fun c1 => ?_)
  · refine g_dconst0 dX6_got_17 ?_
    refine g_dret dX6_got_18 rfl ?_
    first
      | exact k
      | (rw [cGot, if_neg c1] at k; exact k)
  · obtain ⟨j, hj, rfl, -, -⟩ := fFaultAt_0 (fUse_0 c1)
    have hj8 : j < gL w (aRd g r) := by rw [l2]; exact hj
    have hj9 : j < gL w (aRz g r) := by rw [l3]; exact hj
    have hji : nI j = nI j := rfl
    have hcj : (nI j).toNatClampNeg = j := nI_clamp (by omega)
    rw [cGot, if_pos c1, hcj] at k
    refine g_aload_n dX6_got_8 rfl ?_
    refine g_getR 6 1 385 dX6_got_9 fX6_13 rfl rfl (by assumption) (by assumption) ?_
    refine g_iload_n dX6_got_12 rfl ?_
    refine g_dald dX6_got_13 (by assumption) (by assumption) (by assumption) ?_
    refine g_goto 18 dX6_got_14 (by decide) ?_
    refine g_dret dX6_got_18 rfl ?_
    first
      | exact k
      | (rw [cGot, if_neg c1] at k; exact k)
/-- Row.asHeld, by the row's kind -/
def fHeld (k : Nat) (x : UInt64) : UInt64 := if k = 0 then (if FP.dcmp x FP.dconst0 = some .eq then FP.dconst0 else FP.dconst1) else if k = 1 then FP.i2d (FP.d2i x).toInt8.toInt32 else if k = 2 then FP.i2d ((FP.d2i x).toUInt32 % 65536).toInt32 else if k = 3 then FP.i2d (FP.d2i x).toInt16.toInt32 else if k = 4 then FP.i2d (FP.d2i x) else if k = 5 then FP.l2d (FP.d2l x) else if k = 6 then FP.f2d (FP.d2f x) else x
theorem nI_lit {k : Nat} (h : k < 2 ^ 31) (n : Nat) (hn : n < 2 ^ 31) : nI k = nI n ↔ k = n := nI_eq h hn
set_option maxHeartbeats 4000000 in
set_option maxRecDepth 20000 in
theorem c_asHeld {g : GE} {d : Nat} {w : GW} {Q : Option Value → GW → Prop} {r : Nat} {x : UInt64} (hS : SK g w) (hr : r < 18) (hf1 : vf_n32 (FP.d2f x)) (hf2 : vf_n64 (FP.f2d (FP.d2f x))) (k : Q (some (.double (fHeld (r / 2) x))) w) : gM g d mX6_asHeld [.ref (aRow g r), .double x] w Q := by
  refine gM.of (by decide) (Nat.le_of_ble_eq_true rfl) ?_
  obtain ⟨o1, o2, o3, l2, l3, r2, r3, i1, p1⟩ := hS.row hr
  refine g_aload_n dX6_asHeld_0 rfl ?_
  refine g_getI 6 0 384 dX6_asHeld_1 fX6_7 rfl rfl (by assumption) ?_
  refine g_tsw dX6_asHeld_4 [48, 60, 65, 70, 75, 79, 83] 87 (by decide) (by decide) (by decide) (by decide) (by decide) ?_ (fun c1 => ?_)
  · simp only [tswK]
    refine ⟨fun c1 => ?_, fun c1 => ?_, fun c1 => ?_, fun c1 => ?_, fun c1 => ?_, fun c1 => ?_, fun c1 => ?_, trivial⟩
    · replace c1 := c1.trans (by decide : _ = (0 : Int32))
      refine g_dload_n dX6_asHeld_48 rfl ?_
      refine g_dconst0 dX6_asHeld_49 ?_
      refine g_dcmp dX6_asHeld_50 ?_
      refine g_if_eq 58 dX6_asHeld_51 (by decide) (fun c2 => ?_) (fun c2 => ?_)
      · refine g_dconst0 dX6_asHeld_58 ?_
        refine g_dret dX6_asHeld_59 rfl ?_
        have hk9 : r / 2 < 2 ^ 31 := by omega
        rw [i1] at c1
        have c1x := (nI_lit hk9 _ (by decide)).mp (c1.trans (by decide : _ = nI 0))
        rw [cv_eql] at c2
        simpa [fHeld, c1x, c2] using k
      · refine g_dconst1 dX6_asHeld_54 ?_
        refine g_goto 59 dX6_asHeld_55 (by decide) ?_
        refine g_dret dX6_asHeld_59 rfl ?_
        have hk9 : r / 2 < 2 ^ 31 := by omega
        rw [i1] at c1
        have c1x := (nI_lit hk9 _ (by decide)).mp (c1.trans (by decide : _ = nI 0))
        rw [cv_eql] at c2
        simpa [fHeld, c1x, c2] using k
    · replace c1 := c1.trans (by decide : _ = (1 : Int32))
      refine g_dload_n dX6_asHeld_60 rfl ?_
      refine g_d2i dX6_asHeld_61 ?_
      refine g_i2b dX6_asHeld_62 ?_
      refine g_i2d dX6_asHeld_63 ?_
      refine g_dret dX6_asHeld_64 rfl ?_
      have hk9 : r / 2 < 2 ^ 31 := by omega
      rw [i1] at c1
      have c1x := (nI_lit hk9 _ (by decide)).mp (c1.trans (by decide : _ = nI 1))
      simpa [fHeld, c1x] using k
    · replace c1 := c1.trans (by decide : _ = (2 : Int32))
      refine g_dload_n dX6_asHeld_65 rfl ?_
      refine g_d2i dX6_asHeld_66 ?_
      refine g_i2c dX6_asHeld_67 ?_
      refine g_i2d dX6_asHeld_68 ?_
      refine g_dret dX6_asHeld_69 rfl ?_
      have hk9 : r / 2 < 2 ^ 31 := by omega
      rw [i1] at c1
      have c1x := (nI_lit hk9 _ (by decide)).mp (c1.trans (by decide : _ = nI 2))
      simpa [fHeld, c1x] using k
    · replace c1 := c1.trans (by decide : _ = (3 : Int32))
      refine g_dload_n dX6_asHeld_70 rfl ?_
      refine g_d2i dX6_asHeld_71 ?_
      refine g_i2s dX6_asHeld_72 ?_
      refine g_i2d dX6_asHeld_73 ?_
      refine g_dret dX6_asHeld_74 rfl ?_
      have hk9 : r / 2 < 2 ^ 31 := by omega
      rw [i1] at c1
      have c1x := (nI_lit hk9 _ (by decide)).mp (c1.trans (by decide : _ = nI 3))
      simpa [fHeld, c1x] using k
    · replace c1 := c1.trans (by decide : _ = (4 : Int32))
      refine g_dload_n dX6_asHeld_75 rfl ?_
      refine g_d2i dX6_asHeld_76 ?_
      refine g_i2d dX6_asHeld_77 ?_
      refine g_dret dX6_asHeld_78 rfl ?_
      have hk9 : r / 2 < 2 ^ 31 := by omega
      rw [i1] at c1
      have c1x := (nI_lit hk9 _ (by decide)).mp (c1.trans (by decide : _ = nI 4))
      simpa [fHeld, c1x] using k
    · replace c1 := c1.trans (by decide : _ = (5 : Int32))
      refine g_dload_n dX6_asHeld_79 rfl ?_
      refine g_d2l dX6_asHeld_80 ?_
      refine g_l2d dX6_asHeld_81 ?_
      refine g_dret dX6_asHeld_82 rfl ?_
      have hk9 : r / 2 < 2 ^ 31 := by omega
      rw [i1] at c1
      have c1x := (nI_lit hk9 _ (by decide)).mp (c1.trans (by decide : _ = nI 5))
      simpa [fHeld, c1x] using k
    · replace c1 := c1.trans (by decide : _ = (6 : Int32))
      refine g_dload_n dX6_asHeld_83 rfl ?_
      refine g_d2f dX6_asHeld_84 hf1 ?_
      refine g_f2d dX6_asHeld_85 hf2 ?_
      refine g_dret dX6_asHeld_86 rfl ?_
      have hk9 : r / 2 < 2 ^ 31 := by omega
      rw [i1] at c1
      have c1x := (nI_lit hk9 _ (by decide)).mp (c1.trans (by decide : _ = nI 6))
      simpa [fHeld, c1x] using k
  · have c1n0 := tsw_ne c1 0 (by decide)
    have c1n1 := tsw_ne c1 1 (by decide)
    have c1n2 := tsw_ne c1 2 (by decide)
    have c1n3 := tsw_ne c1 3 (by decide)
    have c1n4 := tsw_ne c1 4 (by decide)
    have c1n5 := tsw_ne c1 5 (by decide)
    have c1n6 := tsw_ne c1 6 (by decide)
    refine g_dload_n dX6_asHeld_87 rfl ?_
    refine g_dret dX6_asHeld_88 rfl ?_
    have hk9 : r / 2 < 2 ^ 31 := by omega
    rw [i1] at c1n0 c1n1 c1n2 c1n3 c1n4 c1n5 c1n6
    have c1n0x : ¬ r / 2 = 0 := fun z => c1n0 (by rw [z]; rfl)
    have c1n1x : ¬ r / 2 = 1 := fun z => c1n1 (by rw [z]; rfl)
    have c1n2x : ¬ r / 2 = 2 := fun z => c1n2 (by rw [z]; rfl)
    have c1n3x : ¬ r / 2 = 3 := fun z => c1n3 (by rw [z]; rfl)
    have c1n4x : ¬ r / 2 = 4 := fun z => c1n4 (by rw [z]; rfl)
    have c1n5x : ¬ r / 2 = 5 := fun z => c1n5 (by rw [z]; rfl)
    have c1n6x : ¬ r / 2 = 6 := fun z => c1n6 (by rw [z]; rfl)
    simpa [fHeld, c1n0x, c1n1x, c1n2x, c1n3x, c1n4x, c1n5x, c1n6x] using k
set_option maxHeartbeats 4000000 in
set_option maxRecDepth 20000 in
theorem c_put {g : GE} {d : Nat} {w : GW} {Q : Option Value → GW → Prop} (hd : 2 ≤ d) {r : Nat} {i : Int32} {x : UInt64} (hS : SK g w) (hr : r < 18) (hf1 : vf_n32 (FP.d2f x)) (hf2 : vf_n64 (FP.f2d (FP.d2f x))) (k1 : ¬ fUse g w r i = 0 → Q (some (.int (fUse g w r i))) w) (k2 : ∀ j : Nat, j < 16 → i = nI j → fUse g w r i = 0 → Q (some (.int 0)) (setD w (aRd g r) j (fHeld (r / 2) x))) : gM g d mX6_put [.ref (aRow g r), .int i, .double x] w Q := by
  refine gM.of (by decide) (Nat.le_of_ble_eq_true rfl) ?_
  obtain ⟨o1, o2, o3, l2, l3, r2, r3, i1, p1⟩ := hS.row hr
  refine g_aload_n dX6_put_0 rfl ?_
  refine g_iload_n dX6_put_1 rfl ?_
  refine g_callV (d1 := d - 1) (As := [_]) 6 dX6_put_2 vX6_30 (by omega) (by assumption) rfl rfl (Nat.le_of_ble_eq_true rfl) ?_
  refine c_faultOfUse (by omega) hS hr ?_
  refine g_istore dX6_put_5 (by decide) rfl ?_
  refine g_iload dX6_put_7 rfl ?_
  refine g_if_ne 23 dX6_put_9 (by decide) (fun c1 => ?_) (fun c1 => ?_)
  · refine g_iload dX6_put_23 rfl ?_
    refine g_iret dX6_put_25 rfl ?_
    first
      | exact k1 c1
      | (rw [c1]; exact k2 j hj rfl c1)
  · obtain ⟨j, hj, rfl, -, -⟩ := fFaultAt_0 (fUse_0 c1)
    have hj8 : j < gL w (aRd g r) := by rw [l2]; exact hj
    have hj9 : j < gL w (aRz g r) := by rw [l3]; exact hj
    have hji : nI j = nI j := rfl
    have hcj : (nI j).toNatClampNeg = j := nI_clamp (by omega)
    refine g_aload_n dX6_put_12 rfl ?_
    refine g_getR 6 1 385 dX6_put_13 fX6_13 rfl rfl (by assumption) (by assumption) ?_
    refine g_iload_n dX6_put_16 rfl ?_
    refine g_aload_n dX6_put_17 rfl ?_
    refine g_dload_n dX6_put_18 rfl ?_
    refine g_callV (d1 := d - 1) (As := [_]) 6 dX6_put_19 vX6_33 (by omega) (by assumption) rfl rfl (Nat.le_of_ble_eq_true rfl) ?_
    refine c_asHeld hS hr hf1 hf2 ?_
    refine g_dast dX6_put_22 (by assumption) (by assumption) (by assumption) ?_
    refine g_iload dX6_put_23 rfl ?_
    refine g_iret dX6_put_25 rfl ?_
    first
      | exact k1 c1
      | (rw [c1]; exact k2 j hj rfl c1)
set_option maxHeartbeats 4000000 in
set_option maxRecDepth 20000 in
theorem c_fit {g : GE} {d : Nat} {w : GW} {Q : Option Value → GW → Prop} (hd : 1 ≤ d) {r : Nat} {i : Int32} (hS : SK g w) (hr : r < 18) (k1 : ¬ fFaultAt (rowPl g w r) i = 0 → Q (some (.int (fFaultAt (rowPl g w r) i))) w) (k2 : ∀ j : Nat, j < 16 → i = nI j → fFaultAt (rowPl g w r) i = 0 → Q (some (.int 0)) (setA (setD w (aRd g r) j FP.dconst0) (aRz g r) j 1)) : gM g d mX6_fit [.ref (aRow g r), .int i] w Q := by
  refine gM.of (by decide) (Nat.le_of_ble_eq_true rfl) ?_
  obtain ⟨o1, o2, o3, l2, l3, r2, r3, i1, p1⟩ := hS.row hr
  refine g_aload_n dX6_fit_0 rfl ?_
  refine g_iload_n dX6_fit_1 rfl ?_
  refine g_callV (d1 := d - 1) (As := [_]) 6 dX6_fit_2 vX6_26 (by omega) (by assumption) rfl rfl (Nat.le_of_ble_eq_true rfl) ?_
  refine c_faultAt hS hr ?_
  refine g_istore_n dX6_fit_5 (by decide) rfl ?_
  refine g_iload_n dX6_fit_6 rfl ?_
  refine g_if_ne 24 dX6_fit_7 (by decide) (fun c1 => ?_) (fun c1 => ?_)
  · refine g_iload_n dX6_fit_24 rfl ?_
    refine g_iret dX6_fit_25 rfl ?_
    first
      | exact k1 c1
      | (rw [c1]; exact k2 j hj rfl c1)
  · obtain ⟨j, hj, rfl, -, -⟩ := fFaultAt_0 c1
    have hj8 : j < gL w (aRd g r) := by rw [l2]; exact hj
    have hj9 : j < gL w (aRz g r) := by rw [l3]; exact hj
    have hji : nI j = nI j := rfl
    have hcj : (nI j).toNatClampNeg = j := nI_clamp (by omega)
    refine g_aload_n dX6_fit_10 rfl ?_
    refine g_getR 6 1 385 dX6_fit_11 fX6_13 rfl rfl (by assumption) (by assumption) ?_
    refine g_iload_n dX6_fit_14 rfl ?_
    refine g_dconst0 dX6_fit_15 ?_
    refine g_dast dX6_fit_16 (by assumption) (by assumption) (by assumption) ?_
    refine g_aload_n dX6_fit_17 rfl ?_
    refine g_getR 6 2 386 dX6_fit_18 fX6_17 rfl rfl (by assumption) (by assumption) ?_
    refine g_iload_n dX6_fit_21 rfl ?_
    refine g_iconstV (v := 1) dX6_fit_22 (by decide) ?_
    refine g_zast dX6_fit_23 (by assumption) (by assumption) (by assumption) rfl ?_
    refine g_iload_n dX6_fit_24 rfl ?_
    refine g_iret dX6_fit_25 rfl ?_
    first
      | exact k1 c1
      | (rw [c1]; exact k2 j hj rfl c1)
set_option maxHeartbeats 4000000 in
set_option maxRecDepth 20000 in
theorem c_drop {g : GE} {d : Nat} {w : GW} {Q : Option Value → GW → Prop} {r : Nat} (hS : SK g w) (hr : r < 18) (k : Q none (setI w 387 (aRow g r) (-1))) : gM g d mX6_drop [.ref (aRow g r)] w Q := by
  refine gM.of (by decide) (Nat.le_of_ble_eq_true rfl) ?_
  obtain ⟨o1, o2, o3, l2, l3, r2, r3, i1, p1⟩ := hS.row hr
  refine g_aload_n dX6_drop_0 rfl ?_
  refine g_iconstV (v := -1) dX6_drop_1 (by decide) ?_
  refine g_putI 6 3 387 dX6_drop_2 fX6_21 rfl rfl (by assumption) ?_
  refine g_vret dX6_drop_5 rfl ?_
  exact k
def cProbe (g : GE) (w : GW) (r : Nat) (i : Int32) : Int32 := if r / 2 = 8 ∧ fUse g w r i = 0 then 1 else 0
set_option maxHeartbeats 4000000 in
set_option maxRecDepth 20000 in
theorem c_holdsProbe {g : GE} {d : Nat} {w : GW} {Q : Option Value → GW → Prop} (hd : 2 ≤ d) {r : Nat} {i : Int32} (hS : SK g w) (hr : r < 18) (k : Q (some (.int (cProbe g w r i))) w) : gM g d mX6_holdsProbe [.ref (aRow g r), .int i] w Q := by
  refine gM.of (by decide) (Nat.le_of_ble_eq_true rfl) ?_
  obtain ⟨o1, o2, o3, l2, l3, r2, r3, i1, p1⟩ := hS.row hr
  have e8 : gI w 384 (aRow g r) = 8 ↔ r / 2 = 8 := by rw [i1]; exact nI_eq (b := 8) (by omega) (by decide)
  refine g_aload_n dX6_holdsProbe_0 rfl ?_
  refine g_getI 6 0 384 dX6_holdsProbe_1 fX6_7 rfl rfl (by assumption) ?_
  refine g_bipushV (v := 8) dX6_holdsProbe_4 (by decide) ?_
  refine g_icmp_ne 21 dX6_holdsProbe_6 (by decide) (fun c1 => ?_) (fun c1 => ?_)
  · refine g_iconstV (v := 0) dX6_holdsProbe_21 (by decide) ?_
    refine g_zret dX6_holdsProbe_22 rfl rfl ?_
    rw [e8] at c1
    simpa [cProbe, c1] using k
  · refine g_aload_n dX6_holdsProbe_9 rfl ?_
    refine g_iload_n dX6_holdsProbe_10 rfl ?_
    refine g_callV (d1 := d - 1) (As := [_]) 6 dX6_holdsProbe_11 vX6_30 (by omega) (by assumption) rfl rfl (Nat.le_of_ble_eq_true rfl) ?_
    refine c_faultOfUse (by omega) hS hr ?_
    refine g_if_ne 21 dX6_holdsProbe_14 (by decide) (fun c2 => ?_) (fun c2 => ?_)
    · refine g_iconstV (v := 0) dX6_holdsProbe_21 (by decide) ?_
      refine g_zret dX6_holdsProbe_22 rfl rfl ?_
      rw [e8] at c1
      simpa [cProbe, c1, c2] using k
    · refine g_iconstV (v := 1) dX6_holdsProbe_17 (by decide) ?_
      refine g_goto 22 dX6_holdsProbe_18 (by decide) ?_
      refine g_zret dX6_holdsProbe_22 rfl rfl ?_
      rw [e8] at c1
      simpa [cProbe, c1, c2] using k
end
section
/-! ===== doubles: no NaN comes ===== -/
theorem n64 {x : UInt64} (h : FP.Core.val64 x ≠ .nan) : vf_n64 x := by
  have h1 := (FP.Core.ne_nan x).mp h
  unfold vf_n64
  rw [UInt64.le_iff_toNat_le, UInt64.toNat_and]
  have e : (0x7fffffffffffffff : UInt64).toNat = 2 ^ 63 - 1 := by decide
  rw [e, Nat.and_two_pow_sub_one_eq_mod]
  exact h1
theorem n32 {x : UInt32} (h : FP.Core.val32 x ≠ .nan) : vf_n32 x := by
  have h1 := (FP.Core.ne_nan32 x).mp h
  unfold vf_n32
  rw [UInt32.le_iff_toNat_le, UInt32.toNat_and]
  have e : (0x7fffffff : UInt32).toNat = 2 ^ 31 - 1 := by decide
  rw [e, Nat.and_two_pow_sub_one_eq_mod]
  exact h1
abbrev DF (x : UInt64) : Prop := FP.Core.DFin x
abbrev FF (x : UInt32) : Prop := FP.Core.FFin x
theorem DF.nn {x : UInt64} (h : DF x) : FP.Core.val64 x ≠ .nan := by
  obtain ⟨s, c, q, e⟩ := h
  rw [e]
  exact fun h => by cases h
theorem FF.nn {x : UInt32} (h : FF x) : FP.Core.val32 x ≠ .nan := by
  obtain ⟨s, c, q, e⟩ := h
  rw [e]
  exact fun h => by cases h
theorem nn_add {a b : UInt64} (ha : DF a) (hb : DF b) : vf_n64 (FP.dadd a b) := by
  refine n64 ?_
  obtain ⟨s, c, q, e⟩ := ha
  obtain ⟨t, d, r, e2⟩ := hb
  rw [FP.Core.val64_dadd, e, e2]
  exact fun h => by have := FP.Core.round_nan.mp h; cases this
theorem nn_sub {a b : UInt64} (ha : DF a) (hb : DF b) : vf_n64 (FP.dsub a b) := by
  refine n64 ?_
  obtain ⟨s, c, q, e⟩ := ha
  obtain ⟨t, d, r, e2⟩ := hb
  rw [FP.Core.val64_dsub, e, e2]
  exact fun h => by have := FP.Core.round_nan.mp h; cases this
theorem nn_mul {a b : UInt64} (ha : DF a) (hb : DF b) : vf_n64 (FP.dmul a b) := by
  refine n64 ?_
  obtain ⟨s, c, q, e⟩ := ha
  obtain ⟨t, d, r, e2⟩ := hb
  rw [FP.Core.val64_dmul, e, e2]
  exact fun h => by have := FP.Core.round_nan.mp h; cases this
theorem nn_div {a b : UInt64} (ha : DF a) (hb : DF b) (h0 : ¬ (FP.Core.DZero a ∧ FP.Core.DZero b)) : vf_n64 (FP.ddiv a b) := by
  refine n64 ?_
  obtain ⟨s, c, q, e⟩ := ha
  obtain ⟨t, d, r, e2⟩ := hb
  rw [FP.Core.val64_ddiv, e, e2]
  unfold FP.Core.quotient
  by_cases hd : d = 0
  · by_cases hc : c = 0
    · subst hd; subst hc; exact absurd ⟨⟨_, _, e⟩, ⟨_, _, e2⟩⟩ h0
    · simp [hd, hc]
  · simp only [if_neg hd]
    exact FP.Core.roundRatio_ne_nan _ _ _ _ _
theorem DF_one : DF FP.dconst1 := ⟨_, _, _, FP.Core.val64_dconst1⟩
theorem DF_zero : DF FP.dconst0 := ⟨_, _, _, FP.Core.val64_dconst0⟩
theorem one_nz : ¬ FP.Core.DZero FP.dconst1 := fun ⟨s, q, e⟩ => by rw [show FP.Core.val64 FP.dconst1 = _ from FP.Core.val64_dconst1] at e; cases e
theorem nn_inv {x : UInt64} (h : DF x) : vf_n64 (FP.ddiv FP.dconst1 x) := nn_div DF_one h (fun q => one_nz q.1)
theorem DF_neg {x : UInt64} (h : DF x) : DF (FP.dneg x) := by
  obtain ⟨s, c, q, e⟩ := h
  exact ⟨!s, c, q, by rw [FP.val64_dneg, e]; rfl⟩
theorem DF_l2d (x : Int64) : DF (FP.l2d x) := FP.Core.l2d_fin x
theorem DF_i2d (x : Int32) : DF (FP.i2d x) := FP.Core.i2d_fin x
/-! ===== Sums ===== -/
/-- Sums.hasMinus, and the model's isMinusNumber -/
def sMin (x : UInt64) : Int32 := if FP.dcmp x FP.dconst0 = some .lt then 1 else if FP.dcmp x FP.dconst0 = some .eq then (if FP.dcmp (FP.ddiv FP.dconst1 x) FP.dconst0 = some .lt then 1 else 0) else 0
def sLess (x y : UInt64) : Int32 := if FP.dcmp x y = some .lt then 1 else if FP.dcmp x y = some .eq then sMin x else 0
def sWith (x y : UInt64) : UInt64 := if sMin x = sMin y then x else FP.dneg x
def sBelow (y : UInt64) : UInt64 := if FP.dcmp y FP.dconst0 = some .eq then y else if FP.dcmp (FP.l2d (FP.d2l y)) y = some .gt then FP.dsub (FP.l2d (FP.d2l y)) FP.dconst1 else FP.l2d (FP.d2l y)
theorem sMin_01 (x : UInt64) : sMin x = 0 ∨ sMin x = 1 := by
  unfold sMin
  split
  · exact Or.inr rfl
  · split
    · split
      · exact Or.inr rfl
      · exact Or.inl rfl
    · exact Or.inl rfl
theorem sLess_01 (x y : UInt64) : sLess x y = 0 ∨ sLess x y = 1 := by
  unfold sLess
  split
  · exact Or.inr rfl
  · split
    · exact sMin_01 x
    · exact Or.inl rfl
theorem zb_of {x : Int32} (h : x = 0 ∨ x = 1) : narrow .boolean (.int x) = .int x := by rcases h with rfl | rfl <;> rfl
set_option maxHeartbeats 4000000 in
set_option maxRecDepth 20000 in
theorem c_hasMinus {g : GE} {d : Nat} {w : GW} {Q : Option Value → GW → Prop} {x : UInt64} (hx : DF x) (k : Q (some (.int (sMin x))) w) : gM g d mX8_hasMinus [.double x] w Q := by
  refine gM.of (by decide) (Nat.le_of_ble_eq_true rfl) ?_
  refine g_dload_n dX8_hasMinus_0 rfl ?_
  refine g_dconst0 dX8_hasMinus_1 ?_
  refine g_dcmp dX8_hasMinus_2 ?_
  refine g_if_lt 20 dX8_hasMinus_3 (by decide) (fun c1 => ?_) (fun c1 => ?_)
  · refine g_iconstV (v := 1) dX8_hasMinus_20 (by decide) ?_
    refine g_goto 25 dX8_hasMinus_21 (by decide) ?_
    refine g_zret dX8_hasMinus_25 rfl rfl ?_
    simp only [cv_gtl, cv_gtg, cv_lel, cv_gel, cv_geg, cv_ltl, cv_ltg, cv_leg, cv_eql, cv_eqg, Classical.not_not] at c1
    simpa [sMin, c1] using k
  · refine g_dload_n dX8_hasMinus_6 rfl ?_
    refine g_dconst0 dX8_hasMinus_7 ?_
    refine g_dcmp dX8_hasMinus_8 ?_
    refine g_if_ne 24 dX8_hasMinus_9 (by decide) (fun c2 => ?_) (fun c2 => ?_)
    · refine g_iconstV (v := 0) dX8_hasMinus_24 (by decide) ?_
      refine g_zret dX8_hasMinus_25 rfl rfl ?_
      simp only [cv_gtl, cv_gtg, cv_lel, cv_gel, cv_geg, cv_ltl, cv_ltg, cv_leg, cv_eql, cv_eqg, Classical.not_not] at c1 c2
      simpa [sMin, c1, c2] using k
    · refine g_dconst1 dX8_hasMinus_12 ?_
      refine g_dload_n dX8_hasMinus_13 rfl ?_
      refine g_ddiv dX8_hasMinus_14 (nn_inv hx) ?_
      refine g_dconst0 dX8_hasMinus_15 ?_
      refine g_dcmp dX8_hasMinus_16 ?_
      refine g_if_ge 24 dX8_hasMinus_17 (by decide) (fun c3 => ?_) (fun c3 => ?_)
      · refine g_iconstV (v := 0) dX8_hasMinus_24 (by decide) ?_
        refine g_zret dX8_hasMinus_25 rfl rfl ?_
        simp only [cv_gtl, cv_gtg, cv_lel, cv_gel, cv_geg, cv_ltl, cv_ltg, cv_leg, cv_eql, cv_eqg, Classical.not_not] at c1 c2 c3
        simpa [sMin, c1, c2, c3] using k
      · refine g_iconstV (v := 1) dX8_hasMinus_20 (by decide) ?_
        refine g_goto 25 dX8_hasMinus_21 (by decide) ?_
        refine g_zret dX8_hasMinus_25 rfl rfl ?_
        simp only [cv_gtl, cv_gtg, cv_lel, cv_gel, cv_geg, cv_ltl, cv_ltg, cv_leg, cv_eql, cv_eqg, Classical.not_not] at c1 c2 c3
        simpa [sMin, c1, c2, c3] using k
set_option maxHeartbeats 4000000 in
set_option maxRecDepth 20000 in
theorem c_isLess {g : GE} {d : Nat} {w : GW} {Q : Option Value → GW → Prop} (hd : 1 ≤ d) {x y : UInt64} (hx : DF x) (k : Q (some (.int (sLess x y))) w) : gM g d mX8_isLess [.double x, .double y] w Q := by
  refine gM.of (by decide) (Nat.le_of_ble_eq_true rfl) ?_
  refine g_dload_n dX8_isLess_0 rfl ?_
  refine g_dload_n dX8_isLess_1 rfl ?_
  refine g_dcmp dX8_isLess_2 ?_
  refine g_if_lt 19 dX8_isLess_3 (by decide) (fun c1 => ?_) (fun c1 => ?_)
  · refine g_iconstV (v := 1) dX8_isLess_19 (by decide) ?_
    refine g_goto 24 dX8_isLess_20 (by decide) ?_
    refine g_zret dX8_isLess_24 rfl rfl ?_
    try rw [cv_ltg] at c1
    try rw [cv_eql] at c1
    first
      | (simpa [sLess, c1] using k)
      | (have cm := (sMin_01 x).resolve_left c3; simpa [sLess, c1, cm] using k)
  · refine g_dload_n dX8_isLess_6 rfl ?_
    refine g_dload_n dX8_isLess_7 rfl ?_
    refine g_dcmp dX8_isLess_8 ?_
    refine g_if_ne 23 dX8_isLess_9 (by decide) (fun c2 => ?_) (fun c2 => ?_)
    · refine g_iconstV (v := 0) dX8_isLess_23 (by decide) ?_
      refine g_zret dX8_isLess_24 rfl rfl ?_
      try rw [cv_ltg] at c1
      try rw [cv_eql] at c1
      try rw [cv_ltg] at c2
      try rw [cv_eql] at c2
      first
        | (simpa [sLess, c1, c2] using k)
        | (have cm := (sMin_01 x).resolve_left c3; simpa [sLess, c1, c2, cm] using k)
    · refine g_dload_n dX8_isLess_12 rfl ?_
      refine g_callS (d1 := d - 1) (As := [_]) dX8_isLess_13 sX8_33 (by omega) rfl rfl (Nat.le_of_ble_eq_true rfl) ?_
      refine c_hasMinus hx ?_
      refine g_if_eq 23 dX8_isLess_16 (by decide) (fun c3 => ?_) (fun c3 => ?_)
      · refine g_iconstV (v := 0) dX8_isLess_23 (by decide) ?_
        refine g_zret dX8_isLess_24 rfl rfl ?_
        try rw [cv_ltg] at c1
        try rw [cv_eql] at c1
        try rw [cv_ltg] at c2
        try rw [cv_eql] at c2
        try rw [cv_ltg] at c3
        try rw [cv_eql] at c3
        first
          | (simpa [sLess, c1, c2, c3] using k)
          | (have cm := (sMin_01 x).resolve_left c3; simpa [sLess, c1, c2, c3, cm] using k)
      · refine g_iconstV (v := 1) dX8_isLess_19 (by decide) ?_
        refine g_goto 24 dX8_isLess_20 (by decide) ?_
        refine g_zret dX8_isLess_24 rfl rfl ?_
        try rw [cv_ltg] at c1
        try rw [cv_eql] at c1
        try rw [cv_ltg] at c2
        try rw [cv_eql] at c2
        try rw [cv_ltg] at c3
        try rw [cv_eql] at c3
        first
          | (simpa [sLess, c1, c2, c3] using k)
          | (have cm := (sMin_01 x).resolve_left c3; simpa [sLess, c1, c2, c3, cm] using k)
set_option maxHeartbeats 4000000 in
set_option maxRecDepth 20000 in
theorem c_withSign {g : GE} {d : Nat} {w : GW} {Q : Option Value → GW → Prop} (hd : 1 ≤ d) {x y : UInt64} (hx : DF x) (hy : DF y) (k : Q (some (.double (sWith x y))) w) : gM g d mX8_withSign [.double x, .double y] w Q := by
  refine gM.of (by decide) (Nat.le_of_ble_eq_true rfl) ?_
  refine g_dload_n dX8_withSign_0 rfl ?_
  refine g_callS (d1 := d - 1) (As := [_]) dX8_withSign_1 sX8_33 (by omega) rfl rfl (Nat.le_of_ble_eq_true rfl) ?_
  refine c_hasMinus hx ?_
  refine g_dload_n dX8_withSign_4 rfl ?_
  refine g_callS (d1 := d - 1) (As := [_]) dX8_withSign_5 sX8_33 (by omega) rfl rfl (Nat.le_of_ble_eq_true rfl) ?_
  refine c_hasMinus hy ?_
  refine g_icmp_ne 15 dX8_withSign_8 (by decide) (fun c1 => ?_) (fun c1 => ?_)
  · refine g_dload_n dX8_withSign_15 rfl ?_
    refine g_dneg dX8_withSign_16 ?_
    refine g_dret dX8_withSign_17 rfl ?_
    simpa [sWith, c1] using k
  · refine g_dload_n dX8_withSign_11 rfl ?_
    refine g_goto 17 dX8_withSign_12 (by decide) ?_
    refine g_dret dX8_withSign_17 rfl ?_
    simpa [sWith, c1] using k
set_option maxHeartbeats 4000000 in
set_option maxRecDepth 20000 in
theorem c_wholeBelow {g : GE} {d : Nat} {w : GW} {Q : Option Value → GW → Prop} {y : UInt64} (hy : DF y) (k : Q (some (.double (sBelow y))) w) : gM g d mX8_wholeBelow [.double y] w Q := by
  refine gM.of (by decide) (Nat.le_of_ble_eq_true rfl) ?_
  refine g_dload_n dX8_wholeBelow_0 rfl ?_
  refine g_dconst0 dX8_wholeBelow_1 ?_
  refine g_dcmp dX8_wholeBelow_2 ?_
  refine g_if_ne 8 dX8_wholeBelow_3 (by decide) (fun c1 => ?_) (fun c1 => ?_)
  · refine g_dload_n dX8_wholeBelow_8 rfl ?_
    refine g_d2l dX8_wholeBelow_9 ?_
    refine g_l2d dX8_wholeBelow_10 ?_
    refine g_dstore_n dX8_wholeBelow_11 (by decide) rfl ?_
    refine g_dload_n dX8_wholeBelow_12 rfl ?_
    refine g_dload_n dX8_wholeBelow_13 rfl ?_
    refine g_dcmp dX8_wholeBelow_14 ?_
    refine g_if_le 24 dX8_wholeBelow_15 (by decide) (fun c2 => ?_) (fun c2 => ?_)
    · refine g_dload_n dX8_wholeBelow_24 rfl ?_
      refine g_dret dX8_wholeBelow_25 rfl ?_
      simp only [cv_gtl, cv_gtg, cv_lel, cv_gel, cv_geg, cv_ltl, cv_ltg, cv_leg, cv_eql, cv_eqg, Classical.not_not] at c1 c2
      simpa [sBelow, c1, c2] using k
    · refine g_dload_n dX8_wholeBelow_18 rfl ?_
      refine g_dconst1 dX8_wholeBelow_19 ?_
      refine g_dsub dX8_wholeBelow_20 (nn_sub (DF_l2d _) DF_one) ?_
      refine g_goto 25 dX8_wholeBelow_21 (by decide) ?_
      refine g_dret dX8_wholeBelow_25 rfl ?_
      simp only [cv_gtl, cv_gtg, cv_lel, cv_gel, cv_geg, cv_ltl, cv_ltg, cv_leg, cv_eql, cv_eqg, Classical.not_not] at c1 c2
      simpa [sBelow, c1, c2] using k
  · refine g_dload_n dX8_wholeBelow_6 rfl ?_
    refine g_dret dX8_wholeBelow_7 rfl ?_
    simp only [cv_gtl, cv_gtg, cv_lel, cv_gel, cv_geg, cv_ltl, cv_ltg, cv_leg, cv_eql, cv_eqg, Classical.not_not] at c1
    simpa [sBelow, c1] using k
def sDivides (s : Int32) : Int32 := if s = 3 then 1 else if s = 4 then 1 else 0
set_option maxHeartbeats 4000000 in
set_option maxRecDepth 20000 in
theorem c_divides {g : GE} {d : Nat} {w : GW} {Q : Option Value → GW → Prop} {x : Int32} (k : Q (some (.int (sDivides x))) w) : gM g d mX8_divides [.int x] w Q := by
  refine gM.of (by decide) (Nat.le_of_ble_eq_true rfl) ?_
  refine g_iload_n dX8_divides_0 rfl ?_
  refine g_iconstV (v := 3) dX8_divides_1 (by decide) ?_
  refine g_icmp_eq 10 dX8_divides_2 (by decide) (fun c1 => ?_) (fun c1 => ?_)
  · refine g_iconstV (v := 1) dX8_divides_10 (by decide) ?_
    refine g_goto 15 dX8_divides_11 (by decide) ?_
    refine g_zret dX8_divides_15 rfl rfl ?_
    simpa [sDivides, c1] using k
  · refine g_iload_n dX8_divides_5 rfl ?_
    refine g_iconstV (v := 4) dX8_divides_6 (by decide) ?_
    refine g_icmp_ne 14 dX8_divides_7 (by decide) (fun c2 => ?_) (fun c2 => ?_)
    · refine g_iconstV (v := 0) dX8_divides_14 (by decide) ?_
      refine g_zret dX8_divides_15 rfl rfl ?_
      simpa [sDivides, c1, c2] using k
    · refine g_iconstV (v := 1) dX8_divides_10 (by decide) ?_
      refine g_goto 15 dX8_divides_11 (by decide) ?_
      refine g_zret dX8_divides_15 rfl rfl ?_
      simpa [sDivides, c1, c2] using k
def sWhole (s x y : Int32) : Int32 := if s = 0 then x + y else if s = 1 then x - y else if s = 2 then x * y else if s = 3 then (if y = 0 then 0 else x / y) else if s = 4 then (if y = 0 then 0 else x - x / y * y) else if s = 5 then x &&& y else if s = 6 then x ||| y else x ^^^ y
def sWide (s : Int32) (x y : Int64) : Int64 := if s = 0 then x + y else if s = 1 then x - y else if s = 2 then x * y else if s = 3 then (if y = 0 then 0 else x / y) else if s = 4 then (if y = 0 then 0 else x - x / y * y) else if s = 5 then x &&& y else if s = 6 then x ||| y else x ^^^ y
theorem lg0 (x : Int64) : lg_cmp x 0 = 0 ↔ x = 0 := by
  unfold lg_cmp
  by_cases h : x = 0
  · subst h; decide
  · simp only [h, if_false, iff_false]
    split <;> decide
set_option maxHeartbeats 4000000 in
set_option maxRecDepth 20000 in
theorem c_whole {g : GE} {d : Nat} {w : GW} {Q : Option Value → GW → Prop} {s x y : Int32} (k : Q (some (.int (sWhole s x y))) w) : gM g d mX8_whole [.int s, .int x, .int y] w Q := by
  refine gM.of (by decide) (Nat.le_of_ble_eq_true rfl) ?_
  refine g_iload_n dX8_whole_0 rfl ?_
  refine g_tsw dX8_whole_1 [44, 48, 52, 56, 68, 80, 84] 88 (by decide) (by decide) (by decide) (by decide) (by decide) ?_ (fun c1 => ?_)
  · simp only [tswK]
    refine ⟨fun c1 => ?_, fun c1 => ?_, fun c1 => ?_, fun c1 => ?_, fun c1 => ?_, fun c1 => ?_, fun c1 => ?_, trivial⟩
    · replace c1 := c1.trans (by decide : _ = (0 : Int32))
      refine g_iload_n dX8_whole_44 rfl ?_
      refine g_iload_n dX8_whole_45 rfl ?_
      refine g_iadd dX8_whole_46 ?_
      refine g_iret dX8_whole_47 rfl ?_
      simpa [sWhole, c1] using k
    · replace c1 := c1.trans (by decide : _ = (1 : Int32))
      refine g_iload_n dX8_whole_48 rfl ?_
      refine g_iload_n dX8_whole_49 rfl ?_
      refine g_isub dX8_whole_50 ?_
      refine g_iret dX8_whole_51 rfl ?_
      simpa [sWhole, c1] using k
    · replace c1 := c1.trans (by decide : _ = (2 : Int32))
      refine g_iload_n dX8_whole_52 rfl ?_
      refine g_iload_n dX8_whole_53 rfl ?_
      refine g_imul dX8_whole_54 ?_
      refine g_iret dX8_whole_55 rfl ?_
      simpa [sWhole, c1] using k
    · replace c1 := c1.trans (by decide : _ = (3 : Int32))
      refine g_iload_n dX8_whole_56 rfl ?_
      refine g_if_ne 64 dX8_whole_57 (by decide) (fun c2 => ?_) (fun c2 => ?_)
      · refine g_iload_n dX8_whole_64 rfl ?_
        refine g_iload_n dX8_whole_65 rfl ?_
        refine g_idiv dX8_whole_66 c2 ?_
        refine g_iret dX8_whole_67 rfl ?_
        simpa [sWhole, c1, c2] using k
      · refine g_iconstV (v := 0) dX8_whole_60 (by decide) ?_
        refine g_goto 67 dX8_whole_61 (by decide) ?_
        refine g_iret dX8_whole_67 rfl ?_
        simpa [sWhole, c1, c2] using k
    · replace c1 := c1.trans (by decide : _ = (4 : Int32))
      refine g_iload_n dX8_whole_68 rfl ?_
      refine g_if_ne 76 dX8_whole_69 (by decide) (fun c3 => ?_) (fun c3 => ?_)
      · refine g_iload_n dX8_whole_76 rfl ?_
        refine g_iload_n dX8_whole_77 rfl ?_
        refine g_irem dX8_whole_78 c3 ?_
        refine g_iret dX8_whole_79 rfl ?_
        simpa [sWhole, c1, c3] using k
      · refine g_iconstV (v := 0) dX8_whole_72 (by decide) ?_
        refine g_goto 79 dX8_whole_73 (by decide) ?_
        refine g_iret dX8_whole_79 rfl ?_
        simpa [sWhole, c1, c3] using k
    · replace c1 := c1.trans (by decide : _ = (5 : Int32))
      refine g_iload_n dX8_whole_80 rfl ?_
      refine g_iload_n dX8_whole_81 rfl ?_
      refine g_iand dX8_whole_82 ?_
      refine g_iret dX8_whole_83 rfl ?_
      simpa [sWhole, c1] using k
    · replace c1 := c1.trans (by decide : _ = (6 : Int32))
      refine g_iload_n dX8_whole_84 rfl ?_
      refine g_iload_n dX8_whole_85 rfl ?_
      refine g_ior dX8_whole_86 ?_
      refine g_iret dX8_whole_87 rfl ?_
      simpa [sWhole, c1] using k
  · have c1n0 := tsw_ne c1 0 (by decide)
    have c1n1 := tsw_ne c1 1 (by decide)
    have c1n2 := tsw_ne c1 2 (by decide)
    have c1n3 := tsw_ne c1 3 (by decide)
    have c1n4 := tsw_ne c1 4 (by decide)
    have c1n5 := tsw_ne c1 5 (by decide)
    have c1n6 := tsw_ne c1 6 (by decide)
    refine g_iload_n dX8_whole_88 rfl ?_
    refine g_iload_n dX8_whole_89 rfl ?_
    refine g_ixor dX8_whole_90 ?_
    refine g_iret dX8_whole_91 rfl ?_
    simpa [sWhole, c1n0, c1n1, c1n2, c1n3, c1n4, c1n5, c1n6] using k
set_option maxHeartbeats 4000000 in
set_option maxRecDepth 20000 in
theorem c_wide {g : GE} {d : Nat} {w : GW} {Q : Option Value → GW → Prop} {s : Int32} {x y : Int64} (k : Q (some (.long (sWide s x y))) w) : gM g d mX8_wide [.int s, .long x, .long y] w Q := by
  refine gM.of (by decide) (Nat.le_of_ble_eq_true rfl) ?_
  refine g_iload_n dX8_wide_0 rfl ?_
  refine g_tsw dX8_wide_1 [44, 48, 52, 56, 70, 84, 88] 92 (by decide) (by decide) (by decide) (by decide) (by decide) ?_ (fun c1 => ?_)
  · simp only [tswK]
    refine ⟨fun c1 => ?_, fun c1 => ?_, fun c1 => ?_, fun c1 => ?_, fun c1 => ?_, fun c1 => ?_, fun c1 => ?_, trivial⟩
    · replace c1 := c1.trans (by decide : _ = (0 : Int32))
      refine g_lload_n dX8_wide_44 rfl ?_
      refine g_lload_n dX8_wide_45 rfl ?_
      refine g_ladd dX8_wide_46 ?_
      refine g_lret dX8_wide_47 rfl ?_
      try rw [lg0] at c1
      simpa [sWide, c1] using k
    · replace c1 := c1.trans (by decide : _ = (1 : Int32))
      refine g_lload_n dX8_wide_48 rfl ?_
      refine g_lload_n dX8_wide_49 rfl ?_
      refine g_lsub dX8_wide_50 ?_
      refine g_lret dX8_wide_51 rfl ?_
      try rw [lg0] at c1
      simpa [sWide, c1] using k
    · replace c1 := c1.trans (by decide : _ = (2 : Int32))
      refine g_lload_n dX8_wide_52 rfl ?_
      refine g_lload_n dX8_wide_53 rfl ?_
      refine g_lmul dX8_wide_54 ?_
      refine g_lret dX8_wide_55 rfl ?_
      try rw [lg0] at c1
      simpa [sWide, c1] using k
    · replace c1 := c1.trans (by decide : _ = (3 : Int32))
      refine g_lload_n dX8_wide_56 rfl ?_
      refine g_lconstV (v := 0) dX8_wide_57 (by decide) ?_
      refine g_lcmp dX8_wide_58 ?_
      refine g_if_ne 66 dX8_wide_59 (by decide) (fun c2 => ?_) (fun c2 => ?_)
      · refine g_lload_n dX8_wide_66 rfl ?_
        refine g_lload_n dX8_wide_67 rfl ?_
        refine g_ldiv dX8_wide_68 (fun z => c2 ((lg0 _).mpr z)) ?_
        refine g_lret dX8_wide_69 rfl ?_
        try rw [lg0] at c1
        try rw [lg0] at c2
        simpa [sWide, c1, c2] using k
      · refine g_lconstV (v := 0) dX8_wide_62 (by decide) ?_
        refine g_goto 69 dX8_wide_63 (by decide) ?_
        refine g_lret dX8_wide_69 rfl ?_
        try rw [lg0] at c1
        try rw [lg0] at c2
        simpa [sWide, c1, c2] using k
    · replace c1 := c1.trans (by decide : _ = (4 : Int32))
      refine g_lload_n dX8_wide_70 rfl ?_
      refine g_lconstV (v := 0) dX8_wide_71 (by decide) ?_
      refine g_lcmp dX8_wide_72 ?_
      refine g_if_ne 80 dX8_wide_73 (by decide) (fun c3 => ?_) (fun c3 => ?_)
      · refine g_lload_n dX8_wide_80 rfl ?_
        refine g_lload_n dX8_wide_81 rfl ?_
        refine g_lrem dX8_wide_82 (fun z => c3 ((lg0 _).mpr z)) ?_
        refine g_lret dX8_wide_83 rfl ?_
        try rw [lg0] at c1
        try rw [lg0] at c3
        simpa [sWide, c1, c3] using k
      · refine g_lconstV (v := 0) dX8_wide_76 (by decide) ?_
        refine g_goto 83 dX8_wide_77 (by decide) ?_
        refine g_lret dX8_wide_83 rfl ?_
        try rw [lg0] at c1
        try rw [lg0] at c3
        simpa [sWide, c1, c3] using k
    · replace c1 := c1.trans (by decide : _ = (5 : Int32))
      refine g_lload_n dX8_wide_84 rfl ?_
      refine g_lload_n dX8_wide_85 rfl ?_
      refine g_land dX8_wide_86 ?_
      refine g_lret dX8_wide_87 rfl ?_
      try rw [lg0] at c1
      simpa [sWide, c1] using k
    · replace c1 := c1.trans (by decide : _ = (6 : Int32))
      refine g_lload_n dX8_wide_88 rfl ?_
      refine g_lload_n dX8_wide_89 rfl ?_
      refine g_lor dX8_wide_90 ?_
      refine g_lret dX8_wide_91 rfl ?_
      try rw [lg0] at c1
      simpa [sWide, c1] using k
  · have c1n0 := tsw_ne c1 0 (by decide)
    have c1n1 := tsw_ne c1 1 (by decide)
    have c1n2 := tsw_ne c1 2 (by decide)
    have c1n3 := tsw_ne c1 3 (by decide)
    have c1n4 := tsw_ne c1 4 (by decide)
    have c1n5 := tsw_ne c1 5 (by decide)
    have c1n6 := tsw_ne c1 6 (by decide)
    refine g_lload_n dX8_wide_92 rfl ?_
    refine g_lload_n dX8_wide_93 rfl ?_
    refine g_lxor dX8_wide_94 ?_
    refine g_lret dX8_wide_95 rfl ?_
    try rw [lg0] at c1n0
    try rw [lg0] at c1n1
    try rw [lg0] at c1n2
    try rw [lg0] at c1n3
    try rw [lg0] at c1n4
    try rw [lg0] at c1n5
    try rw [lg0] at c1n6
    simpa [sWide, c1n0, c1n1, c1n2, c1n3, c1n4, c1n5, c1n6] using k
def fWeight (kind number plain : Int32) : Int32 := if kind = 3 then plain + 10 else if kind = 5 then 3 * plain else if kind = 7 then plain + 100 else if kind = 8 then plain + 105 else if kind = 9 then plain + number else if kind = 11 then 2 * (plain + number) else plain
set_option maxHeartbeats 4000000 in
set_option maxRecDepth 20000 in
theorem c_weightOf {g : GE} {d : Nat} {w : GW} {Q : Option Value → GW → Prop} {kind number plain : Int32} (k : Q (some (.int (fWeight kind number plain))) w) : gM g d mX3_weightOf [.int kind, .int number, .int plain] w Q := by
  refine gM.of (by decide) (Nat.le_of_ble_eq_true rfl) ?_
  refine g_iload_n dX3_weightOf_0 rfl ?_
  refine g_tsw dX3_weightOf_1 [52, 81, 57, 81, 61, 66, 71, 81, 75] 81 (by decide) (by decide) (by decide) (by decide) (by decide) ?_ (fun c1 => ?_)
  · simp only [tswK]
    refine ⟨fun c1 => ?_, fun c1 => ?_, fun c1 => ?_, fun c1 => ?_, fun c1 => ?_, fun c1 => ?_, fun c1 => ?_, fun c1 => ?_, fun c1 => ?_, trivial⟩
    · replace c1 := c1.trans (by decide : _ = (3 : Int32))
      refine g_iload_n dX3_weightOf_52 rfl ?_
      refine g_bipushV (v := 10) dX3_weightOf_53 (by decide) ?_
      refine g_iadd dX3_weightOf_55 ?_
      refine g_iret dX3_weightOf_56 rfl ?_
      simpa [fWeight, c1] using k
    · replace c1 := c1.trans (by decide : _ = (4 : Int32))
      refine g_iload_n dX3_weightOf_81 rfl ?_
      refine g_iret dX3_weightOf_82 rfl ?_
      simpa [fWeight, c1] using k
    · replace c1 := c1.trans (by decide : _ = (5 : Int32))
      refine g_iconstV (v := 3) dX3_weightOf_57 (by decide) ?_
      refine g_iload_n dX3_weightOf_58 rfl ?_
      refine g_imul dX3_weightOf_59 ?_
      refine g_iret dX3_weightOf_60 rfl ?_
      simpa [fWeight, c1] using k
    · replace c1 := c1.trans (by decide : _ = (6 : Int32))
      refine g_iload_n dX3_weightOf_81 rfl ?_
      refine g_iret dX3_weightOf_82 rfl ?_
      simpa [fWeight, c1] using k
    · replace c1 := c1.trans (by decide : _ = (7 : Int32))
      refine g_iload_n dX3_weightOf_61 rfl ?_
      refine g_bipushV (v := 100) dX3_weightOf_62 (by decide) ?_
      refine g_iadd dX3_weightOf_64 ?_
      refine g_iret dX3_weightOf_65 rfl ?_
      simpa [fWeight, c1] using k
    · replace c1 := c1.trans (by decide : _ = (8 : Int32))
      refine g_iload_n dX3_weightOf_66 rfl ?_
      refine g_bipushV (v := 105) dX3_weightOf_67 (by decide) ?_
      refine g_iadd dX3_weightOf_69 ?_
      refine g_iret dX3_weightOf_70 rfl ?_
      simpa [fWeight, c1] using k
    · replace c1 := c1.trans (by decide : _ = (9 : Int32))
      refine g_iload_n dX3_weightOf_71 rfl ?_
      refine g_iload_n dX3_weightOf_72 rfl ?_
      refine g_iadd dX3_weightOf_73 ?_
      refine g_iret dX3_weightOf_74 rfl ?_
      simpa [fWeight, c1] using k
    · replace c1 := c1.trans (by decide : _ = (10 : Int32))
      refine g_iload_n dX3_weightOf_81 rfl ?_
      refine g_iret dX3_weightOf_82 rfl ?_
      simpa [fWeight, c1] using k
    · replace c1 := c1.trans (by decide : _ = (11 : Int32))
      refine g_iconstV (v := 2) dX3_weightOf_75 (by decide) ?_
      refine g_iload_n dX3_weightOf_76 rfl ?_
      refine g_iload_n dX3_weightOf_77 rfl ?_
      refine g_iadd dX3_weightOf_78 ?_
      refine g_imul dX3_weightOf_79 ?_
      refine g_iret dX3_weightOf_80 rfl ?_
      simpa [fWeight, c1] using k
  · have c1n0 := tsw_ne c1 3 (by decide)
    have c1n1 := tsw_ne c1 4 (by decide)
    have c1n2 := tsw_ne c1 5 (by decide)
    have c1n3 := tsw_ne c1 6 (by decide)
    have c1n4 := tsw_ne c1 7 (by decide)
    have c1n5 := tsw_ne c1 8 (by decide)
    have c1n6 := tsw_ne c1 9 (by decide)
    have c1n7 := tsw_ne c1 10 (by decide)
    have c1n8 := tsw_ne c1 11 (by decide)
    refine g_iload_n dX3_weightOf_81 rfl ?_
    refine g_iret dX3_weightOf_82 rfl ?_
    simpa [fWeight, c1n0, c1n1, c1n2, c1n3, c1n4, c1n5, c1n6, c1n7, c1n8] using k
def fWithin (v lo hi : Int32) : Int32 := if hi < 0 then 1 else if v < lo ∨ hi < v then 0 else 1
set_option maxHeartbeats 4000000 in
set_option maxRecDepth 20000 in
theorem c_isWithin {g : GE} {d : Nat} {w : GW} {Q : Option Value → GW → Prop} {v lo hi : Int32} (k : Q (some (.int (fWithin v lo hi))) w) : gM g d mX7_isWithin [.int v, .int lo, .int hi] w Q := by
  refine gM.of (by decide) (Nat.le_of_ble_eq_true rfl) ?_
  refine g_iload_n dX7_isWithin_0 rfl ?_
  refine g_if_lt 14 dX7_isWithin_1 (by decide) (fun c1 => ?_) (fun c1 => ?_)
  · refine g_iconstV (v := 1) dX7_isWithin_14 (by decide) ?_
    refine g_goto 19 dX7_isWithin_15 (by decide) ?_
    refine g_zret dX7_isWithin_19 rfl rfl ?_
    simpa [fWithin, c1] using k
  · refine g_iload_n dX7_isWithin_4 rfl ?_
    refine g_iload_n dX7_isWithin_5 rfl ?_
    refine g_icmp_lt 18 dX7_isWithin_6 (by decide) (fun c2 => ?_) (fun c2 => ?_)
    · refine g_iconstV (v := 0) dX7_isWithin_18 (by decide) ?_
      refine g_zret dX7_isWithin_19 rfl rfl ?_
      simpa [fWithin, c1, c2] using k
    · refine g_iload_n dX7_isWithin_9 rfl ?_
      refine g_iload_n dX7_isWithin_10 rfl ?_
      refine g_icmp_gt 18 dX7_isWithin_11 (by decide) (fun c3 => ?_) (fun c3 => ?_)
      · refine g_iconstV (v := 0) dX7_isWithin_18 (by decide) ?_
        refine g_zret dX7_isWithin_19 rfl rfl ?_
        simpa [fWithin, c1, c2, c3] using k
      · refine g_iconstV (v := 1) dX7_isWithin_14 (by decide) ?_
        refine g_goto 19 dX7_isWithin_15 (by decide) ?_
        refine g_zret dX7_isWithin_19 rfl rfl ?_
        simpa [fWithin, c1, c2, c3] using k
set_option maxHeartbeats 4000000 in
set_option maxRecDepth 20000 in
theorem c_isCounted {g : GE} {d : Nat} {w : GW} {Q : Option Value → GW → Prop} {n : Nat} (hS : SK g w) (hn : gI w 5 (eB g + 1) = nI n) (hn2 : n ≤ 200) (k1 : n = 200 → Q (some (.int 0)) w) (k2 : n < 200 → Q (some (.int 1)) (setI w 5 (eB g + 1) (nI (n + 1)))) : gM g d mX0_isCounted [.ref (eB g + 1)] w Q := by
  refine gM.of (by decide) (Nat.le_of_ble_eq_true rfl) ?_
  have o1 : gOb g w (eB g + 1) 0 := hS.ob 1 rfl
  refine g_aload_n dX0_isCounted_0 rfl ?_
  refine g_getI 0 5 5 dX0_isCounted_1 fX0_46 rfl rfl (by assumption) ?_
  refine g_sipushV (v := 200) dX0_isCounted_4 (by decide) ?_
  refine g_icmp_lt 12 dX0_isCounted_7 (by decide) (fun c1 => ?_) (fun c1 => ?_)
  · refine g_aload_n dX0_isCounted_12 rfl ?_
    refine g_dup dX0_isCounted_13 rfl ?_
    refine g_getI 0 5 5 dX0_isCounted_14 fX0_46 rfl rfl (by assumption) ?_
    refine g_iconstV (v := 1) dX0_isCounted_17 (by decide) ?_
    refine g_iadd dX0_isCounted_18 ?_
    refine g_putI 0 5 5 dX0_isCounted_19 fX0_46 rfl rfl (by assumption) ?_
    refine g_iconstV (v := 1) dX0_isCounted_22 (by decide) ?_
    refine g_zret dX0_isCounted_23 rfl rfl ?_
    first
      | exact k1 (Classical.byContradiction fun q => c1 (by rw [hn]; exact nI_lt (b := 200) (by omega) (by decide)))
      | (have h2 : n < 200 := (nI_ltI (by omega) (by decide)).mp (show nI n < nI 200 from hn ▸ c1)
         have e : gI w 5 (eB g + 1) + 1 = nI (n + 1) := (by rw [hn]; exact nI_1 n)
         exact e ▸ k2 h2)
  · refine g_iconstV (v := 0) dX0_isCounted_10 (by decide) ?_
    refine g_zret dX0_isCounted_11 rfl rfl ?_
    first
      | exact k1 (Classical.byContradiction fun q => c1 (by rw [hn]; exact nI_lt (b := 200) (by omega) (by decide)))
      | (have h2 : n < 200 := (nI_ltI (by omega) (by decide)).mp (show nI n < nI 200 from hn ▸ c1)
         have e : gI w 5 (eB g + 1) + 1 = nI (n + 1) := (by rw [hn]; exact nI_1 n)
         exact e ▸ k2 h2)
set_option maxHeartbeats 4000000 in
set_option maxRecDepth 20000 in
theorem c_leaveBy {g : GE} {d : Nat} {w : GW} {Q : Option Value → GW → Prop} {a : Nat} (hS : SK g w) (k : Q (some (.int 3)) (setR w 8 (eB g + 1) (some a))) : gM g d mX0_leaveBy [.ref (eB g + 1), .ref a] w Q := by
  refine gM.of (by decide) (Nat.le_of_ble_eq_true rfl) ?_
  have o1 : gOb g w (eB g + 1) 0 := hS.ob 1 rfl
  refine g_aload_n dX0_leaveBy_0 rfl ?_
  refine g_aload_n dX0_leaveBy_1 rfl ?_
  refine g_putR 0 8 8 dX0_leaveBy_2 fX0_56 rfl rfl rfl rfl (by assumption) ?_
  refine g_iconstV (v := 3) dX0_leaveBy_5 (by decide) ?_
  refine g_iret dX0_leaveBy_6 rfl ?_
  exact k
def aRt (g : GE) (r : Nat) : Nat := eB g + (if r = 0 then 2 else 3 + 2 * r)
def aSt (g : GE) (r : Nat) : Nat := eB g + (if r = 0 then 3 else 4 + 2 * r)
theorem SK.rt {g : GE} {w : GW} (h : SK g w) {r : Nat} (hr : r < 4) : gOb g w (aRt g r) 5 ∧ gOb g w (aSt g r) 15 ∧ gL w (aSt g r) = 40 ∧ gR w 321 (aRt g r) = some (aSt g r) ∧ gI w 320 (aRt g r) = nI r ∧ gP w (eB g + 4) r = some (aRt g r) := by
  rcases (show r = 0 ∨ r = 1 ∨ r = 2 ∨ r = 3 by omega) with rfl | rfl | rfl | rfl
  · exact ⟨h.ob 2 rfl, h.ob 3 rfl, h.len 3 rfl (by decide), h.rf 321 2 3 (by decide), h.it 320 2 0 (by decide +kernel), h.pt 4 0 2 (by decide)⟩
  · exact ⟨h.ob 5 rfl, h.ob 6 rfl, h.len 6 rfl (by decide), h.rf 321 5 6 (by decide), h.it 320 5 1 (by decide +kernel), h.pt 4 1 5 (by decide)⟩
  · exact ⟨h.ob 7 rfl, h.ob 8 rfl, h.len 8 rfl (by decide), h.rf 321 7 8 (by decide), h.it 320 7 2 (by decide +kernel), h.pt 4 2 7 (by decide)⟩
  · exact ⟨h.ob 9 rfl, h.ob 10 rfl, h.len 10 rfl (by decide), h.rf 321 9 10 (by decide), h.it 320 9 3 (by decide +kernel), h.pt 4 3 9 (by decide)⟩
set_option maxHeartbeats 4000000 in
set_option maxRecDepth 20000 in
theorem c_routineAt {g : GE} {d : Nat} {w : GW} {Q : Option Value → GW → Prop} {i : Int32} (hS : SK g w) (k1 : i < 0 ∨ nI 4 ≤ i → Q (some .null) w) (k2 : ∀ j : Nat, j < 4 → i = nI j → Q (some (.ref (aRt g j))) w) : gM g d mX0_routineAt [.ref (eB g + 1), .int i] w Q := by
  refine gM.of (by decide) (Nat.le_of_ble_eq_true rfl) ?_
  have o1 : gOb g w (eB g + 1) 0 := hS.ob 1 rfl
  have o4 : gOb g w (eB g + 4) 13 := hS.ob 4 rfl
  have l4 : gL w (eB g + 4) = 4 := hS.len 4 rfl (by decide)
  have r4 : gR w 0 (eB g + 1) = some (eB g + 4) := hS.rf 0 1 4 (by decide)
  refine g_iload_n dX0_routineAt_0 rfl ?_
  refine g_if_lt 22 dX0_routineAt_1 (by decide) (fun c1 => ?_) (fun c1 => ?_)
  · refine g_null dX0_routineAt_22 ?_
    refine g_aretN dX0_routineAt_23 rfl ?_
    exact k1 (Or.inl c1)
  · refine g_iload_n dX0_routineAt_4 rfl ?_
    refine g_aload_n dX0_routineAt_5 rfl ?_
    refine g_getR 0 0 0 dX0_routineAt_6 fX0_18 rfl rfl (by assumption) (by assumption) ?_
    refine g_alen 13 dX0_routineAt_9 (by assumption) (by decide) (by decide) ?_
    rw [l4]
    refine g_icmp_ge 22 dX0_routineAt_10 (by decide) (fun c2 => ?_) (fun c2 => ?_)
    · refine g_null dX0_routineAt_22 ?_
      refine g_aretN dX0_routineAt_23 rfl ?_
      exact k1 (Or.inr c2)
    · obtain ⟨j, hj, rfl⟩ := nI_of_rng (n := 4) c1 c2 (by decide)
      refine g_aload_n dX0_routineAt_13 rfl ?_
      refine g_getR 0 0 0 dX0_routineAt_14 fX0_18 rfl rfl (by assumption) (by assumption) ?_
      refine g_iload_n dX0_routineAt_17 rfl ?_
      refine g_aald13 dX0_routineAt_18 o4 rfl (by rw [l4]; exact hj) (hS.rt hj).2.2.2.2.2 ?_
      refine g_goto 23 dX0_routineAt_19 (by decide) ?_
      refine g_aret dX0_routineAt_23 rfl ?_
      exact k2 j hj rfl
set_option maxHeartbeats 4000000 in
set_option maxRecDepth 20000 in
theorem c_rowAt {g : GE} {d : Nat} {w : GW} {Q : Option Value → GW → Prop} {i : Int32} (hS : SK g w) (k1 : i < 0 ∨ nI 18 ≤ i → Q (some .null) w) (k2 : ∀ j : Nat, j < 18 → i = nI j → Q (some (.ref (aRow g j))) w) : gM g d mX0_rowAt [.ref (eB g + 1), .int i] w Q := by
  refine gM.of (by decide) (Nat.le_of_ble_eq_true rfl) ?_
  have o1 : gOb g w (eB g + 1) 0 := hS.ob 1 rfl
  have o4 : gOb g w (eB g + 11) 14 := hS.ob 11 rfl
  have l4 : gL w (eB g + 11) = 18 := hS.len 11 rfl (by decide)
  have r4 : gR w 1 (eB g + 1) = some (eB g + 11) := hS.rf 1 1 11 (by decide)
  refine g_iload_n dX0_rowAt_0 rfl ?_
  refine g_if_lt 22 dX0_rowAt_1 (by decide) (fun c1 => ?_) (fun c1 => ?_)
  · refine g_null dX0_rowAt_22 ?_
    refine g_aretN dX0_rowAt_23 rfl ?_
    exact k1 (Or.inl c1)
  · refine g_iload_n dX0_rowAt_4 rfl ?_
    refine g_aload_n dX0_rowAt_5 rfl ?_
    refine g_getR 0 1 1 dX0_rowAt_6 fX0_24 rfl rfl (by assumption) (by assumption) ?_
    refine g_alen 14 dX0_rowAt_9 (by assumption) (by decide) (by decide) ?_
    rw [l4]
    refine g_icmp_ge 22 dX0_rowAt_10 (by decide) (fun c2 => ?_) (fun c2 => ?_)
    · refine g_null dX0_rowAt_22 ?_
      refine g_aretN dX0_rowAt_23 rfl ?_
      exact k1 (Or.inr c2)
    · obtain ⟨j, hj, rfl⟩ := nI_of_rng (n := 18) c1 c2 (by decide)
      refine g_aload_n dX0_rowAt_13 rfl ?_
      refine g_getR 0 1 1 dX0_rowAt_14 fX0_24 rfl rfl (by assumption) (by assumption) ?_
      refine g_iload_n dX0_rowAt_17 rfl ?_
      refine g_aald14 dX0_rowAt_18 o4 rfl (by rw [l4]; exact hj) (hS.row hj).2.2.2.2.2.2.2.2 ?_
      refine g_goto 23 dX0_rowAt_19 (by decide) ?_
      refine g_aret dX0_rowAt_23 rfl ?_
      exact k2 j hj rfl
end
section
/-! ===== the model's own state, apart from the rest of the world ===== -/
abbrev MW : Type := (Nat → Int32) × (Nat → Nat → Int32) × (Nat → Nat → UInt64)
/-- its int fields: 11 atHand, 22 faultCount, 23 thrown, 29 open, 30 at, 31 way, 32 fault, 33 calls, 34 counted, 35 caughtMany, 36 lastMany, 38 logged -/
def mI (σ : MW) : Nat → Int32 := σ.1
/-- its int arrays: 0 whats 1 as 2 bs 3 cs 4 ends 5 nexts 6 sizes 7 depths 8 openSteps 9 openParts 10 openCatches 12 isThere 13 lengths 15 fitted 16 faultKinds 17 faultPlaces 18 faultNumbers 19 earlier 20 earlierMany 21 kinds 22 steps 23 lefts 24 faults 25 ways 27 above -/
def mA (σ : MW) : Nat → Nat → Int32 := σ.2.1
/-- its double arrays: 11 dials 14 places 26 log -/
def mD (σ : MW) : Nat → Nat → UInt64 := σ.2.2
def sI (σ : MW) (f : Nat) (x : Int32) : MW := (va_up σ.1 f x, σ.2)
def sA (σ : MW) (j i : Nat) (x : Int32) : MW := (σ.1, up2 σ.2.1 j i x, σ.2.2)
def sD (σ : MW) (j i : Nat) (x : UInt64) : MW := (σ.1, σ.2.1, up2 σ.2.2 j i x)
theorem mI_sI (σ : MW) (f : Nat) (x : Int32) (k : Nat) : mI (sI σ f x) k = if k = f then x else mI σ k := rfl
theorem mA_sI (σ : MW) (f : Nat) (x : Int32) : mA (sI σ f x) = mA σ := rfl
theorem mD_sI (σ : MW) (f : Nat) (x : Int32) : mD (sI σ f x) = mD σ := rfl
theorem mI_sA (σ : MW) (j i : Nat) (x : Int32) : mI (sA σ j i x) = mI σ := rfl
theorem mA_sA (σ : MW) (j i : Nat) (x : Int32) (a b : Nat) : mA (sA σ j i x) a b = if a = j ∧ b = i then x else mA σ a b := rfl
theorem mD_sA (σ : MW) (j i : Nat) (x : Int32) : mD (sA σ j i x) = mD σ := rfl
theorem mI_sD (σ : MW) (j i : Nat) (x : UInt64) : mI (sD σ j i x) = mI σ := rfl
theorem mA_sD (σ : MW) (j i : Nat) (x : UInt64) : mA (sD σ j i x) = mA σ := rfl
theorem mD_sD (σ : MW) (j i : Nat) (x : UInt64) (a b : Nat) : mD (sD σ j i x) a b = if a = j ∧ b = i then x else mD σ a b := rfl
/-- the world w, but for the model, which is σ -/
def put (g : GE) (σ : MW) (w : GW) : GW := (w.1, w.2.1, w.2.2.1, (fun c a => if a = eB g + 70 then (if 576 ≤ c ∧ c < 616 then mI σ (c - 576) else gI w c a) else gI w c a), w.2.2.2.2.1, (fun a i => if eB g + 71 ≤ a ∧ a < eB g + 99 then mA σ (a - (eB g + 71)) i else gA w a i), (fun a i => if eB g + 71 ≤ a ∧ a < eB g + 99 then mD σ (a - (eB g + 71)) i else gD w a i), w.2.2.2.2.2.2.2)
theorem SK.put {g : GE} {w : GW} (h : SK g w) (σ : MW) : SK g (put g σ w) := by
  refine ⟨h.1, h.2.1, h.2.2.1, h.2.2.2.1, h.2.2.2.2.1, fun e he => ?_⟩
  have h1 : e.2.1 < 66 := by
    have : ∀ e ∈ iTab, e.2.1 < 66 := by decide +kernel
    exact this e he
  show (if eB g + e.2.1 = eB g + 70 then _ else gI w e.1 (eB g + e.2.1)) = _
  rw [if_neg (by omega)]
  exact h.2.2.2.2.2 e he
theorem gI_put (g : GE) (σ : MW) (w : GW) (f : Nat) (hf : f < 40) : gI (put g σ w) (576 + f) (eB g + 70) = mI σ f := by
  show (if eB g + 70 = eB g + 70 then (if 576 ≤ 576 + f ∧ 576 + f < 616 then mI σ (576 + f - 576) else _) else _) = _
  rw [if_pos rfl, if_pos (by omega), Nat.add_sub_cancel_left]
theorem gA_put (g : GE) (σ : MW) (w : GW) (j i : Nat) (hj : j < 28) : gA (put g σ w) (eB g + (71 + j)) i = mA σ j i := by
  show (if eB g + 71 ≤ eB g + (71 + j) ∧ eB g + (71 + j) < eB g + 99 then mA σ (eB g + (71 + j) - (eB g + 71)) i else _) = _
  rw [if_pos (by omega), show eB g + (71 + j) - (eB g + 71) = j by omega]
theorem gD_put (g : GE) (σ : MW) (w : GW) (j i : Nat) (hj : j < 28) : gD (put g σ w) (eB g + (71 + j)) i = mD σ j i := by
  show (if eB g + 71 ≤ eB g + (71 + j) ∧ eB g + (71 + j) < eB g + 99 then mD σ (eB g + (71 + j) - (eB g + 71)) i else _) = _
  rw [if_pos (by omega), show eB g + (71 + j) - (eB g + 71) = j by omega]
theorem put_setI (g : GE) (σ : MW) (w : GW) (f : Nat) (hf : f < 40) (x : Int32) : setI (put g σ w) (576 + f) (eB g + 70) x = put g (sI σ f x) w := by
  unfold setI
  refine Prod.ext rfl (Prod.ext rfl (Prod.ext rfl (Prod.ext ?_ rfl)))
  funext c a
  show up2 (gI (put g σ w)) (576 + f) (eB g + 70) x c a = _
  unfold up2
  by_cases ha : a = eB g + 70
  · subst ha
    by_cases hc : c = 576 + f
    · subst hc
      rw [if_pos ⟨rfl, rfl⟩]
      exact (by rw [gI_put g _ w f hf]; simp [mI, sI, va_up] : x = gI (put g (sI σ f x) w) (576 + f) (eB g + 70))
    · rw [if_neg (fun q => hc q.1)]
      show (if eB g + 70 = eB g + 70 then (if 576 ≤ c ∧ c < 616 then mI σ (c - 576) else gI w c (eB g + 70)) else _) = (if eB g + 70 = eB g + 70 then (if 576 ≤ c ∧ c < 616 then mI (sI σ f x) (c - 576) else gI w c (eB g + 70)) else _)
      rw [if_pos rfl, if_pos rfl]
      by_cases h2 : 576 ≤ c ∧ c < 616
      · rw [if_pos h2, if_pos h2, mI_sI, if_neg (by omega)]
      · rw [if_neg h2, if_neg h2]
  · rw [if_neg (fun q => ha q.2)]
    show (if a = eB g + 70 then _ else gI w c a) = (if a = eB g + 70 then _ else gI w c a)
    rw [if_neg ha, if_neg ha]
theorem put_setA (g : GE) (σ : MW) (w : GW) (j i : Nat) (hj : j < 28) (x : Int32) : setA (put g σ w) (eB g + (71 + j)) i x = put g (sA σ j i x) w := by
  unfold setA
  refine Prod.ext rfl (Prod.ext rfl (Prod.ext rfl (Prod.ext rfl (Prod.ext rfl (Prod.ext ?_ rfl)))))
  funext a k
  show up2 (gA (put g σ w)) (eB g + (71 + j)) i x a k = _
  unfold up2
  by_cases ha : eB g + 71 ≤ a ∧ a < eB g + 99
  · show _ = (if eB g + 71 ≤ a ∧ a < eB g + 99 then mA (sA σ j i x) (a - (eB g + 71)) k else _)
    rw [if_pos ha, mA_sA]
    by_cases hc : a = eB g + (71 + j) ∧ k = i
    · rw [if_pos hc, if_pos ⟨by omega, hc.2⟩]
    · rw [if_neg hc, if_neg (fun q => hc ⟨by omega, q.2⟩)]
      show (if eB g + 71 ≤ a ∧ a < eB g + 99 then mA σ (a - (eB g + 71)) k else _) = _
      rw [if_pos ha]
  · rw [if_neg (fun q => ha (by omega))]
    show (if eB g + 71 ≤ a ∧ a < eB g + 99 then _ else gA w a k) = (if eB g + 71 ≤ a ∧ a < eB g + 99 then _ else gA w a k)
    rw [if_neg ha, if_neg ha]
theorem put_setD (g : GE) (σ : MW) (w : GW) (j i : Nat) (hj : j < 28) (x : UInt64) : setD (put g σ w) (eB g + (71 + j)) i x = put g (sD σ j i x) w := by
  unfold setD
  refine Prod.ext rfl (Prod.ext rfl (Prod.ext rfl (Prod.ext rfl (Prod.ext rfl (Prod.ext rfl (Prod.ext ?_ rfl))))))
  funext a k
  show up2 (gD (put g σ w)) (eB g + (71 + j)) i x a k = _
  unfold up2
  by_cases ha : eB g + 71 ≤ a ∧ a < eB g + 99
  · show _ = (if eB g + 71 ≤ a ∧ a < eB g + 99 then mD (sD σ j i x) (a - (eB g + 71)) k else _)
    rw [if_pos ha, mD_sD]
    by_cases hc : a = eB g + (71 + j) ∧ k = i
    · rw [if_pos hc, if_pos ⟨by omega, hc.2⟩]
    · rw [if_neg hc, if_neg (fun q => hc ⟨by omega, q.2⟩)]
      show (if eB g + 71 ≤ a ∧ a < eB g + 99 then mD σ (a - (eB g + 71)) k else _) = _
      rw [if_pos ha]
  · rw [if_neg (fun q => ha (by omega))]
    show (if eB g + 71 ≤ a ∧ a < eB g + 99 then _ else gD w a k) = (if eB g + 71 ≤ a ∧ a < eB g + 99 then _ else gD w a k)
    rw [if_neg ha, if_neg ha]
theorem kTab_len : kTab.length = 99 := by decide +kernel
theorem kTab_lt {j k : Nat} (hk : kTab[71 + j]? = some k) : j < 28 := by
  have := (List.getElem?_eq_some_iff.mp hk).1
  rw [kTab_len] at this
  omega
section MROWS
variable {g : GE} {d : Nat} {Y : GM} {pc : Nat} {ls : List (Nat × Value)} {st : List Value} {w : GW} {σ : MW} {Q : Option Value → GW → Prop}
theorem mg_getI {idx : Nat} (f : Nat) (hd : decode Y.2.1 pc = .ok (.getfield idx, 3)) (hf : gfl Y.1.cls idx 9 f false) (hti : gTI 9 f = true) (hf4 : f < 40) (hS : SK g w) (k : gF g d Y (pc + 3) ls (.int (mI σ f) :: st) (put g σ w) Q) : gF g d Y pc ls (.ref (eB g + 70) :: st) (put g σ w) Q :=
  g_getI 9 f (576 + f) hd hf hti rfl ((hS.put σ).ob 70 rfl) (by rw [gI_put g σ w f hf4]; exact k)
theorem mg_getA {idx : Nat} (f j : Nat) (hd : decode Y.2.1 pc = .ok (.getfield idx, 3)) (hf : gfl Y.1.cls idx 9 f true) (hti : gTI 9 f = false) (hj : (576 + f, 70, 71 + j) ∈ rTab) (hS : SK g w) (k : gF g d Y (pc + 3) ls (.ref (eB g + (71 + j)) :: st) (put g σ w) Q) : gF g d Y pc ls (.ref (eB g + 70) :: st) (put g σ w) Q :=
  g_getR 9 f (576 + f) hd hf hti rfl ((hS.put σ).ob 70 rfl) ((hS.put σ).rf _ _ _ hj) k
theorem mg_putI {idx : Nat} {x : Int32} (f : Nat) (hd : decode Y.2.1 pc = .ok (.putfield idx, 3)) (hf : gfl Y.1.cls idx 9 f false) (hti : gTI 9 f = true) (hf4 : f < 40) (hS : SK g w) (k : gF g d Y (pc + 3) ls st (put g (sI σ f x) w) Q) : gF g d Y pc ls (.int x :: .ref (eB g + 70) :: st) (put g σ w) Q :=
  g_putI 9 f (576 + f) hd hf hti rfl ((hS.put σ).ob 70 rfl) (by rw [put_setI g σ w f hf4]; exact k)
theorem mg_iald {i : Int32} {j n L : Nat} (hd : decode Y.2.1 pc = .ok (.iaload, 1)) (hi : i = nI n) (hk : kTab[71 + j]? = some 11) (hL : lTab[71 + j]? = some L) (hn : n < L) (hS : SK g w) (k : gF g d Y (pc + 1) ls (.int (mA σ j n) :: st) (put g σ w) Q) : gF g d Y pc ls (.int i :: .ref (eB g + (71 + j)) :: st) (put g σ w) Q := by
  have hj : j < 28 := kTab_lt hk
  have hl := (hS.put σ).len _ hL (by rw [List.getD_eq_getElem?_getD, hk]; decide)
  refine g_iald hd ((hS.put σ).ob _ hk) hi (by rw [hl]; exact hn) ?_
  rw [gA_put g σ w j n hj]
  exact k
theorem mg_zald {i : Int32} {j n L : Nat} (hd : decode Y.2.1 pc = .ok (.baload, 1)) (hi : i = nI n) (hk : kTab[71 + j]? = some 12) (hL : lTab[71 + j]? = some L) (hn : n < L) (hS : SK g w) (k : gF g d Y (pc + 1) ls (.int (mA σ j n) :: st) (put g σ w) Q) : gF g d Y pc ls (.int i :: .ref (eB g + (71 + j)) :: st) (put g σ w) Q := by
  have hj : j < 28 := kTab_lt hk
  have hl := (hS.put σ).len _ hL (by rw [List.getD_eq_getElem?_getD, hk]; decide)
  refine g_zald hd ((hS.put σ).ob _ hk) hi (by rw [hl]; exact hn) ?_
  rw [gA_put g σ w j n hj]
  exact k
theorem mg_dald {i : Int32} {j n L : Nat} (hd : decode Y.2.1 pc = .ok (.daload, 1)) (hi : i = nI n) (hk : kTab[71 + j]? = some 10) (hL : lTab[71 + j]? = some L) (hn : n < L) (hS : SK g w) (k : gF g d Y (pc + 1) ls (.double (mD σ j n) :: st) (put g σ w) Q) : gF g d Y pc ls (.int i :: .ref (eB g + (71 + j)) :: st) (put g σ w) Q := by
  have hj : j < 28 := kTab_lt hk
  have hl := (hS.put σ).len _ hL (by rw [List.getD_eq_getElem?_getD, hk]; decide)
  refine g_dald hd ((hS.put σ).ob _ hk) hi (by rw [hl]; exact hn) ?_
  rw [gD_put g σ w j n hj]
  exact k
theorem mg_iast {i x : Int32} {j n L : Nat} (hd : decode Y.2.1 pc = .ok (.iastore, 1)) (hi : i = nI n) (hk : kTab[71 + j]? = some 11) (hL : lTab[71 + j]? = some L) (hn : n < L) (hS : SK g w) (k : gF g d Y (pc + 1) ls st (put g (sA σ j n x) w) Q) : gF g d Y pc ls (.int x :: .int i :: .ref (eB g + (71 + j)) :: st) (put g σ w) Q := by
  have hj : j < 28 := kTab_lt hk
  have hl := (hS.put σ).len _ hL (by rw [List.getD_eq_getElem?_getD, hk]; decide)
  refine g_iast hd ((hS.put σ).ob _ hk) hi (by rw [hl]; exact hn) ?_
  rw [put_setA g σ w j n hj]
  exact k
theorem mg_zast {i x : Int32} {j n L : Nat} (hd : decode Y.2.1 pc = .ok (.bastore, 1)) (hi : i = nI n) (hk : kTab[71 + j]? = some 12) (hL : lTab[71 + j]? = some L) (hn : n < L) (hnb : narrow .boolean (.int x) = .int x) (hS : SK g w) (k : gF g d Y (pc + 1) ls st (put g (sA σ j n x) w) Q) : gF g d Y pc ls (.int x :: .int i :: .ref (eB g + (71 + j)) :: st) (put g σ w) Q := by
  have hj : j < 28 := kTab_lt hk
  have hl := (hS.put σ).len _ hL (by rw [List.getD_eq_getElem?_getD, hk]; decide)
  refine g_zast hd ((hS.put σ).ob _ hk) hi (by rw [hl]; exact hn) hnb ?_
  rw [put_setA g σ w j n hj]
  exact k
theorem mg_dast {i : Int32} {x : UInt64} {j n L : Nat} (hd : decode Y.2.1 pc = .ok (.dastore, 1)) (hi : i = nI n) (hk : kTab[71 + j]? = some 10) (hL : lTab[71 + j]? = some L) (hn : n < L) (hS : SK g w) (k : gF g d Y (pc + 1) ls st (put g (sD σ j n x) w) Q) : gF g d Y pc ls (.double x :: .int i :: .ref (eB g + (71 + j)) :: st) (put g σ w) Q := by
  have hj : j < 28 := kTab_lt hk
  have hl := (hS.put σ).len _ hL (by rw [List.getD_eq_getElem?_getD, hk]; decide)
  refine g_dast hd ((hS.put σ).ob _ hk) hi (by rw [hl]; exact hn) ?_
  rw [put_setD g σ w j n hj]
  exact k
theorem mg_ob (hS : SK g w) : gOb g (put g σ w) (eB g + 70) 9 := (hS.put σ).ob 70 rfl
end MROWS
end
section
theorem rt_0 : (576 + 0, 70, 71 + 0) ∈ rTab := by decide +kernel
theorem rt_1 : (576 + 1, 70, 71 + 1) ∈ rTab := by decide +kernel
theorem rt_2 : (576 + 2, 70, 71 + 2) ∈ rTab := by decide +kernel
theorem rt_3 : (576 + 3, 70, 71 + 3) ∈ rTab := by decide +kernel
theorem rt_4 : (576 + 4, 70, 71 + 4) ∈ rTab := by decide +kernel
theorem rt_5 : (576 + 5, 70, 71 + 5) ∈ rTab := by decide +kernel
theorem rt_6 : (576 + 6, 70, 71 + 6) ∈ rTab := by decide +kernel
theorem rt_7 : (576 + 7, 70, 71 + 7) ∈ rTab := by decide +kernel
theorem rt_8 : (576 + 8, 70, 71 + 8) ∈ rTab := by decide +kernel
theorem rt_9 : (576 + 9, 70, 71 + 9) ∈ rTab := by decide +kernel
theorem rt_10 : (576 + 10, 70, 71 + 10) ∈ rTab := by decide +kernel
theorem rt_11 : (576 + 12, 70, 71 + 11) ∈ rTab := by decide +kernel
theorem rt_12 : (576 + 13, 70, 71 + 12) ∈ rTab := by decide +kernel
theorem rt_13 : (576 + 14, 70, 71 + 13) ∈ rTab := by decide +kernel
theorem rt_14 : (576 + 15, 70, 71 + 14) ∈ rTab := by decide +kernel
theorem rt_15 : (576 + 16, 70, 71 + 15) ∈ rTab := by decide +kernel
theorem rt_16 : (576 + 17, 70, 71 + 16) ∈ rTab := by decide +kernel
theorem rt_17 : (576 + 18, 70, 71 + 17) ∈ rTab := by decide +kernel
theorem rt_18 : (576 + 19, 70, 71 + 18) ∈ rTab := by decide +kernel
theorem rt_19 : (576 + 20, 70, 71 + 19) ∈ rTab := by decide +kernel
theorem rt_20 : (576 + 21, 70, 71 + 20) ∈ rTab := by decide +kernel
theorem rt_21 : (576 + 24, 70, 71 + 21) ∈ rTab := by decide +kernel
theorem rt_22 : (576 + 25, 70, 71 + 22) ∈ rTab := by decide +kernel
theorem rt_23 : (576 + 26, 70, 71 + 23) ∈ rTab := by decide +kernel
theorem rt_24 : (576 + 27, 70, 71 + 24) ∈ rTab := by decide +kernel
theorem rt_25 : (576 + 28, 70, 71 + 25) ∈ rTab := by decide +kernel
theorem rt_26 : (576 + 37, 70, 71 + 26) ∈ rTab := by decide +kernel
theorem rt_27 : (576 + 39, 70, 71 + 27) ∈ rTab := by decide +kernel
/-- isIn, as a truth -/
def fIn (v lo hi : Int32) : Int32 := if v < lo then 0 else if hi < v then 0 else 1
theorem fIn_01 (v lo hi : Int32) : fIn v lo hi = 0 ∨ fIn v lo hi = 1 := by
  unfold fIn
  split
  · exact Or.inl rfl
  · split
    · exact Or.inl rfl
    · exact Or.inr rfl
set_option maxHeartbeats 4000000 in
set_option maxRecDepth 20000 in
theorem m_isIn {g : GE} {d : Nat} {w : GW} {Q : Option Value → GW → Prop} {v lo hi : Int32} (k : Q (some (.int (fIn v lo hi))) w) : gM g d mX10_isIn [.int v, .int lo, .int hi] w Q := by
  refine gM.of (by decide) (Nat.le_of_ble_eq_true rfl) ?_
  refine g_iload_n dX10_isIn_0 rfl ?_
  refine g_iload_n dX10_isIn_1 rfl ?_
  refine g_icmp_lt 14 dX10_isIn_2 (by decide) (fun c1 => ?_) (fun c1 => ?_)
  · refine g_iconstV (v := 0) dX10_isIn_14 (by decide) ?_
    refine g_zret dX10_isIn_15 rfl rfl ?_
    simpa [fIn, c1] using k
  · refine g_iload_n dX10_isIn_5 rfl ?_
    refine g_iload_n dX10_isIn_6 rfl ?_
    refine g_icmp_gt 14 dX10_isIn_7 (by decide) (fun c2 => ?_) (fun c2 => ?_)
    · refine g_iconstV (v := 0) dX10_isIn_14 (by decide) ?_
      refine g_zret dX10_isIn_15 rfl rfl ?_
      simpa [fIn, c1, c2] using k
    · refine g_iconstV (v := 1) dX10_isIn_10 (by decide) ?_
      refine g_goto 15 dX10_isIn_11 (by decide) ?_
      refine g_zret dX10_isIn_15 rfl rfl ?_
      simpa [fIn, c1, c2] using k
set_option maxHeartbeats 4000000 in
set_option maxRecDepth 20000 in
theorem m_isDial {g : GE} {d : Nat} {w : GW} {Q : Option Value → GW → Prop} (hd : 1 ≤ d) {v : Int32} (k : Q (some (.int (fIn v 0 7))) w) : gM g d mX10_isDial [.int v] w Q := by
  refine gM.of (by decide) (Nat.le_of_ble_eq_true rfl) ?_
  refine g_iload_n dX10_isDial_0 rfl ?_
  refine g_iconstV (v := 0) dX10_isDial_1 (by decide) ?_
  refine g_bipushV (v := 7) dX10_isDial_2 (by decide) ?_
  refine g_callS (d1 := d - 1) (As := [_, _, _]) dX10_isDial_4 sX10_100 (by omega) rfl rfl (Nat.le_of_ble_eq_true rfl) ?_
  refine m_isIn ?_
  refine g_zret dX10_isDial_7 rfl (zb_of (fIn_01 _ _ _)) ?_
  exact k
set_option maxHeartbeats 4000000 in
set_option maxRecDepth 20000 in
theorem m_isRow {g : GE} {d : Nat} {w : GW} {Q : Option Value → GW → Prop} (hd : 1 ≤ d) {v : Int32} (k : Q (some (.int (fIn v 0 17))) w) : gM g d mX10_isRow [.int v] w Q := by
  refine gM.of (by decide) (Nat.le_of_ble_eq_true rfl) ?_
  refine g_iload_n dX10_isRow_0 rfl ?_
  refine g_iconstV (v := 0) dX10_isRow_1 (by decide) ?_
  refine g_bipushV (v := 17) dX10_isRow_2 (by decide) ?_
  refine g_callS (d1 := d - 1) (As := [_, _, _]) dX10_isRow_4 sX10_100 (by omega) rfl rfl (Nat.le_of_ble_eq_true rfl) ?_
  refine m_isIn ?_
  refine g_zret dX10_isRow_7 rfl (zb_of (fIn_01 _ _ _)) ?_
  exact k
def fBlock (v : Int32) : Int32 := if v = 1 then 1 else if v = 4 then 1 else if v = 11 then 1 else 0
set_option maxHeartbeats 4000000 in
set_option maxRecDepth 20000 in
theorem m_isBlock {g : GE} {d : Nat} {w : GW} {Q : Option Value → GW → Prop} {v : Int32} (k : Q (some (.int (fBlock v))) w) : gM g d mX10_isBlock [.int v] w Q := by
  refine gM.of (by decide) (Nat.le_of_ble_eq_true rfl) ?_
  refine g_iload_n dX10_isBlock_0 rfl ?_
  refine g_iconstV (v := 1) dX10_isBlock_1 (by decide) ?_
  refine g_icmp_eq 16 dX10_isBlock_2 (by decide) (fun c1 => ?_) (fun c1 => ?_)
  · refine g_iconstV (v := 1) dX10_isBlock_16 (by decide) ?_
    refine g_goto 21 dX10_isBlock_17 (by decide) ?_
    refine g_zret dX10_isBlock_21 rfl rfl ?_
    simpa [fBlock, c1] using k
  · refine g_iload_n dX10_isBlock_5 rfl ?_
    refine g_iconstV (v := 4) dX10_isBlock_6 (by decide) ?_
    refine g_icmp_eq 16 dX10_isBlock_7 (by decide) (fun c2 => ?_) (fun c2 => ?_)
    · refine g_iconstV (v := 1) dX10_isBlock_16 (by decide) ?_
      refine g_goto 21 dX10_isBlock_17 (by decide) ?_
      refine g_zret dX10_isBlock_21 rfl rfl ?_
      simpa [fBlock, c1, c2] using k
    · refine g_iload_n dX10_isBlock_10 rfl ?_
      refine g_bipushV (v := 11) dX10_isBlock_11 (by decide) ?_
      refine g_icmp_ne 20 dX10_isBlock_13 (by decide) (fun c3 => ?_) (fun c3 => ?_)
      · refine g_iconstV (v := 0) dX10_isBlock_20 (by decide) ?_
        refine g_zret dX10_isBlock_21 rfl rfl ?_
        simpa [fBlock, c1, c2, c3] using k
      · refine g_iconstV (v := 1) dX10_isBlock_16 (by decide) ?_
        refine g_goto 21 dX10_isBlock_17 (by decide) ?_
        refine g_zret dX10_isBlock_21 rfl rfl ?_
        simpa [fBlock, c1, c2, c3] using k
def mPush (σ : MW) (o : Nat) (kd sp lf : Int32) : MW := sI (sA (sA (sA (sA (sA σ 21 o kd) 22 o sp) 23 o lf) 24 o (-1)) 25 o 0) 29 (nI (o + 1))
set_option maxHeartbeats 4000000 in
set_option maxRecDepth 20000 in
theorem m_push {g : GE} {d : Nat} {w : GW} {σ : MW} {Q : Option Value → GW → Prop} (hS : SK g w) {o : Nat} {kd sp lf : Int32} (ho : mI σ 29 = nI o) (ho2 : o < 60) (k : Q none (put g (mPush σ o kd sp lf) w)) : gM g d mX10_push [.ref (eB g + 70), .int kd, .int sp, .int lf] (put g σ w) Q := by
  refine gM.of (by decide) (Nat.le_of_ble_eq_true rfl) ?_
  refine g_aload_n dX10_push_0 rfl ?_
  refine mg_getA 24 21 dX10_push_1 fX10_79 rfl rt_21 hS ?_
  refine g_aload_n dX10_push_4 rfl ?_
  refine mg_getI 29 dX10_push_5 fX10_156 rfl (by decide) hS ?_
  refine g_iload_n dX10_push_8 rfl ?_
  refine mg_iast dX10_push_9 (by first | exact rfl | assumption) rfl rfl (by omega) hS ?_
  refine g_aload_n dX10_push_10 rfl ?_
  refine mg_getA 25 22 dX10_push_11 fX10_82 rfl rt_22 hS ?_
  refine g_aload_n dX10_push_14 rfl ?_
  refine mg_getI 29 dX10_push_15 fX10_156 rfl (by decide) hS ?_
  refine g_iload_n dX10_push_18 rfl ?_
  refine mg_iast dX10_push_19 (by first | exact rfl | assumption) rfl rfl (by omega) hS ?_
  refine g_aload_n dX10_push_20 rfl ?_
  refine mg_getA 26 23 dX10_push_21 fX10_85 rfl rt_23 hS ?_
  refine g_aload_n dX10_push_24 rfl ?_
  refine mg_getI 29 dX10_push_25 fX10_156 rfl (by decide) hS ?_
  refine g_iload_n dX10_push_28 rfl ?_
  refine mg_iast dX10_push_29 (by first | exact rfl | assumption) rfl rfl (by omega) hS ?_
  refine g_aload_n dX10_push_30 rfl ?_
  refine mg_getA 27 24 dX10_push_31 fX10_88 rfl rt_24 hS ?_
  refine g_aload_n dX10_push_34 rfl ?_
  refine mg_getI 29 dX10_push_35 fX10_156 rfl (by decide) hS ?_
  refine g_iconstV (v := -1) dX10_push_38 (by decide) ?_
  refine mg_iast dX10_push_39 (by first | exact rfl | assumption) rfl rfl (by omega) hS ?_
  refine g_aload_n dX10_push_40 rfl ?_
  refine mg_getA 28 25 dX10_push_41 fX10_91 rfl rt_25 hS ?_
  refine g_aload_n dX10_push_44 rfl ?_
  refine mg_getI 29 dX10_push_45 fX10_156 rfl (by decide) hS ?_
  refine g_iconstV (v := 0) dX10_push_48 (by decide) ?_
  refine mg_iast dX10_push_49 (by first | exact rfl | assumption) rfl rfl (by omega) hS ?_
  refine g_aload_n dX10_push_50 rfl ?_
  refine g_dup dX10_push_51 rfl ?_
  refine mg_getI 29 dX10_push_52 fX10_156 rfl (by decide) hS ?_
  refine g_iconstV (v := 1) dX10_push_55 (by decide) ?_
  refine g_iadd dX10_push_56 ?_
  refine mg_putI 29 dX10_push_57 fX10_156 rfl (by decide) hS ?_
  refine g_vret dX10_push_60 rfl ?_
  have e : mI σ 29 + 1 = nI (o + 1) := by rw [ho]; exact nI_1 o
  exact e ▸ k
def mBegin (σ : MW) (o r : Nat) (bh : Int32) : MW := sI (mPush σ o 0 (nI r) bh) 30 (nI (40 * r))
set_option maxHeartbeats 4000000 in
set_option maxRecDepth 20000 in
theorem m_begin {g : GE} {d : Nat} {w : GW} {σ : MW} {Q : Option Value → GW → Prop} (hd : 1 ≤ d) (hS : SK g w) {o r : Nat} {bh : Int32} (ho : mI σ 29 = nI o) (ho2 : o < 60) (k : Q none (put g (mBegin σ o r bh) w)) : gM g d mX10_begin [.ref (eB g + 70), .int (nI r), .int bh] (put g σ w) Q := by
  refine gM.of (by decide) (Nat.le_of_ble_eq_true rfl) ?_
  refine g_aload_n dX10_begin_0 rfl ?_
  refine g_iconstV (v := 0) dX10_begin_1 (by decide) ?_
  refine g_iload_n dX10_begin_2 rfl ?_
  refine g_iload_n dX10_begin_3 rfl ?_
  refine g_callV (d1 := d - 1) (As := [_, _, _]) 9 dX10_begin_4 vX10_159 (by omega) (mg_ob hS) rfl rfl (Nat.le_of_ble_eq_true rfl) ?_
  refine m_push hS ho ho2 ?_
  refine g_aload_n dX10_begin_7 rfl ?_
  refine g_bipushV (v := 40) dX10_begin_8 (by decide) ?_
  refine g_iload_n dX10_begin_10 rfl ?_
  refine g_imul dX10_begin_11 ?_
  refine mg_putI 30 dX10_begin_12 fX10_141 rfl (by decide) hS ?_
  refine g_vret dX10_begin_15 rfl ?_
  have e : (40 : Int32) * nI r = nI (40 * r) := pk_mul 40 r
  exact e ▸ k
def mOver (σ : MW) (o : Nat) : MW := sI (sI (sI (sI σ 29 (nI o)) 30 (mA σ 23 o)) 33 (mI σ 33 - 1)) 31 0
set_option maxHeartbeats 4000000 in
set_option maxRecDepth 20000 in
theorem m_over {g : GE} {d : Nat} {w : GW} {σ : MW} {Q : Option Value → GW → Prop} (hS : SK g w) {o : Nat} (ho : mI σ 29 = nI (o + 1)) (ho2 : o < 60) (k : Q none (put g (mOver σ o) w)) : gM g d mX10_over [.ref (eB g + 70)] (put g σ w) Q := by
  refine gM.of (by decide) (Nat.le_of_ble_eq_true rfl) ?_
  refine g_aload_n dX10_over_0 rfl ?_
  refine g_dup dX10_over_1 rfl ?_
  refine mg_getI 29 dX10_over_2 fX10_156 rfl (by decide) hS ?_
  refine g_iconstV (v := 1) dX10_over_5 (by decide) ?_
  refine g_isub dX10_over_6 ?_
  rw [show mI σ 29 - 1 = nI o by rw [ho]; exact nI_pred o]
  refine mg_putI 29 dX10_over_7 fX10_156 rfl (by decide) hS ?_
  refine g_aload_n dX10_over_10 rfl ?_
  refine g_aload_n dX10_over_11 rfl ?_
  refine mg_getA 26 23 dX10_over_12 fX10_85 rfl rt_23 hS ?_
  refine g_aload_n dX10_over_15 rfl ?_
  refine mg_getI 29 dX10_over_16 fX10_156 rfl (by decide) hS ?_
  refine mg_iald dX10_over_19 (by first | exact rfl | assumption) rfl rfl (by omega) hS ?_
  refine mg_putI 30 dX10_over_20 fX10_141 rfl (by decide) hS ?_
  refine g_aload_n dX10_over_23 rfl ?_
  refine g_dup dX10_over_24 rfl ?_
  refine mg_getI 33 dX10_over_25 fX10_163 rfl (by decide) hS ?_
  refine g_iconstV (v := 1) dX10_over_28 (by decide) ?_
  refine g_isub dX10_over_29 ?_
  refine mg_putI 33 dX10_over_30 fX10_163 rfl (by decide) hS ?_
  refine g_aload_n dX10_over_33 rfl ?_
  refine g_iconstV (v := 0) dX10_over_34 (by decide) ?_
  refine mg_putI 31 dX10_over_35 fX10_138 rfl (by decide) hS ?_
  refine g_vret dX10_over_38 rfl ?_
  exact k
def mThrow (σ : MW) (n : Nat) (kd pl nu be em : Int32) : MW := sI (sI (sI (sA (sA (sA (sA (sA σ 16 n kd) 17 n pl) 18 n nu) 19 n be) 20 n em) 32 (nI n)) 31 3) 22 (nI (n + 1))
set_option maxHeartbeats 4000000 in
set_option maxRecDepth 20000 in
theorem m_throwNew {g : GE} {d : Nat} {w : GW} {σ : MW} {Q : Option Value → GW → Prop} (hS : SK g w) {n : Nat} {kd pl nu be em : Int32} (hn : mI σ 22 = nI n) (hn2 : n < 600) (hb : (be < 0 ∧ em = 0) ∨ ∃ p : Nat, p < n ∧ be = nI p ∧ em = mA σ 20 p + 1) (k : Q none (put g (mThrow σ n kd pl nu be em) w)) : gM g d mX10_throwNew [.ref (eB g + 70), .int kd, .int pl, .int nu, .int be] (put g σ w) Q := by
  refine gM.of (by decide) (Nat.le_of_ble_eq_true rfl) ?_
  refine g_aload_n dX10_throwNew_0 rfl ?_
  refine mg_getA 17 16 dX10_throwNew_1 fX10_60 rfl rt_16 hS ?_
  refine g_aload_n dX10_throwNew_4 rfl ?_
  refine mg_getI 22 dX10_throwNew_5 fX10_132 rfl (by decide) hS ?_
  refine g_iload_n dX10_throwNew_8 rfl ?_
  refine mg_iast dX10_throwNew_9 (by first | exact rfl | assumption) rfl rfl (by omega) hS ?_
  refine g_aload_n dX10_throwNew_10 rfl ?_
  refine mg_getA 18 17 dX10_throwNew_11 fX10_63 rfl rt_17 hS ?_
  refine g_aload_n dX10_throwNew_14 rfl ?_
  refine mg_getI 22 dX10_throwNew_15 fX10_132 rfl (by decide) hS ?_
  refine g_iload_n dX10_throwNew_18 rfl ?_
  refine mg_iast dX10_throwNew_19 (by first | exact rfl | assumption) rfl rfl (by omega) hS ?_
  refine g_aload_n dX10_throwNew_20 rfl ?_
  refine mg_getA 19 18 dX10_throwNew_21 fX10_66 rfl rt_18 hS ?_
  refine g_aload_n dX10_throwNew_24 rfl ?_
  refine mg_getI 22 dX10_throwNew_25 fX10_132 rfl (by decide) hS ?_
  refine g_iload_n dX10_throwNew_28 rfl ?_
  refine mg_iast dX10_throwNew_29 (by first | exact rfl | assumption) rfl rfl (by omega) hS ?_
  refine g_aload_n dX10_throwNew_30 rfl ?_
  refine mg_getA 20 19 dX10_throwNew_31 fX10_69 rfl rt_19 hS ?_
  refine g_aload_n dX10_throwNew_34 rfl ?_
  refine mg_getI 22 dX10_throwNew_35 fX10_132 rfl (by decide) hS ?_
  refine g_iload dX10_throwNew_38 rfl ?_
  refine mg_iast dX10_throwNew_40 (by first | exact rfl | assumption) rfl rfl (by omega) hS ?_
  refine g_aload_n dX10_throwNew_41 rfl ?_
  refine mg_getA 21 20 dX10_throwNew_42 fX10_72 rfl rt_20 hS ?_
  refine g_aload_n dX10_throwNew_45 rfl ?_
  refine mg_getI 22 dX10_throwNew_46 fX10_132 rfl (by decide) hS ?_
  refine g_iload dX10_throwNew_49 rfl ?_
  refine g_if_ge 58 dX10_throwNew_51 (by decide) (fun c1 => ?_) (fun c1 => ?_)
  · obtain ⟨p, hp, hbp, hem⟩ := hb.resolve_left (fun q => by have h1 := q.1; exact absurd c1 (by rw [Int32.not_le]; exact h1))
    refine g_aload_n dX10_throwNew_58 rfl ?_
    refine mg_getA 21 20 dX10_throwNew_59 fX10_72 rfl rt_20 hS ?_
    refine g_iload dX10_throwNew_62 rfl ?_
    refine mg_iald dX10_throwNew_64 hbp rfl rfl (by omega) hS ?_
    refine g_iconstV (v := 1) dX10_throwNew_65 (by decide) ?_
    refine g_iadd dX10_throwNew_66 ?_
    refine mg_iast dX10_throwNew_67 (by first | exact rfl | assumption) rfl rfl (by omega) hS ?_
    refine g_aload_n dX10_throwNew_68 rfl ?_
    refine g_aload_n dX10_throwNew_69 rfl ?_
    refine mg_getI 22 dX10_throwNew_70 fX10_132 rfl (by decide) hS ?_
    refine mg_putI 32 dX10_throwNew_73 fX10_135 rfl (by decide) hS ?_
    refine g_aload_n dX10_throwNew_76 rfl ?_
    refine g_iconstV (v := 3) dX10_throwNew_77 (by decide) ?_
    refine mg_putI 31 dX10_throwNew_78 fX10_138 rfl (by decide) hS ?_
    refine g_aload_n dX10_throwNew_81 rfl ?_
    refine g_dup dX10_throwNew_82 rfl ?_
    refine mg_getI 22 dX10_throwNew_83 fX10_132 rfl (by decide) hS ?_
    refine g_iconstV (v := 1) dX10_throwNew_86 (by decide) ?_
    refine g_iadd dX10_throwNew_87 ?_
    refine mg_putI 22 dX10_throwNew_88 fX10_132 rfl (by decide) hS ?_
    refine g_vret dX10_throwNew_91 rfl ?_
    have e : mI σ 22 + 1 = nI (n + 1) := by rw [hn]; exact nI_1 n
    have e2 : mI σ 22 = nI n := hn
    first
      | (rw [hem] at k
         have k2 := k
         unfold mThrow at k2
         rw [← e, ← e2] at k2
         exact k2)
      | (have hb2 := (hb.resolve_right (fun ⟨p, hp, hbp, _⟩ => c1 (by rw [hbp]; exact nI_pos' (by omega)))).2
         rw [hb2] at k
         have k2 := k
         unfold mThrow at k2
         rw [← e, ← e2] at k2
         exact k2)
  · refine g_iconstV (v := 0) dX10_throwNew_54 (by decide) ?_
    refine g_goto 67 dX10_throwNew_55 (by decide) ?_
    refine mg_iast dX10_throwNew_67 (by first | exact rfl | assumption) rfl rfl (by omega) hS ?_
    refine g_aload_n dX10_throwNew_68 rfl ?_
    refine g_aload_n dX10_throwNew_69 rfl ?_
    refine mg_getI 22 dX10_throwNew_70 fX10_132 rfl (by decide) hS ?_
    refine mg_putI 32 dX10_throwNew_73 fX10_135 rfl (by decide) hS ?_
    refine g_aload_n dX10_throwNew_76 rfl ?_
    refine g_iconstV (v := 3) dX10_throwNew_77 (by decide) ?_
    refine mg_putI 31 dX10_throwNew_78 fX10_138 rfl (by decide) hS ?_
    refine g_aload_n dX10_throwNew_81 rfl ?_
    refine g_dup dX10_throwNew_82 rfl ?_
    refine mg_getI 22 dX10_throwNew_83 fX10_132 rfl (by decide) hS ?_
    refine g_iconstV (v := 1) dX10_throwNew_86 (by decide) ?_
    refine g_iadd dX10_throwNew_87 ?_
    refine mg_putI 22 dX10_throwNew_88 fX10_132 rfl (by decide) hS ?_
    refine g_vret dX10_throwNew_91 rfl ?_
    have e : mI σ 22 + 1 = nI (n + 1) := by rw [hn]; exact nI_1 n
    have e2 : mI σ 22 = nI n := hn
    first
      | (rw [hem] at k
         have k2 := k
         unfold mThrow at k2
         rw [← e, ← e2] at k2
         exact k2)
      | (have hb2 := (hb.resolve_right (fun ⟨p, hp, hbp, _⟩ => c1 (by rw [hbp]; exact nI_pos' (by omega)))).2
         rw [hb2] at k
         have k2 := k
         unfold mThrow at k2
         rw [← e, ← e2] at k2
         exact k2)
end
section
/-- fail(kind): a new fault without an earlier one, at the step where the run is -/
def mFail (σ : MW) (n : Nat) (kd : Int32) : MW := mThrow σ n kd (mI σ 30) 0 (-1) 0
set_option maxHeartbeats 4000000 in
set_option maxRecDepth 20000 in
theorem m_fail {g : GE} {d : Nat} {w : GW} {σ : MW} {Q : Option Value → GW → Prop} (hd : 1 ≤ d) (hS : SK g w) {n : Nat} {kd : Int32} (hn : mI σ 22 = nI n) (hn2 : n < 600) (k : Q none (put g (mFail σ n kd) w)) : gM g d mX10_fail [.ref (eB g + 70), .int kd] (put g σ w) Q := by
  refine gM.of (by decide) (Nat.le_of_ble_eq_true rfl) ?_
  refine g_aload_n dX10_fail_0 rfl ?_
  refine g_iload_n dX10_fail_1 rfl ?_
  refine g_aload_n dX10_fail_2 rfl ?_
  refine mg_getI 30 dX10_fail_3 fX10_141 rfl (by decide) hS ?_
  refine g_iconstV (v := 0) dX10_fail_6 (by decide) ?_
  refine g_iconstV (v := -1) dX10_fail_7 (by decide) ?_
  refine g_callV (d1 := d - 1) (As := [_, _, _, _]) 9 dX10_fail_8 vX10_144 (by omega) (mg_ob hS) rfl rfl (Nat.le_of_ble_eq_true rfl) ?_
  refine m_throwNew hS hn hn2 (Or.inl ⟨by decide, rfl⟩) ?_
  refine g_vret dX10_fail_11 rfl ?_
  exact k
set_option maxHeartbeats 4000000 in
set_option maxRecDepth 20000 in
theorem m_isCounted {g : GE} {d : Nat} {w : GW} {σ : MW} {Q : Option Value → GW → Prop} (hS : SK g w) {n : Nat} (hn : mI σ 34 = nI n) (hn2 : n ≤ 200) (k1 : n = 200 → Q (some (.int 0)) (put g σ w)) (k2 : n < 200 → Q (some (.int 1)) (put g (sI σ 34 (nI (n + 1))) w)) : gM g d mX10_isCounted [.ref (eB g + 70)] (put g σ w) Q := by
  refine gM.of (by decide) (Nat.le_of_ble_eq_true rfl) ?_
  refine g_aload_n dX10_isCounted_0 rfl ?_
  refine mg_getI 34 dX10_isCounted_1 fX10_184 rfl (by decide) hS ?_
  refine g_sipushV (v := 200) dX10_isCounted_4 (by decide) ?_
  refine g_icmp_ne 12 dX10_isCounted_7 (by decide) (fun c1 => ?_) (fun c1 => ?_)
  · refine g_aload_n dX10_isCounted_12 rfl ?_
    refine g_dup dX10_isCounted_13 rfl ?_
    refine mg_getI 34 dX10_isCounted_14 fX10_184 rfl (by decide) hS ?_
    refine g_iconstV (v := 1) dX10_isCounted_17 (by decide) ?_
    refine g_iadd dX10_isCounted_18 ?_
    refine mg_putI 34 dX10_isCounted_19 fX10_184 rfl (by decide) hS ?_
    refine g_iconstV (v := 1) dX10_isCounted_22 (by decide) ?_
    refine g_zret dX10_isCounted_23 rfl rfl ?_
    first
      | exact k1 ((nI_eq (by omega) (by decide)).mp (show nI n = nI 200 from hn ▸ c1))
      | (have h2 : n < 200 := (by rcases Nat.lt_or_ge n 200 with q | q; exact q; exact absurd (by rw [hn, show n = 200 by omega]; rfl) c1)
         have e : mI σ 34 + 1 = nI (n + 1) := (by rw [hn]; exact nI_1 n)
         exact e ▸ k2 h2)
  · refine g_iconstV (v := 0) dX10_isCounted_10 (by decide) ?_
    refine g_zret dX10_isCounted_11 rfl rfl ?_
    first
      | exact k1 ((nI_eq (by omega) (by decide)).mp (show nI n = nI 200 from hn ▸ c1))
      | (have h2 : n < 200 := (by rcases Nat.lt_or_ge n 200 with q | q; exact q; exact absurd (by rw [hn, show n = 200 by omega]; rfl) c1)
         have e : mI σ 34 + 1 = nI (n + 1) := (by rw [hn]; exact nI_1 n)
         exact e ▸ k2 h2)
set_option maxHeartbeats 4000000 in
set_option maxRecDepth 20000 in
theorem m_note {g : GE} {d : Nat} {w : GW} {σ : MW} {Q : Option Value → GW → Prop} (hS : SK g w) {n : Nat} {x : UInt64} (hn : mI σ 38 = nI n) (hn2 : n < 1000) (k : Q none (put g (sI (sD σ 26 n x) 38 (nI (n + 1))) w)) : gM g d mX10_note [.ref (eB g + 70), .double x] (put g σ w) Q := by
  refine gM.of (by decide) (Nat.le_of_ble_eq_true rfl) ?_
  refine g_aload_n dX10_note_0 rfl ?_
  refine mg_getA 37 26 dX10_note_1 fX10_94 rfl rt_26 hS ?_
  refine g_aload_n dX10_note_4 rfl ?_
  refine mg_getI 38 dX10_note_5 fX10_207 rfl (by decide) hS ?_
  refine g_dload_n dX10_note_8 rfl ?_
  refine mg_dast dX10_note_9 (by first | exact rfl | assumption) rfl rfl (by omega) hS ?_
  refine g_aload_n dX10_note_10 rfl ?_
  refine g_dup dX10_note_11 rfl ?_
  refine mg_getI 38 dX10_note_12 fX10_207 rfl (by decide) hS ?_
  refine g_iconstV (v := 1) dX10_note_15 (by decide) ?_
  refine g_iadd dX10_note_16 ?_
  refine mg_putI 38 dX10_note_17 fX10_207 rfl (by decide) hS ?_
  refine g_vret dX10_note_20 rfl ?_
  have e : mI σ 38 + 1 = nI (n + 1) := by rw [hn]; exact nI_1 n
  exact e ▸ k
set_option maxHeartbeats 4000000 in
set_option maxRecDepth 20000 in
theorem m_clear {g : GE} {d : Nat} {w : GW} {σ : MW} {Q : Option Value → GW → Prop} (hS : SK g w) {r : Nat} (hr : mI σ 11 = nI r) (hr2 : r < 4) (k : Q (some (.int (mA σ 6 r))) (put g (sA (sA σ 6 r 0) 7 r 0) w)) : gM g d mX10_clear [.ref (eB g + 70)] (put g σ w) Q := by
  refine gM.of (by decide) (Nat.le_of_ble_eq_true rfl) ?_
  refine g_aload_n dX10_clear_0 rfl ?_
  refine mg_getA 6 6 dX10_clear_1 fX10_28 rfl rt_6 hS ?_
  refine g_aload_n dX10_clear_4 rfl ?_
  refine mg_getI 11 dX10_clear_5 fX10_104 rfl (by decide) hS ?_
  refine mg_iald dX10_clear_8 (by first | exact rfl | assumption) rfl rfl (by omega) hS ?_
  refine g_istore_n dX10_clear_9 (by decide) rfl ?_
  refine g_aload_n dX10_clear_10 rfl ?_
  refine mg_getA 6 6 dX10_clear_11 fX10_28 rfl rt_6 hS ?_
  refine g_aload_n dX10_clear_14 rfl ?_
  refine mg_getI 11 dX10_clear_15 fX10_104 rfl (by decide) hS ?_
  refine g_iconstV (v := 0) dX10_clear_18 (by decide) ?_
  refine mg_iast dX10_clear_19 (by first | exact rfl | assumption) rfl rfl (by omega) hS ?_
  refine g_aload_n dX10_clear_20 rfl ?_
  refine mg_getA 7 7 dX10_clear_21 fX10_31 rfl rt_7 hS ?_
  refine g_aload_n dX10_clear_24 rfl ?_
  refine mg_getI 11 dX10_clear_25 fX10_104 rfl (by decide) hS ?_
  refine g_iconstV (v := 0) dX10_clear_28 (by decide) ?_
  refine mg_iast dX10_clear_29 (by first | exact rfl | assumption) rfl rfl (by omega) hS ?_
  refine g_iload_n dX10_clear_30 rfl ?_
  refine g_iret dX10_clear_31 rfl ?_
  exact k
theorem fIn_1 {v lo hi : Int32} : fIn v lo hi = 1 ↔ ¬ v < lo ∧ ¬ hi < v := by
  unfold fIn
  by_cases h1 : v < lo
  · simp [h1]
  · by_cases h2 : hi < v <;> simp [h1, h2]
theorem fIn_nI {v : Int32} (hi : Nat) (hh : hi < 2 ^ 31) (h : ¬ fIn v 0 (nI hi) = 0) : ∃ j : Nat, j ≤ hi ∧ v = nI j := by
  obtain ⟨h1, h2⟩ := fIn_1.mp ((fIn_01 v 0 (nI hi)).resolve_left h)
  obtain ⟨j, hj, rfl⟩ := nI_of h1
  refine ⟨j, ?_, rfl⟩
  rcases Nat.lt_or_ge hi j with q | q
  · exact absurd (nI_lt q hj) h2
  · exact q
set_option maxHeartbeats 4000000 in
set_option maxRecDepth 20000 in
theorem m_choose {g : GE} {d : Nat} {w : GW} {σ : MW} {Q : Option Value → GW → Prop} (hd : 1 ≤ d) (hS : SK g w) {v : Int32} (k1 : fIn v 0 3 = 0 → Q (some (.int (-1))) (put g σ w)) (k2 : ∀ r : Nat, r < 4 → v = nI r → Q (some (.int (mA σ 6 r))) (put g (sI σ 11 (nI r)) w)) : gM g d mX10_choose [.ref (eB g + 70), .int v] (put g σ w) Q := by
  refine gM.of (by decide) (Nat.le_of_ble_eq_true rfl) ?_
  refine g_iload_n dX10_choose_0 rfl ?_
  refine g_iconstV (v := 0) dX10_choose_1 (by decide) ?_
  refine g_iconstV (v := 3) dX10_choose_2 (by decide) ?_
  refine g_callS (d1 := d - 1) (As := [_, _, _]) dX10_choose_3 sX10_100 (by omega) rfl rfl (Nat.le_of_ble_eq_true rfl) ?_
  refine m_isIn ?_
  refine g_if_ne 11 dX10_choose_6 (by decide) (fun c1 => ?_) (fun c1 => ?_)
  · obtain ⟨r, hr, rfl⟩ := fIn_nI 3 (by decide) c1
    refine g_aload_n dX10_choose_11 rfl ?_
    refine g_iload_n dX10_choose_12 rfl ?_
    refine mg_putI 11 dX10_choose_13 fX10_104 rfl (by decide) hS ?_
    refine g_aload_n dX10_choose_16 rfl ?_
    refine mg_getA 6 6 dX10_choose_17 fX10_28 rfl rt_6 hS ?_
    refine g_iload_n dX10_choose_20 rfl ?_
    refine mg_iald dX10_choose_21 (by first | exact rfl | assumption) rfl rfl (by omega) hS ?_
    refine g_iret dX10_choose_22 rfl ?_
    first
      | exact k2 r (by omega) rfl
      | exact k1 (Classical.byContradiction c1)
      | exact k1 c1
  · refine g_iconstV (v := -1) dX10_choose_9 (by decide) ?_
    refine g_iret dX10_choose_10 rfl ?_
    first
      | exact k2 r (by omega) rfl
      | exact k1 (Classical.byContradiction c1)
      | exact k1 c1
/-- round(): no round is left -/
def mRoundOut (σ : MW) (o e : Nat) : MW := sI (sI σ 29 (nI o)) 30 (nI (e + 1))
/-- round(): one more, counted -/
def mRoundOn (σ : MW) (o p l c : Nat) : MW := sI (sI (sI (sA σ 23 o (nI l)) 30 (nI p)) 34 (nI (c + 1))) 30 (nI (p + 1))
/-- round(): one more, but it isn't counted -/
def mRoundTired (σ : MW) (o p l n : Nat) : MW := mFail (sI (sA σ 23 o (nI l)) 30 (nI p)) n 10
set_option maxHeartbeats 4000000 in
set_option maxRecDepth 20000 in
theorem m_roundOut {g : GE} {d : Nat} {w : GW} {σ : MW} {Q : Option Value → GW → Prop} (hS : SK g w) {o p e : Nat} (ho : mI σ 29 = nI (o + 1)) (ho2 : o < 60) (hl : mA σ 23 o = 0) (hp : mA σ 22 o = nI p) (hp2 : p < 160) (he : mA σ 4 p = nI e) (k : Q none (put g (mRoundOut σ o e) w)) : gM g d mX10_round [.ref (eB g + 70)] (put g σ w) Q := by
  refine gM.of (by decide) (Nat.le_of_ble_eq_true rfl) ?_
  have eo : mI σ 29 - 1 = nI o := by rw [ho]; exact nI_pred o
  refine g_aload_n dX10_round_0 rfl ?_
  refine mg_getI 29 dX10_round_1 fX10_156 rfl (by decide) hS ?_
  refine g_iconstV (v := 1) dX10_round_4 (by decide) ?_
  refine g_isub dX10_round_5 ?_
  rw [eo]
  refine g_istore_n dX10_round_6 (by decide) rfl ?_
  refine g_aload_n dX10_round_7 rfl ?_
  refine mg_getA 26 23 dX10_round_8 fX10_85 rfl rt_23 hS ?_
  refine g_iload_n dX10_round_11 rfl ?_
  refine mg_iald dX10_round_12 (by first | exact rfl | assumption) rfl rfl (by omega) hS ?_
  refine g_if_ne 44 dX10_round_13 (by decide) (fun q => absurd (hl) q) (fun _ => ?_)
  refine g_aload_n dX10_round_16 rfl ?_
  refine g_dup dX10_round_17 rfl ?_
  refine mg_getI 29 dX10_round_18 fX10_156 rfl (by decide) hS ?_
  refine g_iconstV (v := 1) dX10_round_21 (by decide) ?_
  refine g_isub dX10_round_22 ?_
  rw [eo]
  refine mg_putI 29 dX10_round_23 fX10_156 rfl (by decide) hS ?_
  refine g_aload_n dX10_round_26 rfl ?_
  refine g_aload_n dX10_round_27 rfl ?_
  refine mg_getA 4 4 dX10_round_28 fX10_22 rfl rt_4 hS ?_
  refine g_aload_n dX10_round_31 rfl ?_
  refine mg_getA 25 22 dX10_round_32 fX10_82 rfl rt_22 hS ?_
  refine g_iload_n dX10_round_35 rfl ?_
  refine mg_iald dX10_round_36 (by first | exact rfl | assumption) rfl rfl (by omega) hS ?_
  refine mg_iald dX10_round_37 (by first | exact rfl | assumption) rfl rfl (by omega) hS ?_
  refine g_iconstV (v := 1) dX10_round_38 (by decide) ?_
  refine g_iadd dX10_round_39 ?_
  refine mg_putI 30 dX10_round_40 fX10_141 rfl (by decide) hS ?_
  refine g_vret dX10_round_43 rfl ?_
  have e1 : mA σ 4 p + 1 = nI (e + 1) := by rw [he]; exact nI_1 e
  exact e1 ▸ k
set_option maxHeartbeats 4000000 in
set_option maxRecDepth 20000 in
theorem m_roundOn {g : GE} {d : Nat} {w : GW} {σ : MW} {Q : Option Value → GW → Prop} (hd : 1 ≤ d) (hS : SK g w) {o p l c : Nat} (ho : mI σ 29 = nI (o + 1)) (ho2 : o < 60) (hl : mA σ 23 o = nI (l + 1)) (hl2 : l < 100) (hp : mA σ 22 o = nI p) (hp2 : p < 160) (hc : mI σ 34 = nI c) (hc2 : c < 200) (k : Q none (put g (mRoundOn σ o p l c) w)) : gM g d mX10_round [.ref (eB g + 70)] (put g σ w) Q := by
  refine gM.of (by decide) (Nat.le_of_ble_eq_true rfl) ?_
  have eo : mI σ 29 - 1 = nI o := by rw [ho]; exact nI_pred o
  have el : mA σ 23 o - 1 = nI l := by rw [hl]; exact nI_pred l
  refine g_aload_n dX10_round_0 rfl ?_
  refine mg_getI 29 dX10_round_1 fX10_156 rfl (by decide) hS ?_
  refine g_iconstV (v := 1) dX10_round_4 (by decide) ?_
  refine g_isub dX10_round_5 ?_
  rw [eo]
  refine g_istore_n dX10_round_6 (by decide) rfl ?_
  refine g_aload_n dX10_round_7 rfl ?_
  refine mg_getA 26 23 dX10_round_8 fX10_85 rfl rt_23 hS ?_
  refine g_iload_n dX10_round_11 rfl ?_
  refine mg_iald dX10_round_12 (by first | exact rfl | assumption) rfl rfl (by omega) hS ?_
  refine g_if_ne 44 dX10_round_13 (by decide) (fun _ => ?_) (fun q => absurd q (by rw [hl]; exact nI_ne0 (by omega) (by omega)))
  refine g_aload_n dX10_round_44 rfl ?_
  refine mg_getA 26 23 dX10_round_45 fX10_85 rfl rt_23 hS ?_
  refine g_iload_n dX10_round_48 rfl ?_
  refine g_dup2 dX10_round_49 rfl rfl ?_
  refine mg_iald dX10_round_50 rfl rfl rfl (by omega) hS ?_
  refine g_iconstV (v := 1) dX10_round_51 (by decide) ?_
  refine g_isub dX10_round_52 ?_
  rw [el]
  refine mg_iast dX10_round_53 (by first | exact rfl | assumption) rfl rfl (by omega) hS ?_
  refine g_aload_n dX10_round_54 rfl ?_
  refine g_aload_n dX10_round_55 rfl ?_
  refine mg_getA 25 22 dX10_round_56 fX10_82 rfl rt_22 hS ?_
  refine g_iload_n dX10_round_59 rfl ?_
  refine mg_iald dX10_round_60 (by first | exact rfl | assumption) rfl rfl (by omega) hS ?_
  rw [show mA (sA σ 23 o (nI l)) 22 o = nI p from hp]
  refine mg_putI 30 dX10_round_61 fX10_141 rfl (by decide) hS ?_
  refine g_aload_n dX10_round_64 rfl ?_
  refine g_callV (d1 := d - 1) (As := []) 9 dX10_round_65 vX10_187 (by omega) (mg_ob hS) rfl rfl (Nat.le_of_ble_eq_true rfl) ?_
  refine m_isCounted hS (n := c) hc (by omega) (fun q => absurd q (by omega)) (fun _ => ?_)
  refine g_if_eq 84 dX10_round_68 (by decide) (fun q => absurd q (by decide)) (fun _ => ?_)
  refine g_aload_n dX10_round_71 rfl ?_
  refine g_dup dX10_round_72 rfl ?_
  refine mg_getI 30 dX10_round_73 fX10_141 rfl (by decide) hS ?_
  refine g_iconstV (v := 1) dX10_round_76 (by decide) ?_
  refine g_iadd dX10_round_77 ?_
  refine mg_putI 30 dX10_round_78 fX10_141 rfl (by decide) hS ?_
  refine g_goto 90 dX10_round_81 (by decide) ?_
  refine g_vret dX10_round_90 rfl ?_
  have e1 : nI p + 1 = nI (p + 1) := nI_1 p
  exact e1 ▸ k
set_option maxHeartbeats 4000000 in
set_option maxRecDepth 20000 in
theorem m_roundTired {g : GE} {d : Nat} {w : GW} {σ : MW} {Q : Option Value → GW → Prop} (hd : 2 ≤ d) (hS : SK g w) {o p l n : Nat} (ho : mI σ 29 = nI (o + 1)) (ho2 : o < 60) (hl : mA σ 23 o = nI (l + 1)) (hl2 : l < 100) (hp : mA σ 22 o = nI p) (hp2 : p < 160) (hc : mI σ 34 = nI 200) (hn : mI σ 22 = nI n) (hn2 : n < 600) (k : Q none (put g (mRoundTired σ o p l n) w)) : gM g d mX10_round [.ref (eB g + 70)] (put g σ w) Q := by
  refine gM.of (by decide) (Nat.le_of_ble_eq_true rfl) ?_
  have eo : mI σ 29 - 1 = nI o := by rw [ho]; exact nI_pred o
  have el : mA σ 23 o - 1 = nI l := by rw [hl]; exact nI_pred l
  refine g_aload_n dX10_round_0 rfl ?_
  refine mg_getI 29 dX10_round_1 fX10_156 rfl (by decide) hS ?_
  refine g_iconstV (v := 1) dX10_round_4 (by decide) ?_
  refine g_isub dX10_round_5 ?_
  rw [eo]
  refine g_istore_n dX10_round_6 (by decide) rfl ?_
  refine g_aload_n dX10_round_7 rfl ?_
  refine mg_getA 26 23 dX10_round_8 fX10_85 rfl rt_23 hS ?_
  refine g_iload_n dX10_round_11 rfl ?_
  refine mg_iald dX10_round_12 (by first | exact rfl | assumption) rfl rfl (by omega) hS ?_
  refine g_if_ne 44 dX10_round_13 (by decide) (fun _ => ?_) (fun q => absurd q (by rw [hl]; exact nI_ne0 (by omega) (by omega)))
  refine g_aload_n dX10_round_44 rfl ?_
  refine mg_getA 26 23 dX10_round_45 fX10_85 rfl rt_23 hS ?_
  refine g_iload_n dX10_round_48 rfl ?_
  refine g_dup2 dX10_round_49 rfl rfl ?_
  refine mg_iald dX10_round_50 rfl rfl rfl (by omega) hS ?_
  refine g_iconstV (v := 1) dX10_round_51 (by decide) ?_
  refine g_isub dX10_round_52 ?_
  rw [el]
  refine mg_iast dX10_round_53 (by first | exact rfl | assumption) rfl rfl (by omega) hS ?_
  refine g_aload_n dX10_round_54 rfl ?_
  refine g_aload_n dX10_round_55 rfl ?_
  refine mg_getA 25 22 dX10_round_56 fX10_82 rfl rt_22 hS ?_
  refine g_iload_n dX10_round_59 rfl ?_
  refine mg_iald dX10_round_60 (by first | exact rfl | assumption) rfl rfl (by omega) hS ?_
  rw [show mA (sA σ 23 o (nI l)) 22 o = nI p from hp]
  refine mg_putI 30 dX10_round_61 fX10_141 rfl (by decide) hS ?_
  refine g_aload_n dX10_round_64 rfl ?_
  refine g_callV (d1 := d - 1) (As := []) 9 dX10_round_65 vX10_187 (by omega) (mg_ob hS) rfl rfl (Nat.le_of_ble_eq_true rfl) ?_
  refine m_isCounted hS (n := 200) hc (by omega) (fun _ => ?_) (fun q => absurd q (by omega))
  refine g_if_eq 84 dX10_round_68 (by decide) (fun _ => ?_) (fun q => absurd (by decide) q)
  refine g_aload_n dX10_round_84 rfl ?_
  refine g_bipushV (v := 10) dX10_round_85 (by decide) ?_
  refine g_callV (d1 := d - 1) (As := [_]) 9 dX10_round_87 vX10_191 (by omega) (mg_ob hS) rfl rfl (Nat.le_of_ble_eq_true rfl) ?_
  refine m_fail (by omega) hS hn hn2 ?_
  refine g_vret dX10_round_90 rfl ?_
  exact k
end
section
set_option maxHeartbeats 4000000 in
set_option maxRecDepth 20000 in
theorem m_caught_loop {g : GE} {d : Nat} {w : GW} {σ : MW} {Q : Option Value → GW → Prop} (hS : SK g w) {t : Nat} (ht : mA σ 21 t = 4) (k : Q (some (.int (mA σ 24 t))) (put g σ w)) : ∀ m : Nat, t + m < 60 → (∀ j, t < j → j ≤ t + m → ¬ mA σ 21 j = 4) → gF g d mX10_caught 7 [(1, .int (nI (t + m))), (0, .ref (eB g + 70))] [] (put g σ w) Q
  | 0, hm, _ => by
    refine g_aload_n dX10_caught_7 rfl ?_
    refine mg_getA 24 21 dX10_caught_8 fX10_79 rfl rt_21 hS ?_
    refine g_iload_n dX10_caught_11 rfl ?_
    refine mg_iald dX10_caught_12 (by first | exact rfl | assumption) rfl rfl (by omega) hS ?_
    refine g_iconstV (v := 4) dX10_caught_13 (by decide) ?_
    refine g_icmp_eq 23 dX10_caught_14 (by decide) (fun _ => ?_) (fun q => absurd (ht) q)
    refine g_aload_n dX10_caught_23 rfl ?_
    refine mg_getA 27 24 dX10_caught_24 fX10_88 rfl rt_24 hS ?_
    refine g_iload_n dX10_caught_27 rfl ?_
    refine mg_iald dX10_caught_28 (by first | exact rfl | assumption) rfl rfl (by omega) hS ?_
    refine g_iret dX10_caught_29 rfl ?_
    exact k
  | m + 1, hm, hj => by
    have h1 := hj (t + (m + 1)) (by omega) (by omega)
    refine g_aload_n dX10_caught_7 rfl ?_
    refine mg_getA 24 21 dX10_caught_8 fX10_79 rfl rt_21 hS ?_
    refine g_iload_n dX10_caught_11 rfl ?_
    refine mg_iald dX10_caught_12 (by first | exact rfl | assumption) rfl rfl (by omega) hS ?_
    refine g_iconstV (v := 4) dX10_caught_13 (by decide) ?_
    refine g_icmp_eq 23 dX10_caught_14 (by decide) (fun q => absurd q (h1)) (fun _ => ?_)
    refine g_iinc (lz := [(1, .int (nI (t + m))), (0, .ref (eB g + 70))]) dX10_caught_17 rfl (by decide) (by rw [show nI (t + (m + 1)) + Int32.ofInt (-1) = nI (t + m) from pk_m1 (t + m)]; rfl) ?_
    refine g_goto 7 dX10_caught_20 (by decide) ?_
    exact m_caught_loop hS ht k m (by omega) (fun j h2 h3 => hj j h2 (by omega))
set_option maxHeartbeats 4000000 in
set_option maxRecDepth 20000 in
theorem m_caught {g : GE} {d : Nat} {w : GW} {σ : MW} {Q : Option Value → GW → Prop} (hS : SK g w) {o t : Nat} (ho : mI σ 29 = nI (o + 1)) (ho2 : o < 60) (hto : t ≤ o) (ht : mA σ 21 t = 4) (hj : ∀ j, t < j → j ≤ o → ¬ mA σ 21 j = 4) (k : Q (some (.int (mA σ 24 t))) (put g σ w)) : gM g d mX10_caught [.ref (eB g + 70)] (put g σ w) Q := by
  refine gM.of (by decide) (Nat.le_of_ble_eq_true rfl) ?_
  have eo : mI σ 29 - 1 = nI o := by rw [ho]; exact nI_pred o
  obtain ⟨m, rfl⟩ : ∃ m, o = t + m := ⟨o - t, by omega⟩
  refine g_aload_n dX10_caught_0 rfl ?_
  refine mg_getI 29 dX10_caught_1 fX10_156 rfl (by decide) hS ?_
  refine g_iconstV (v := 1) dX10_caught_4 (by decide) ?_
  refine g_isub dX10_caught_5 ?_
  rw [eo]
  refine g_istore_n dX10_caught_6 (by decide) rfl ?_
  exact m_caught_loop hS ht k m ho2 hj
/-- call(i): routine r begins, behind step i -/
def mCall (σ : MW) (o r p c : Nat) : MW := mBegin (sI σ 33 (nI (c + 1))) o r (nI (p + 1))
set_option maxHeartbeats 4000000 in
set_option maxRecDepth 20000 in
theorem m_callTired {g : GE} {d : Nat} {w : GW} {σ : MW} {Q : Option Value → GW → Prop} (hd : 2 ≤ d) (hS : SK g w) {p r n : Nat} (hp : p < 160) (ha : mA σ 1 p = nI r) (hr : r < 4) (h : 0 < mA σ 7 r ∨ mI σ 33 = nI 4) (hn : mI σ 22 = nI n) (hn2 : n < 600) (k : Q none (put g (mFail σ n 10) w)) : gM g d mX10_call [.ref (eB g + 70), .int (nI p)] (put g σ w) Q := by
  refine gM.of (by decide) (Nat.le_of_ble_eq_true rfl) ?_
  refine g_aload_n dX10_call_0 rfl ?_
  refine mg_getA 7 7 dX10_call_1 fX10_31 rfl rt_7 hS ?_
  refine g_aload_n dX10_call_4 rfl ?_
  refine mg_getA 1 1 dX10_call_5 fX10_13 rfl rt_1 hS ?_
  refine g_iload_n dX10_call_8 rfl ?_
  refine mg_iald dX10_call_9 (by first | exact rfl | assumption) rfl rfl (by omega) hS ?_
  refine mg_iald dX10_call_10 (by first | exact rfl | assumption) rfl rfl (by omega) hS ?_
  refine g_if_gt 22 dX10_call_11 (by decide) (fun c1 => ?_) (fun c1 => ?_)
  · refine g_aload_n dX10_call_22 rfl ?_
    refine g_bipushV (v := 10) dX10_call_23 (by decide) ?_
    refine g_callV (d1 := d - 1) (As := [_]) 9 dX10_call_25 vX10_191 (by omega) (mg_ob hS) rfl rfl (Nat.le_of_ble_eq_true rfl) ?_
    refine m_fail (by omega) hS hn hn2 ?_
    refine g_vret dX10_call_28 rfl ?_
    exact k
  · refine g_aload_n dX10_call_14 rfl ?_
    refine mg_getI 33 dX10_call_15 fX10_163 rfl (by decide) hS ?_
    refine g_iconstV (v := 4) dX10_call_18 (by decide) ?_
    refine g_icmp_ne 29 dX10_call_19 (by decide) (fun c2 => ?_) (fun c2 => ?_)
    · exact absurd (h.resolve_left c1) c2
    · refine g_aload_n dX10_call_22 rfl ?_
      refine g_bipushV (v := 10) dX10_call_23 (by decide) ?_
      refine g_callV (d1 := d - 1) (As := [_]) 9 dX10_call_25 vX10_191 (by omega) (mg_ob hS) rfl rfl (Nat.le_of_ble_eq_true rfl) ?_
      refine m_fail (by omega) hS hn hn2 ?_
      refine g_vret dX10_call_28 rfl ?_
      exact k
set_option maxHeartbeats 4000000 in
set_option maxRecDepth 20000 in
theorem m_callOn {g : GE} {d : Nat} {w : GW} {σ : MW} {Q : Option Value → GW → Prop} (hd : 2 ≤ d) (hS : SK g w) {p r o c : Nat} (hp : p < 160) (ha : mA σ 1 p = nI r) (hr : r < 4) (h1 : mA σ 7 r = 0) (hc : mI σ 33 = nI c) (hc2 : c < 4) (ho : mI σ 29 = nI o) (ho2 : o < 60) (k : Q none (put g (mCall σ o r p c) w)) : gM g d mX10_call [.ref (eB g + 70), .int (nI p)] (put g σ w) Q := by
  refine gM.of (by decide) (Nat.le_of_ble_eq_true rfl) ?_
  have e1 : mI σ 33 + 1 = nI (c + 1) := by rw [hc]; exact nI_1 c
  have e2 : nI p + 1 = nI (p + 1) := nI_1 p
  refine g_aload_n dX10_call_0 rfl ?_
  refine mg_getA 7 7 dX10_call_1 fX10_31 rfl rt_7 hS ?_
  refine g_aload_n dX10_call_4 rfl ?_
  refine mg_getA 1 1 dX10_call_5 fX10_13 rfl rt_1 hS ?_
  refine g_iload_n dX10_call_8 rfl ?_
  refine mg_iald dX10_call_9 (by first | exact rfl | assumption) rfl rfl (by omega) hS ?_
  refine mg_iald dX10_call_10 (by first | exact rfl | assumption) rfl rfl (by omega) hS ?_
  refine g_if_gt 22 dX10_call_11 (by decide) (fun q => absurd q (by rw [h1]; decide)) (fun _ => ?_)
  refine g_aload_n dX10_call_14 rfl ?_
  refine mg_getI 33 dX10_call_15 fX10_163 rfl (by decide) hS ?_
  refine g_iconstV (v := 4) dX10_call_18 (by decide) ?_
  refine g_icmp_ne 29 dX10_call_19 (by decide) (fun _ => ?_) (fun q => absurd q (by rw [hc]; exact fun q => absurd ((nI_eq (b := 4) (by omega) (by decide)).mp q) (by omega)))
  refine g_aload_n dX10_call_29 rfl ?_
  refine g_dup dX10_call_30 rfl ?_
  refine mg_getI 33 dX10_call_31 fX10_163 rfl (by decide) hS ?_
  refine g_iconstV (v := 1) dX10_call_34 (by decide) ?_
  refine g_iadd dX10_call_35 ?_
  rw [e1]
  refine mg_putI 33 dX10_call_36 fX10_163 rfl (by decide) hS ?_
  refine g_aload_n dX10_call_39 rfl ?_
  refine g_aload_n dX10_call_40 rfl ?_
  refine mg_getA 1 1 dX10_call_41 fX10_13 rfl rt_1 hS ?_
  refine g_iload_n dX10_call_44 rfl ?_
  refine mg_iald dX10_call_45 (by first | exact rfl | assumption) rfl rfl (by omega) hS ?_
  refine g_iload_n dX10_call_46 rfl ?_
  refine g_iconstV (v := 1) dX10_call_47 (by decide) ?_
  refine g_iadd dX10_call_48 ?_
  rw [e2, show mA (sI σ 33 (nI (c + 1))) 1 p = nI r from ha]
  refine g_callV (d1 := d - 1) (As := [_, _]) 9 dX10_call_49 vX10_210 (by omega) (mg_ob hS) rfl rfl (Nat.le_of_ble_eq_true rfl) ?_
  refine m_begin (by omega) hS ho ho2 ?_
  refine g_vret dX10_call_52 rfl ?_
  exact k
/-- the fault n earlier ones down from f -/
def mDown (A : Nat → Nat → Int32) : Nat → Nat → Nat
  | f, 0 => f
  | f, n + 1 => (A 19 (mDown A f n)).toNatClampNeg
/-- f has at least n earlier ones, all of them among the first N -/
def mChain (A : Nat → Nat → Int32) (N f n : Nat) : Prop := f < N ∧ ∀ j, j < n → ∃ p : Nat, p < N ∧ A 19 (mDown A f j) = nI p
theorem mChain.lt {A : Nat → Nat → Int32} {N f n : Nat} (h : mChain A N f n) (hN : N ≤ 600) : ∀ j, j ≤ n → mDown A f j < N
  | 0, _ => h.1
  | j + 1, hj => by
    obtain ⟨p, hp, e⟩ := h.2 j (by omega)
    show (A 19 (mDown A f j)).toNatClampNeg < N
    rw [e, nI_clamp (by omega)]
    exact hp
theorem mChain.ix {A : Nat → Nat → Int32} {N f n : Nat} (h : mChain A N f n) (hN : N ≤ 600) {j : Nat} (hj : j < n) : A 19 (mDown A f j) = nI (mDown A f (j + 1)) := by
  obtain ⟨p, hp, e⟩ := h.2 j hj
  show A 19 (mDown A f j) = nI ((A 19 (mDown A f j)).toNatClampNeg)
  rw [e, nI_clamp (by omega)]
/-- the weight, over the n-th earlier one on: what 'weight' sums up from below -/
def mWt (A : Nat → Nat → Int32) (f : Nat) : Nat → Nat → Int32
  | n, 0 => fWeight (A 16 (mDown A f n)) (A 18 (mDown A f n)) 1
  | n, m + 1 => fWeight (A 16 (mDown A f n)) (A 18 (mDown A f n)) (1 + mWt A f (n + 1) m)
set_option maxHeartbeats 4000000 in
set_option maxRecDepth 20000 in
theorem m_below_loop {g : GE} {d : Nat} {w : GW} {σ : MW} {Q : Option Value → GW → Prop} (hS : SK g w) {N f n : Nat} (hN : N ≤ 600) (hc : mChain (mA σ) N f n) (hn6 : n < 600) (k : Q (some (.int (nI (mDown (mA σ) f n)))) (put g σ w)) : ∀ m i : Nat, i + m = n → gF g d mX10_below 5 [(4, .int (nI i)), (3, .int (nI (mDown (mA σ) f i))), (0, .ref (eB g + 70)), (1, .int (nI f)), (2, .int (nI n))] [] (put g σ w) Q
  | 0, i, hi => by
    have e : i = n := by omega
    subst e
    refine g_iload dX10_below_5 rfl ?_
    refine g_iload_n dX10_below_7 rfl ?_
    refine g_icmp_ge 24 dX10_below_8 (by decide) (fun _ => ?_) (fun q => absurd (nI_le (Nat.le_refl _) (by omega)) q)
    refine g_iload_n dX10_below_24 rfl ?_
    refine g_iret dX10_below_25 rfl ?_
    exact k
  | m + 1, i, hi => by
    have hlt := hc.lt hN i (by omega)
    refine g_iload dX10_below_5 rfl ?_
    refine g_iload_n dX10_below_7 rfl ?_
    refine g_icmp_ge 24 dX10_below_8 (by decide) (fun q => absurd q (nI_ge (by omega) (by omega))) (fun _ => ?_)
    refine g_aload_n dX10_below_11 rfl ?_
    refine mg_getA 20 19 dX10_below_12 fX10_69 rfl rt_19 hS ?_
    refine g_iload_n dX10_below_15 rfl ?_
    refine mg_iald dX10_below_16 (by first | exact rfl | assumption) rfl rfl (by omega) hS ?_
    rw [hc.ix hN (show i < n by omega)]
    refine g_istore_n (lz := [(3, .int (nI (mDown (mA σ) f (i + 1)))), (4, .int (nI i)), (0, .ref (eB g + 70)), (1, .int (nI f)), (2, .int (nI n))]) dX10_below_17 (by decide) rfl ?_
    refine g_iinc (lz := [(4, .int (nI (i + 1))), (3, .int (nI (mDown (mA σ) f (i + 1)))), (0, .ref (eB g + 70)), (1, .int (nI f)), (2, .int (nI n))]) dX10_below_18 rfl (by decide) (by rw [show nI i + Int32.ofInt 1 = nI (i + 1) from nI_1 i]; rfl) ?_
    refine g_goto 5 dX10_below_21 (by decide) ?_
    exact m_below_loop hS hN hc hn6 k m (i + 1) (by omega)
set_option maxHeartbeats 4000000 in
set_option maxRecDepth 20000 in
theorem m_below {g : GE} {d : Nat} {w : GW} {σ : MW} {Q : Option Value → GW → Prop} (hS : SK g w) {N f n : Nat} (hN : N ≤ 600) (hc : mChain (mA σ) N f n) (hn6 : n < 600) (k : Q (some (.int (nI (mDown (mA σ) f n)))) (put g σ w)) : gM g d mX10_below [.ref (eB g + 70), .int (nI f), .int (nI n)] (put g σ w) Q := by
  refine gM.of (by decide) (Nat.le_of_ble_eq_true rfl) ?_
  refine g_iload_n dX10_below_0 rfl ?_
  refine g_istore_n dX10_below_1 (by decide) rfl ?_
  refine g_iconstV (v := 0) dX10_below_2 (by decide) ?_
  refine g_istore dX10_below_3 (by decide) rfl ?_
  exact m_below_loop hS hN hc hn6 k n 0 (by omega)
end
section
set_option maxHeartbeats 4000000 in
set_option maxRecDepth 20000 in
theorem m_weighed {g : GE} {d : Nat} {w : GW} {Q : Option Value → GW → Prop} {kind number plain : Int32} (k : Q (some (.int (fWeight kind number plain))) w) : gM g d mX10_weighed [.int kind, .int plain, .int number] w Q := by
  refine gM.of (by decide) (Nat.le_of_ble_eq_true rfl) ?_
  refine g_iload_n dX10_weighed_0 rfl ?_
  refine g_tsw dX10_weighed_1 [52, 81, 57, 81, 61, 66, 71, 81, 75] 81 (by decide) (by decide) (by decide) (by decide) (by decide) ?_ (fun c1 => ?_)
  · simp only [tswK]
    refine ⟨fun c1 => ?_, fun c1 => ?_, fun c1 => ?_, fun c1 => ?_, fun c1 => ?_, fun c1 => ?_, fun c1 => ?_, fun c1 => ?_, fun c1 => ?_, trivial⟩
    · replace c1 := c1.trans (by decide : _ = (3 : Int32))
      refine g_iload_n dX10_weighed_52 rfl ?_
      refine g_bipushV (v := 10) dX10_weighed_53 (by decide) ?_
      refine g_iadd dX10_weighed_55 ?_
      refine g_iret dX10_weighed_56 rfl ?_
      simpa [fWeight, c1] using k
    · replace c1 := c1.trans (by decide : _ = (4 : Int32))
      refine g_iload_n dX10_weighed_81 rfl ?_
      refine g_iret dX10_weighed_82 rfl ?_
      simpa [fWeight, c1] using k
    · replace c1 := c1.trans (by decide : _ = (5 : Int32))
      refine g_iconstV (v := 3) dX10_weighed_57 (by decide) ?_
      refine g_iload_n dX10_weighed_58 rfl ?_
      refine g_imul dX10_weighed_59 ?_
      refine g_iret dX10_weighed_60 rfl ?_
      simpa [fWeight, c1] using k
    · replace c1 := c1.trans (by decide : _ = (6 : Int32))
      refine g_iload_n dX10_weighed_81 rfl ?_
      refine g_iret dX10_weighed_82 rfl ?_
      simpa [fWeight, c1] using k
    · replace c1 := c1.trans (by decide : _ = (7 : Int32))
      refine g_iload_n dX10_weighed_61 rfl ?_
      refine g_bipushV (v := 100) dX10_weighed_62 (by decide) ?_
      refine g_iadd dX10_weighed_64 ?_
      refine g_iret dX10_weighed_65 rfl ?_
      simpa [fWeight, c1] using k
    · replace c1 := c1.trans (by decide : _ = (8 : Int32))
      refine g_iload_n dX10_weighed_66 rfl ?_
      refine g_bipushV (v := 105) dX10_weighed_67 (by decide) ?_
      refine g_iadd dX10_weighed_69 ?_
      refine g_iret dX10_weighed_70 rfl ?_
      simpa [fWeight, c1] using k
    · replace c1 := c1.trans (by decide : _ = (9 : Int32))
      refine g_iload_n dX10_weighed_71 rfl ?_
      refine g_iload_n dX10_weighed_72 rfl ?_
      refine g_iadd dX10_weighed_73 ?_
      refine g_iret dX10_weighed_74 rfl ?_
      simpa [fWeight, c1] using k
    · replace c1 := c1.trans (by decide : _ = (10 : Int32))
      refine g_iload_n dX10_weighed_81 rfl ?_
      refine g_iret dX10_weighed_82 rfl ?_
      simpa [fWeight, c1] using k
    · replace c1 := c1.trans (by decide : _ = (11 : Int32))
      refine g_iconstV (v := 2) dX10_weighed_75 (by decide) ?_
      refine g_iload_n dX10_weighed_76 rfl ?_
      refine g_iload_n dX10_weighed_77 rfl ?_
      refine g_iadd dX10_weighed_78 ?_
      refine g_imul dX10_weighed_79 ?_
      refine g_iret dX10_weighed_80 rfl ?_
      simpa [fWeight, c1] using k
  · have c1n0 := tsw_ne c1 3 (by decide)
    have c1n1 := tsw_ne c1 4 (by decide)
    have c1n2 := tsw_ne c1 5 (by decide)
    have c1n3 := tsw_ne c1 6 (by decide)
    have c1n4 := tsw_ne c1 7 (by decide)
    have c1n5 := tsw_ne c1 8 (by decide)
    have c1n6 := tsw_ne c1 9 (by decide)
    have c1n7 := tsw_ne c1 10 (by decide)
    have c1n8 := tsw_ne c1 11 (by decide)
    refine g_iload_n dX10_weighed_81 rfl ?_
    refine g_iret dX10_weighed_82 rfl ?_
    simpa [fWeight, c1n0, c1n1, c1n2, c1n3, c1n4, c1n5, c1n6, c1n7, c1n8] using k
/-- the sum before the round with k = i - 1: over the earlier ones from i on; 0 at i = n + 1 -/
def mSum (A : Nat → Nat → Int32) (f n i : Nat) : Int32 := if i = n + 1 then 0 else mWt A f i (n - i)
theorem mSum_step {A : Nat → Nat → Int32} {f n i : Nat} (h : i ≤ n) : mSum A f n i = fWeight (A 16 (mDown A f i)) (A 18 (mDown A f i)) (1 + mSum A f n (i + 1)) := by
  unfold mSum
  rw [if_neg (by omega)]
  by_cases e : i = n
  · subst e
    rw [if_pos rfl, Nat.sub_self]
    rfl
  · rw [if_neg (by omega), show n - i = (n - (i + 1)) + 1 by omega]
    rfl
set_option maxHeartbeats 4000000 in
set_option maxRecDepth 20000 in
theorem m_weight_loop {g : GE} {d : Nat} {w : GW} {σ : MW} {Q : Option Value → GW → Prop} (hd : 1 ≤ d) (hS : SK g w) {N f n : Nat} (hN : N ≤ 600) (hc : mChain (mA σ) N f n) (hn6 : n < 600) (k : Q (some (.int (mSum (mA σ) f n 0))) (put g σ w)) : ∀ i : Nat, i ≤ n + 1 → ∀ ls : List (Nat × Value), (ls = [(3, .int (nI i + Int32.ofInt (-1))), (2, .int (mSum (mA σ) f n i)), (4, .int (nI (mDown (mA σ) f i))), (0, .ref (eB g + 70)), (1, .int (nI f))] ∨ ls = [(3, .int (nI i + Int32.ofInt (-1))), (2, .int (mSum (mA σ) f n i)), (0, .ref (eB g + 70)), (1, .int (nI f))]) → gF g d mX10_weight 9 ls [] (put g σ w) Q
  | 0, hi, ls, hls => by
    have e0 : nI 0 + Int32.ofInt (-1) = -1 := by decide
    rw [e0] at hls
    rcases hls with rfl | rfl
    · refine g_iload_n dX10_weight_9 rfl ?_
      refine g_if_lt 48 dX10_weight_10 (by decide) (fun _ => ?_) (fun q => absurd (by decide) q)
      refine g_iload_n dX10_weight_48 rfl ?_
      refine g_iret dX10_weight_49 rfl ?_
      exact k
    · refine g_iload_n dX10_weight_9 rfl ?_
      refine g_if_lt 48 dX10_weight_10 (by decide) (fun _ => ?_) (fun q => absurd (by decide) q)
      refine g_iload_n dX10_weight_48 rfl ?_
      refine g_iret dX10_weight_49 rfl ?_
      exact k
  | i + 1, hi, ls, hls => by
    have e0 : nI (i + 1) + Int32.ofInt (-1) = nI i := pk_m1 i
    have hlt := hc.lt hN i (by omega)
    have hci : mChain (mA σ) N f i := ⟨hc.1, fun j hj => hc.2 j (by omega)⟩
    rw [e0] at hls
    clear e0
    rcases hls with rfl | rfl
    · refine g_iload_n dX10_weight_9 rfl ?_
      refine g_if_lt 48 dX10_weight_10 (by decide) (fun q => absurd q (nI_pos (by omega))) (fun _ => ?_)
      refine g_aload_n dX10_weight_13 rfl ?_
      refine g_iload_n dX10_weight_14 rfl ?_
      refine g_iload_n dX10_weight_15 rfl ?_
      refine g_callV (d1 := d - 1) (As := [_, _]) 9 dX10_weight_16 vX10_148 (by omega) (mg_ob hS) rfl rfl (Nat.le_of_ble_eq_true rfl) ?_
      refine m_below hS hN hci (by omega) ?_
      refine g_istore dX10_weight_19 (by decide) rfl ?_
      refine g_aload_n dX10_weight_21 rfl ?_
      refine mg_getA 17 16 dX10_weight_22 fX10_60 rfl rt_16 hS ?_
      refine g_iload dX10_weight_25 rfl ?_
      refine mg_iald dX10_weight_27 (by first | exact rfl | assumption) rfl rfl (by omega) hS ?_
      refine g_iconstV (v := 1) dX10_weight_28 (by decide) ?_
      refine g_iload_n dX10_weight_29 rfl ?_
      refine g_iadd dX10_weight_30 ?_
      refine g_aload_n dX10_weight_31 rfl ?_
      refine mg_getA 19 18 dX10_weight_32 fX10_66 rfl rt_18 hS ?_
      refine g_iload dX10_weight_35 rfl ?_
      refine mg_iald dX10_weight_37 (by first | exact rfl | assumption) rfl rfl (by omega) hS ?_
      refine g_callS (d1 := d - 1) (As := [_, _, _]) dX10_weight_38 sX10_152 (by omega) rfl rfl (Nat.le_of_ble_eq_true rfl) ?_
      refine m_weighed ?_
      rw [← mSum_step (show i ≤ n by omega)]
      refine g_istore_n dX10_weight_41 (by decide) rfl ?_
      refine g_iinc dX10_weight_42 rfl (by decide) rfl ?_
      refine g_goto 9 dX10_weight_45 (by decide) ?_
      exact m_weight_loop hd hS hN hc hn6 k i (by omega) _ (Or.inl rfl)
    · refine g_iload_n dX10_weight_9 rfl ?_
      refine g_if_lt 48 dX10_weight_10 (by decide) (fun q => absurd q (nI_pos (by omega))) (fun _ => ?_)
      refine g_aload_n dX10_weight_13 rfl ?_
      refine g_iload_n dX10_weight_14 rfl ?_
      refine g_iload_n dX10_weight_15 rfl ?_
      refine g_callV (d1 := d - 1) (As := [_, _]) 9 dX10_weight_16 vX10_148 (by omega) (mg_ob hS) rfl rfl (Nat.le_of_ble_eq_true rfl) ?_
      refine m_below hS hN hci (by omega) ?_
      refine g_istore dX10_weight_19 (by decide) rfl ?_
      refine g_aload_n dX10_weight_21 rfl ?_
      refine mg_getA 17 16 dX10_weight_22 fX10_60 rfl rt_16 hS ?_
      refine g_iload dX10_weight_25 rfl ?_
      refine mg_iald dX10_weight_27 (by first | exact rfl | assumption) rfl rfl (by omega) hS ?_
      refine g_iconstV (v := 1) dX10_weight_28 (by decide) ?_
      refine g_iload_n dX10_weight_29 rfl ?_
      refine g_iadd dX10_weight_30 ?_
      refine g_aload_n dX10_weight_31 rfl ?_
      refine mg_getA 19 18 dX10_weight_32 fX10_66 rfl rt_18 hS ?_
      refine g_iload dX10_weight_35 rfl ?_
      refine mg_iald dX10_weight_37 (by first | exact rfl | assumption) rfl rfl (by omega) hS ?_
      refine g_callS (d1 := d - 1) (As := [_, _, _]) dX10_weight_38 sX10_152 (by omega) rfl rfl (Nat.le_of_ble_eq_true rfl) ?_
      refine m_weighed ?_
      rw [← mSum_step (show i ≤ n by omega)]
      refine g_istore_n dX10_weight_41 (by decide) rfl ?_
      refine g_iinc dX10_weight_42 rfl (by decide) rfl ?_
      refine g_goto 9 dX10_weight_45 (by decide) ?_
      exact m_weight_loop hd hS hN hc hn6 k i (by omega) _ (Or.inl rfl)
set_option maxHeartbeats 4000000 in
set_option maxRecDepth 20000 in
theorem m_weight {g : GE} {d : Nat} {w : GW} {σ : MW} {Q : Option Value → GW → Prop} (hd : 1 ≤ d) (hS : SK g w) {N f n : Nat} (hN : N ≤ 600) (hc : mChain (mA σ) N f n) (hn6 : n < 600) (hm : mA σ 20 f = nI n) (k : Q (some (.int (mWt (mA σ) f 0 n))) (put g σ w)) : gM g d mX10_weight [.ref (eB g + 70), .int (nI f)] (put g σ w) Q := by
  refine gM.of (by decide) (Nat.le_of_ble_eq_true rfl) ?_
  have hf := hc.1
  have e0 : nI (n + 1) + Int32.ofInt (-1) = nI n := pk_m1 n
  have k2 : Q (some (.int (mSum (mA σ) f n 0))) (put g σ w) := by unfold mSum; rw [if_neg (by omega), Nat.sub_zero]; exact k
  have es : mSum (mA σ) f n (n + 1) = 0 := by unfold mSum; rw [if_pos rfl]
  refine g_iconstV (v := 0) dX10_weight_0 (by decide) ?_
  refine g_istore_n dX10_weight_1 (by decide) rfl ?_
  refine g_aload_n dX10_weight_2 rfl ?_
  refine mg_getA 21 20 dX10_weight_3 fX10_72 rfl rt_20 hS ?_
  refine g_iload_n dX10_weight_6 rfl ?_
  refine mg_iald dX10_weight_7 (by first | exact rfl | assumption) rfl rfl (by omega) hS ?_
  rw [hm, ← e0]
  refine g_istore_n dX10_weight_8 (by decide) rfl ?_
  exact m_weight_loop hd hS hN hc hn6 k2 (n + 1) (by omega) _ (Or.inr (by rw [es]; rfl))
def aTab (k : Nat) : Int32 := match k with | 2 => 1 | 3 => 2 | 4 => 2 | 5 => 2 | 6 => 1 | 7 => 6 | 8 => 6 | 9 => 1 | 10 => 1 | 11 => 9 | _ => 0
/-- is the kind k under 'over', looking up at most n times -/
def fU (over : Int32) : Nat → Nat → Int32
  | 0, _ => 0
  | n + 1, k => if k = 0 then 0 else if nI k = over then 1 else fU over n (aTab k).toNatClampNeg
theorem aTab_nI : ∀ k, k < 12 → aTab k = nI (aTab k).toNatClampNeg ∧ (aTab k).toNatClampNeg < 12 := by decide +kernel
set_option maxHeartbeats 4000000 in
set_option maxRecDepth 20000 in
theorem m_isUnder_loop {g : GE} {d : Nat} {w : GW} {σ : MW} {Q : Option Value → GW → Prop} (hS : SK g w) (ha : ∀ j, j < 12 → mA σ 27 j = aTab j) {kd over : Int32} : ∀ m i k0 : Nat, i + m = 4 → k0 < 12 → Q (some (.int (fU over m k0))) (put g σ w) → gF g d mX10_isUnder 5 [(4, .int (nI i)), (3, .int (nI k0)), (0, .ref (eB g + 70)), (1, .int kd), (2, .int over)] [] (put g σ w) Q
  | 0, i, k0, hi, hk, k => by
    have e : i = 4 := by omega
    subst e
    refine g_iload dX10_isUnder_5 rfl ?_
    refine g_iconstV (v := 4) dX10_isUnder_7 (by decide) ?_
    refine g_icmp_ge 35 dX10_isUnder_8 (by decide) (fun _ => ?_) (fun q => absurd (by decide) q)
    refine g_iconstV (v := 0) dX10_isUnder_35 (by decide) ?_
    refine g_zret dX10_isUnder_36 rfl rfl ?_
    exact k
  | m + 1, i, k0, hi, hk, k => by
    have hi4 : ¬ (4 : Int32) ≤ nI i := nI_ge (b := 4) (by omega) (by decide)
    obtain ⟨ea, eb⟩ := aTab_nI k0 hk
    refine g_iload dX10_isUnder_5 rfl ?_
    refine g_iconstV (v := 4) dX10_isUnder_7 (by decide) ?_
    refine g_icmp_ge 35 dX10_isUnder_8 (by decide) (fun q => absurd q (hi4)) (fun _ => ?_)
    refine g_iload_n dX10_isUnder_11 rfl ?_
    refine g_if_le 35 dX10_isUnder_12 (by decide) (fun c1 => ?_) (fun c1 => ?_)
    · refine g_iconstV (v := 0) dX10_isUnder_35 (by decide) ?_
      refine g_zret dX10_isUnder_36 rfl rfl ?_
      first
        | (have hk0 : ¬ k0 = 0 := (fun q => c1 (by subst q; decide)); rw [fU, if_neg hk0, if_pos c2] at k; exact k)
        | (have hk0 : k0 = 0 := (by rcases Nat.eq_zero_or_pos k0 with q | q; exact q; exact absurd c1 (nI_nle q (by omega))); rw [fU, if_pos hk0] at k; exact k)
    · refine g_iload_n dX10_isUnder_15 rfl ?_
      refine g_iload_n dX10_isUnder_16 rfl ?_
      refine g_icmp_ne 22 dX10_isUnder_17 (by decide) (fun c2 => ?_) (fun c2 => ?_)
      · refine g_aload_n dX10_isUnder_22 rfl ?_
        refine mg_getA 39 27 dX10_isUnder_23 fX10_97 rfl rt_27 hS ?_
        refine g_iload_n dX10_isUnder_26 rfl ?_
        refine mg_iald dX10_isUnder_27 (by first | exact rfl | assumption) rfl rfl (by omega) hS ?_
        rw [ha k0 hk, ea]
        refine g_istore_n (lz := [(3, .int (nI (aTab k0).toNatClampNeg)), (4, .int (nI i)), (0, .ref (eB g + 70)), (1, .int kd), (2, .int over)]) dX10_isUnder_28 (by decide) rfl ?_
        refine g_iinc (lz := [(4, .int (nI (i + 1))), (3, .int (nI (aTab k0).toNatClampNeg)), (0, .ref (eB g + 70)), (1, .int kd), (2, .int over)]) dX10_isUnder_29 rfl (by decide) (by rw [show nI i + Int32.ofInt 1 = nI (i + 1) from nI_1 i]; rfl) ?_
        refine g_goto 5 dX10_isUnder_32 (by decide) ?_
        have hk0 : ¬ k0 = 0 := fun q => c1 (by subst q; decide)
        rw [fU, if_neg hk0, if_neg c2] at k
        exact m_isUnder_loop hS ha m (i + 1) _ (by omega) eb k
      · refine g_iconstV (v := 1) dX10_isUnder_20 (by decide) ?_
        refine g_zret dX10_isUnder_21 rfl rfl ?_
        first
          | (have hk0 : ¬ k0 = 0 := (fun q => c1 (by subst q; decide)); rw [fU, if_neg hk0, if_pos c2] at k; exact k)
          | (have hk0 : k0 = 0 := (by rcases Nat.eq_zero_or_pos k0 with q | q; exact q; exact absurd c1 (nI_nle q (by omega))); rw [fU, if_pos hk0] at k; exact k)
set_option maxHeartbeats 4000000 in
set_option maxRecDepth 20000 in
theorem m_isUnder {g : GE} {d : Nat} {w : GW} {σ : MW} {Q : Option Value → GW → Prop} (hS : SK g w) {k0 : Nat} {over : Int32} (ha : ∀ j, j < 12 → mA σ 27 j = aTab j) (hk : k0 < 12) (k : Q (some (.int (fU over 4 k0))) (put g σ w)) : gM g d mX10_isUnder [.ref (eB g + 70), .int (nI k0), .int over] (put g σ w) Q := by
  refine gM.of (by decide) (Nat.le_of_ble_eq_true rfl) ?_
  refine g_iload_n dX10_isUnder_0 rfl ?_
  refine g_istore_n dX10_isUnder_1 (by decide) rfl ?_
  refine g_iconstV (v := 0) dX10_isUnder_2 (by decide) ?_
  refine g_istore dX10_isUnder_3 (by decide) rfl ?_
  exact m_isUnder_loop hS ha 4 0 k0 (by omega) hk k
end
section
/-- the innermost CAUGHT frame below o is t -/
def topC (σ : MW) (o t : Nat) : Prop := t < o ∧ mA σ 21 t = 4 ∧ ∀ j, t < j → j < o → ¬ mA σ 21 j = 4
set_option maxHeartbeats 4000000 in
set_option maxRecDepth 20000 in
theorem m_wrapTired {g : GE} {d : Nat} {w : GW} {σ : MW} {Q : Option Value → GW → Prop} (hd : 2 ≤ d) (hS : SK g w) {o t p f n : Nat} (ho : mI σ 29 = nI (o + 1)) (ho2 : o < 60) (hT : topC σ (o + 1) t) (hf : mA σ 24 t = nI f) (hf2 : f < 600) (hm : mA σ 20 f = 5) (hn : mI σ 22 = nI n) (hn2 : n < 600) (k : Q none (put g (mFail σ n 10) w)) : gM g d mX10_wrap [.ref (eB g + 70), .int (nI p)] (put g σ w) Q := by
  refine gM.of (by decide) (Nat.le_of_ble_eq_true rfl) ?_
  refine g_aload_n dX10_wrap_0 rfl ?_
  refine g_callV (d1 := d - 1) (As := []) 9 dX10_wrap_1 vX10_221 (by omega) (mg_ob hS) rfl rfl (Nat.le_of_ble_eq_true rfl) ?_
  refine m_caught hS (o := o) ho (by omega) (by have := hT.1; omega) hT.2.1 (fun j h1 h2 => hT.2.2 j h1 (by omega)) ?_
  rw [hf]
  refine g_istore_n dX10_wrap_4 (by decide) rfl ?_
  refine g_aload_n dX10_wrap_5 rfl ?_
  refine mg_getA 21 20 dX10_wrap_6 fX10_72 rfl rt_20 hS ?_
  refine g_iload_n dX10_wrap_9 rfl ?_
  refine mg_iald dX10_wrap_10 (by first | exact rfl | assumption) rfl rfl (by omega) hS ?_
  refine g_iconstV (v := 5) dX10_wrap_11 (by decide) ?_
  refine g_icmp_ne 24 dX10_wrap_12 (by decide) (fun q => absurd (hm) q) (fun _ => ?_)
  refine g_aload_n dX10_wrap_15 rfl ?_
  refine g_bipushV (v := 10) dX10_wrap_16 (by decide) ?_
  refine g_callV (d1 := d - 1) (As := [_]) 9 dX10_wrap_18 vX10_191 (by omega) (mg_ob hS) rfl rfl (Nat.le_of_ble_eq_true rfl) ?_
  refine m_fail (by omega) hS hn hn2 ?_
  refine g_goto 38 dX10_wrap_21 (by decide) ?_
  refine g_vret dX10_wrap_38 rfl ?_
  exact k
def mWrap (σ : MW) (n p f : Nat) : MW := mThrow σ n 11 (nI p) (mA σ 1 p) (nI f) (mA σ 20 f + 1)
set_option maxHeartbeats 4000000 in
set_option maxRecDepth 20000 in
theorem m_wrapOn {g : GE} {d : Nat} {w : GW} {σ : MW} {Q : Option Value → GW → Prop} (hd : 1 ≤ d) (hS : SK g w) {o t p f n : Nat} (ho : mI σ 29 = nI (o + 1)) (ho2 : o < 60) (hT : topC σ (o + 1) t) (hp : p < 160) (hf : mA σ 24 t = nI f) (hf2 : f < n) (hm : ¬ mA σ 20 f = 5) (hn : mI σ 22 = nI n) (hn2 : n < 600) (k : Q none (put g (mWrap σ n p f) w)) : gM g d mX10_wrap [.ref (eB g + 70), .int (nI p)] (put g σ w) Q := by
  refine gM.of (by decide) (Nat.le_of_ble_eq_true rfl) ?_
  refine g_aload_n dX10_wrap_0 rfl ?_
  refine g_callV (d1 := d - 1) (As := []) 9 dX10_wrap_1 vX10_221 (by omega) (mg_ob hS) rfl rfl (Nat.le_of_ble_eq_true rfl) ?_
  refine m_caught hS (o := o) ho (by omega) (by have := hT.1; omega) hT.2.1 (fun j h1 h2 => hT.2.2 j h1 (by omega)) ?_
  rw [hf]
  refine g_istore_n dX10_wrap_4 (by decide) rfl ?_
  refine g_aload_n dX10_wrap_5 rfl ?_
  refine mg_getA 21 20 dX10_wrap_6 fX10_72 rfl rt_20 hS ?_
  refine g_iload_n dX10_wrap_9 rfl ?_
  refine mg_iald dX10_wrap_10 (by first | exact rfl | assumption) rfl rfl (by omega) hS ?_
  refine g_iconstV (v := 5) dX10_wrap_11 (by decide) ?_
  refine g_icmp_ne 24 dX10_wrap_12 (by decide) (fun _ => ?_) (fun q => absurd q (hm))
  refine g_aload_n dX10_wrap_24 rfl ?_
  refine g_bipushV (v := 11) dX10_wrap_25 (by decide) ?_
  refine g_iload_n dX10_wrap_27 rfl ?_
  refine g_aload_n dX10_wrap_28 rfl ?_
  refine mg_getA 1 1 dX10_wrap_29 fX10_13 rfl rt_1 hS ?_
  refine g_iload_n dX10_wrap_32 rfl ?_
  refine mg_iald dX10_wrap_33 (by first | exact rfl | assumption) rfl rfl (by omega) hS ?_
  refine g_iload_n dX10_wrap_34 rfl ?_
  refine g_callV (d1 := d - 1) (As := [_, _, _, _]) 9 dX10_wrap_35 vX10_144 (by omega) (mg_ob hS) rfl rfl (Nat.le_of_ble_eq_true rfl) ?_
  refine m_throwNew hS hn hn2 (Or.inr ⟨f, hf2, rfl, rfl⟩) ?_
  refine g_vret dX10_wrap_38 rfl ?_
  exact k
def mTell (σ : MW) (n f many : Nat) : MW := sI (sD (sI (sD (sI (sD (sI (sD σ 26 n (FP.i2d (mA σ 16 f))) 38 (nI (n + 1))) 26 (n + 1) (FP.i2d (mA σ 17 f))) 38 (nI (n + 2))) 26 (n + 2) (FP.i2d (mWt (mA σ) f 0 many))) 38 (nI (n + 3))) 26 (n + 3) (FP.i2d (mA σ 20 f))) 38 (nI (n + 4))
set_option maxHeartbeats 4000000 in
set_option maxRecDepth 20000 in
theorem m_tell {g : GE} {d : Nat} {w : GW} {σ : MW} {Q : Option Value → GW → Prop} (hd : 2 ≤ d) (hS : SK g w) {o t f n N many p : Nat} (ho : mI σ 29 = nI (o + 1)) (ho2 : o < 60) (hT : topC σ (o + 1) t) (hf : mA σ 24 t = nI f) (hN : N ≤ 600) (hc : mChain (mA σ) N f many) (hm6 : many < 600) (hm : mA σ 20 f = nI many) (hn : mI σ 38 = nI n) (hn2 : n + 4 ≤ 1000) (hp : mI σ 30 = nI p) (k : Q none (put g (sI (mTell σ n f many) 30 (nI (p + 1))) w)) : gM g d mX10_tell [.ref (eB g + 70)] (put g σ w) Q := by
  refine gM.of (by decide) (Nat.le_of_ble_eq_true rfl) ?_
  have hf6 := hc.1
  have e1 : mI σ 30 + 1 = nI (p + 1) := by rw [hp]; exact nI_1 p
  refine g_aload_n dX10_tell_0 rfl ?_
  refine g_callV (d1 := d - 1) (As := []) 9 dX10_tell_1 vX10_221 (by omega) (mg_ob hS) rfl rfl (Nat.le_of_ble_eq_true rfl) ?_
  refine m_caught hS (o := o) ho (by omega) (by have := hT.1; omega) hT.2.1 (fun j h1 h2 => hT.2.2 j h1 (by omega)) ?_
  rw [hf]
  refine g_istore_n dX10_tell_4 (by decide) rfl ?_
  refine g_aload_n dX10_tell_5 rfl ?_
  refine g_aload_n dX10_tell_6 rfl ?_
  refine mg_getA 17 16 dX10_tell_7 fX10_60 rfl rt_16 hS ?_
  refine g_iload_n dX10_tell_10 rfl ?_
  refine mg_iald dX10_tell_11 (by first | exact rfl | assumption) rfl rfl (by omega) hS ?_
  refine g_i2d dX10_tell_12 ?_
  refine g_callV (d1 := d - 1) (As := [_]) 9 dX10_tell_13 vX10_225 (by omega) (mg_ob hS) rfl rfl (Nat.le_of_ble_eq_true rfl) ?_
  refine m_note hS (n := n) hn (by omega) ?_
  refine g_aload_n dX10_tell_16 rfl ?_
  refine g_aload_n dX10_tell_17 rfl ?_
  refine mg_getA 18 17 dX10_tell_18 fX10_63 rfl rt_17 hS ?_
  refine g_iload_n dX10_tell_21 rfl ?_
  refine mg_iald dX10_tell_22 (by first | exact rfl | assumption) rfl rfl (by omega) hS ?_
  refine g_i2d dX10_tell_23 ?_
  refine g_callV (d1 := d - 1) (As := [_]) 9 dX10_tell_24 vX10_225 (by omega) (mg_ob hS) rfl rfl (Nat.le_of_ble_eq_true rfl) ?_
  refine m_note hS (n := n + 1) rfl (by omega) ?_
  refine g_aload_n dX10_tell_27 rfl ?_
  refine g_aload_n dX10_tell_28 rfl ?_
  refine g_iload_n dX10_tell_29 rfl ?_
  refine g_callV (d1 := d - 1) (As := [_]) 9 dX10_tell_30 vX10_229 (by omega) (mg_ob hS) rfl rfl (Nat.le_of_ble_eq_true rfl) ?_
  refine m_weight (σ := sI (sD (sI (sD σ 26 n (FP.i2d (mA σ 16 f))) 38 (nI (n + 1))) 26 (n + 1) (FP.i2d (mA σ 17 f))) 38 (nI (n + 2))) (by omega) hS hN hc hm6 hm ?_
  refine g_i2d dX10_tell_33 ?_
  refine g_callV (d1 := d - 1) (As := [_]) 9 dX10_tell_34 vX10_225 (by omega) (mg_ob hS) rfl rfl (Nat.le_of_ble_eq_true rfl) ?_
  refine m_note hS (n := n + 2) rfl (by omega) ?_
  refine g_aload_n dX10_tell_37 rfl ?_
  refine g_aload_n dX10_tell_38 rfl ?_
  refine mg_getA 21 20 dX10_tell_39 fX10_72 rfl rt_20 hS ?_
  refine g_iload_n dX10_tell_42 rfl ?_
  refine mg_iald dX10_tell_43 (by first | exact rfl | assumption) rfl rfl (by omega) hS ?_
  refine g_i2d dX10_tell_44 ?_
  refine g_callV (d1 := d - 1) (As := [_]) 9 dX10_tell_45 vX10_225 (by omega) (mg_ob hS) rfl rfl (Nat.le_of_ble_eq_true rfl) ?_
  refine m_note hS (n := n + 3) rfl (by omega) ?_
  refine g_aload_n dX10_tell_48 rfl ?_
  refine g_dup dX10_tell_49 rfl ?_
  refine mg_getI 30 dX10_tell_50 fX10_141 rfl (by decide) hS ?_
  refine g_iconstV (v := 1) dX10_tell_53 (by decide) ?_
  refine g_iadd dX10_tell_54 ?_
  refine mg_putI 30 dX10_tell_55 fX10_141 rfl (by decide) hS ?_
  refine g_vret dX10_tell_58 rfl ?_
  exact e1 ▸ k
/-- from part p on the FINALLY or END of its TRY is q, m parts further -/
def mLP (σ : MW) : Nat → Nat → Nat → Prop
  | 0, p, q => p = q ∧ p < 160 ∧ (mA σ 0 p = 3 ∨ mA σ 0 p = 0)
  | m + 1, p, q => p < 160 ∧ ¬ mA σ 0 p = 3 ∧ ¬ mA σ 0 p = 0 ∧ ∃ p' : Nat, mA σ 5 p = nI p' ∧ mLP σ m p' q
/-- lastPart(): a FINALLY part q begins -/
def mLastOn (σ : MW) (o q : Nat) : MW := sI (sI (sI (sA (sA (sA σ 21 o 5) 25 o (mI σ 31)) 24 o (mI σ 32)) 36 (mI σ 36 + 1)) 30 (nI (q + 1))) 31 0
/-- lastPart(): there is none, it goes on -/
def mLastOff (σ : MW) (o : Nat) (to : Int32) : MW := sI (sI σ 30 to) 29 (nI o)
set_option maxHeartbeats 4000000 in
set_option maxRecDepth 20000 in
theorem m_lastPart_loop {g : GE} {d : Nat} {w : GW} {σ : MW} {Q : Option Value → GW → Prop} (hS : SK g w) {o q : Nat} (K : ∀ ls, ls.lookup 2 = some (.int (nI q)) → ls.lookup 1 = some (.int (nI o)) → ls.lookup 0 = some (.ref (eB g + 70)) → gF g d mX10_lastPart 53 ls [] (put g σ w) Q) : ∀ m i p : Nat, i + m ≤ 4 → mLP σ m p q → gF g d mX10_lastPart 16 [(3, .int (nI i)), (2, .int (nI p)), (1, .int (nI o)), (0, .ref (eB g + 70))] [] (put g σ w) Q
  | 0, i, p, hi, h => by
    obtain ⟨rfl, hp, h3⟩ := h
    by_cases hi4 : i = 4
    · subst hi4
      refine g_iload_n dX10_lastPart_16 rfl ?_
      refine g_iconstV (v := 4) dX10_lastPart_17 (by decide) ?_
      refine g_icmp_ge 53 dX10_lastPart_18 (by decide) (fun _ => ?_) (fun q => absurd (by decide) q)
      exact K _ rfl rfl rfl
    · have hi4 : ¬ (4 : Int32) ≤ nI i := nI_ge (b := 4) (by omega) (by decide)
      rcases h3 with h3 | h3
      · refine g_iload_n dX10_lastPart_16 rfl ?_
        refine g_iconstV (v := 4) dX10_lastPart_17 (by decide) ?_
        refine g_icmp_ge 53 dX10_lastPart_18 (by decide) (fun q => absurd q (hi4)) (fun _ => ?_)
        refine g_aload_n dX10_lastPart_21 rfl ?_
        refine mg_getA 0 0 dX10_lastPart_22 fX10_7 rfl rt_0 hS ?_
        refine g_iload_n dX10_lastPart_25 rfl ?_
        refine mg_iald dX10_lastPart_26 (by first | exact rfl | assumption) rfl rfl (by omega) hS ?_
        refine g_iconstV (v := 3) dX10_lastPart_27 (by decide) ?_
        refine g_icmp_eq 53 dX10_lastPart_28 (by decide) (fun _ => ?_) (fun q => absurd (h3) q)
        exact K _ rfl rfl rfl
      · refine g_iload_n dX10_lastPart_16 rfl ?_
        refine g_iconstV (v := 4) dX10_lastPart_17 (by decide) ?_
        refine g_icmp_ge 53 dX10_lastPart_18 (by decide) (fun q => absurd q (hi4)) (fun _ => ?_)
        refine g_aload_n dX10_lastPart_21 rfl ?_
        refine mg_getA 0 0 dX10_lastPart_22 fX10_7 rfl rt_0 hS ?_
        refine g_iload_n dX10_lastPart_25 rfl ?_
        refine mg_iald dX10_lastPart_26 (by first | exact rfl | assumption) rfl rfl (by omega) hS ?_
        refine g_iconstV (v := 3) dX10_lastPart_27 (by decide) ?_
        refine g_icmp_eq 53 dX10_lastPart_28 (by decide) (fun q => absurd q (by rw [h3]; decide)) (fun _ => ?_)
        refine g_aload_n dX10_lastPart_31 rfl ?_
        refine mg_getA 0 0 dX10_lastPart_32 fX10_7 rfl rt_0 hS ?_
        refine g_iload_n dX10_lastPart_35 rfl ?_
        refine mg_iald dX10_lastPart_36 (by first | exact rfl | assumption) rfl rfl (by omega) hS ?_
        refine g_if_eq 53 dX10_lastPart_37 (by decide) (fun _ => ?_) (fun q => absurd (h3) q)
        exact K _ rfl rfl rfl
  | m + 1, i, p, hi, h => by
    obtain ⟨hp, h3, h0, p', e', h'⟩ := h
    have hi4 : ¬ (4 : Int32) ≤ nI i := nI_ge (b := 4) (by omega) (by decide)
    refine g_iload_n dX10_lastPart_16 rfl ?_
    refine g_iconstV (v := 4) dX10_lastPart_17 (by decide) ?_
    refine g_icmp_ge 53 dX10_lastPart_18 (by decide) (fun q => absurd q (hi4)) (fun _ => ?_)
    refine g_aload_n dX10_lastPart_21 rfl ?_
    refine mg_getA 0 0 dX10_lastPart_22 fX10_7 rfl rt_0 hS ?_
    refine g_iload_n dX10_lastPart_25 rfl ?_
    refine mg_iald dX10_lastPart_26 (by first | exact rfl | assumption) rfl rfl (by omega) hS ?_
    refine g_iconstV (v := 3) dX10_lastPart_27 (by decide) ?_
    refine g_icmp_eq 53 dX10_lastPart_28 (by decide) (fun q => absurd q (h3)) (fun _ => ?_)
    refine g_aload_n dX10_lastPart_31 rfl ?_
    refine mg_getA 0 0 dX10_lastPart_32 fX10_7 rfl rt_0 hS ?_
    refine g_iload_n dX10_lastPart_35 rfl ?_
    refine mg_iald dX10_lastPart_36 (by first | exact rfl | assumption) rfl rfl (by omega) hS ?_
    refine g_if_eq 53 dX10_lastPart_37 (by decide) (fun q => absurd q (h0)) (fun _ => ?_)
    refine g_aload_n dX10_lastPart_40 rfl ?_
    refine mg_getA 5 5 dX10_lastPart_41 fX10_25 rfl rt_5 hS ?_
    refine g_iload_n dX10_lastPart_44 rfl ?_
    refine mg_iald dX10_lastPart_45 (by first | exact rfl | assumption) rfl rfl (by omega) hS ?_
    rw [e']
    refine g_istore_n (lz := [(2, .int (nI p')), (3, .int (nI i)), (1, .int (nI o)), (0, .ref (eB g + 70))]) dX10_lastPart_46 (by decide) rfl ?_
    refine g_iinc (lz := [(3, .int (nI (i + 1))), (2, .int (nI p')), (1, .int (nI o)), (0, .ref (eB g + 70))]) dX10_lastPart_47 rfl (by decide) (by rw [show nI i + Int32.ofInt 1 = nI (i + 1) from nI_1 i]; rfl) ?_
    refine g_goto 16 dX10_lastPart_50 (by decide) ?_
    exact m_lastPart_loop hS K m (i + 1) p' (by omega) h'
theorem mLP.lt {σ : MW} : ∀ {m p q : Nat}, mLP σ m p q → q < 160 ∧ p < 160 ∧ (mA σ 0 q = 3 ∨ mA σ 0 q = 0)
  | 0, p, q, h => by obtain ⟨rfl, h1, h2⟩ := h; exact ⟨h1, h1, h2⟩
  | m + 1, p, q, h => by
    obtain ⟨h1, -, -, p', -, h2⟩ := h
    exact ⟨(mLP.lt h2).1, h1, (mLP.lt h2).2.2⟩
set_option maxHeartbeats 4000000 in
set_option maxRecDepth 20000 in
theorem m_lastOn {g : GE} {d : Nat} {w : GW} {σ : MW} {Q : Option Value → GW → Prop} (hS : SK g w) {o p q m : Nat} (ho : mI σ 29 = nI (o + 1)) (ho2 : o < 60) (hp : mA σ 22 o = nI p) (hm : m ≤ 4) (hq : mLP σ m p q) (hq3 : mA σ 0 q = 3) (k : Q none (put g (mLastOn σ o q) w)) : gM g d mX10_lastPart [.ref (eB g + 70)] (put g σ w) Q := by
  refine gM.of (by decide) (Nat.le_of_ble_eq_true rfl) ?_
  have eo : mI σ 29 - 1 = nI o := by rw [ho]; exact nI_pred o
  have hq2 := hq.lt.1
  have e1 : nI q + 1 = nI (q + 1) := nI_1 q
  refine g_aload_n dX10_lastPart_0 rfl ?_
  refine mg_getI 29 dX10_lastPart_1 fX10_156 rfl (by decide) hS ?_
  refine g_iconstV (v := 1) dX10_lastPart_4 (by decide) ?_
  refine g_isub dX10_lastPart_5 ?_
  rw [eo]
  refine g_istore_n dX10_lastPart_6 (by decide) rfl ?_
  refine g_aload_n dX10_lastPart_7 rfl ?_
  refine mg_getA 25 22 dX10_lastPart_8 fX10_82 rfl rt_22 hS ?_
  refine g_iload_n dX10_lastPart_11 rfl ?_
  refine mg_iald dX10_lastPart_12 (by first | exact rfl | assumption) rfl rfl (by omega) hS ?_
  rw [hp]
  refine g_istore_n dX10_lastPart_13 (by decide) rfl ?_
  refine g_iconstV (v := 0) dX10_lastPart_14 (by decide) ?_
  refine g_istore_n dX10_lastPart_15 (by decide) rfl ?_
  refine m_lastPart_loop hS ?_ m 0 p (by omega) hq
  intro ls h2 h1 h0
  refine g_aload_n dX10_lastPart_53 h0 ?_
  refine mg_getA 0 0 dX10_lastPart_54 fX10_7 rfl rt_0 hS ?_
  refine g_iload_n dX10_lastPart_57 h2 ?_
  refine mg_iald dX10_lastPart_58 (by first | exact rfl | assumption) rfl rfl (by omega) hS ?_
  refine g_iconstV (v := 3) dX10_lastPart_59 (by decide) ?_
  refine g_icmp_ne 115 dX10_lastPart_60 (by decide) (fun q => absurd (hq3) q) (fun _ => ?_)
  refine g_aload_n dX10_lastPart_63 h0 ?_
  refine mg_getA 24 21 dX10_lastPart_64 fX10_79 rfl rt_21 hS ?_
  refine g_iload_n dX10_lastPart_67 h1 ?_
  refine g_iconstV (v := 5) dX10_lastPart_68 (by decide) ?_
  refine mg_iast dX10_lastPart_69 (by first | exact rfl | assumption) rfl rfl (by omega) hS ?_
  refine g_aload_n dX10_lastPart_70 h0 ?_
  refine mg_getA 28 25 dX10_lastPart_71 fX10_91 rfl rt_25 hS ?_
  refine g_iload_n dX10_lastPart_74 h1 ?_
  refine g_aload_n dX10_lastPart_75 h0 ?_
  refine mg_getI 31 dX10_lastPart_76 fX10_138 rfl (by decide) hS ?_
  refine mg_iast dX10_lastPart_79 (by first | exact rfl | assumption) rfl rfl (by omega) hS ?_
  refine g_aload_n dX10_lastPart_80 h0 ?_
  refine mg_getA 27 24 dX10_lastPart_81 fX10_88 rfl rt_24 hS ?_
  refine g_iload_n dX10_lastPart_84 h1 ?_
  refine g_aload_n dX10_lastPart_85 h0 ?_
  refine mg_getI 32 dX10_lastPart_86 fX10_135 rfl (by decide) hS ?_
  refine mg_iast dX10_lastPart_89 (by first | exact rfl | assumption) rfl rfl (by omega) hS ?_
  refine g_aload_n dX10_lastPart_90 h0 ?_
  refine g_dup dX10_lastPart_91 rfl ?_
  refine mg_getI 36 dX10_lastPart_92 fX10_166 rfl (by decide) hS ?_
  refine g_iconstV (v := 1) dX10_lastPart_95 (by decide) ?_
  refine g_iadd dX10_lastPart_96 ?_
  refine mg_putI 36 dX10_lastPart_97 fX10_166 rfl (by decide) hS ?_
  refine g_aload_n dX10_lastPart_100 h0 ?_
  refine g_iload_n dX10_lastPart_101 h2 ?_
  refine g_iconstV (v := 1) dX10_lastPart_102 (by decide) ?_
  refine g_iadd dX10_lastPart_103 ?_
  refine mg_putI 30 dX10_lastPart_104 fX10_141 rfl (by decide) hS ?_
  refine g_aload_n dX10_lastPart_107 h0 ?_
  refine g_iconstV (v := 0) dX10_lastPart_108 (by decide) ?_
  refine mg_putI 31 dX10_lastPart_109 fX10_138 rfl (by decide) hS ?_
  refine g_goto 156 dX10_lastPart_112 (by decide) ?_
  refine g_vret dX10_lastPart_156 rfl ?_
  exact e1 ▸ k
set_option maxHeartbeats 4000000 in
set_option maxRecDepth 20000 in
theorem m_lastOff {g : GE} {d : Nat} {w : GW} {σ : MW} {Q : Option Value → GW → Prop} (hS : SK g w) {o p q m e : Nat} (ho : mI σ 29 = nI (o + 1)) (ho2 : o < 60) (hp : mA σ 22 o = nI p) (hm : m ≤ 4) (hq : mLP σ m p q) (hq3 : mA σ 0 q = 0) (hw : mI σ 31 = 0) (he : mA σ 4 p = nI e) (k : Q none (put g (mLastOff σ o (nI (e + 1))) w)) : gM g d mX10_lastPart [.ref (eB g + 70)] (put g σ w) Q := by
  refine gM.of (by decide) (Nat.le_of_ble_eq_true rfl) ?_
  have eo : mI σ 29 - 1 = nI o := by rw [ho]; exact nI_pred o
  have hq2 := hq.lt.1
  have hp2 := hq.lt.2.1
  have e1 : mA σ 4 p + 1 = nI (e + 1) := by rw [he]; exact nI_1 e
  refine g_aload_n dX10_lastPart_0 rfl ?_
  refine mg_getI 29 dX10_lastPart_1 fX10_156 rfl (by decide) hS ?_
  refine g_iconstV (v := 1) dX10_lastPart_4 (by decide) ?_
  refine g_isub dX10_lastPart_5 ?_
  rw [eo]
  refine g_istore_n dX10_lastPart_6 (by decide) rfl ?_
  refine g_aload_n dX10_lastPart_7 rfl ?_
  refine mg_getA 25 22 dX10_lastPart_8 fX10_82 rfl rt_22 hS ?_
  refine g_iload_n dX10_lastPart_11 rfl ?_
  refine mg_iald dX10_lastPart_12 (by first | exact rfl | assumption) rfl rfl (by omega) hS ?_
  rw [hp]
  refine g_istore_n dX10_lastPart_13 (by decide) rfl ?_
  refine g_iconstV (v := 0) dX10_lastPart_14 (by decide) ?_
  refine g_istore_n dX10_lastPart_15 (by decide) rfl ?_
  refine m_lastPart_loop hS ?_ m 0 p (by omega) hq
  intro ls h2 h1 h0
  refine g_aload_n dX10_lastPart_53 h0 ?_
  refine mg_getA 0 0 dX10_lastPart_54 fX10_7 rfl rt_0 hS ?_
  refine g_iload_n dX10_lastPart_57 h2 ?_
  refine mg_iald dX10_lastPart_58 (by first | exact rfl | assumption) rfl rfl (by omega) hS ?_
  refine g_iconstV (v := 3) dX10_lastPart_59 (by decide) ?_
  refine g_icmp_ne 115 dX10_lastPart_60 (by decide) (fun _ => ?_) (fun q => absurd q (by rw [hq3]; decide))
  refine g_aload_n dX10_lastPart_115 h0 ?_
  refine g_aload_n dX10_lastPart_116 h0 ?_
  refine mg_getI 31 dX10_lastPart_117 fX10_138 rfl (by decide) hS ?_
  refine g_if_ne 139 dX10_lastPart_120 (by decide) (fun q => absurd (hw) q) (fun _ => ?_)
  refine g_aload_n dX10_lastPart_123 h0 ?_
  refine mg_getA 4 4 dX10_lastPart_124 fX10_22 rfl rt_4 hS ?_
  refine g_aload_n dX10_lastPart_127 h0 ?_
  refine mg_getA 25 22 dX10_lastPart_128 fX10_82 rfl rt_22 hS ?_
  refine g_iload_n dX10_lastPart_131 h1 ?_
  refine mg_iald dX10_lastPart_132 (by first | exact rfl | assumption) rfl rfl (by omega) hS ?_
  refine mg_iald dX10_lastPart_133 hp rfl rfl (by omega) hS ?_
  refine g_iconstV (v := 1) dX10_lastPart_134 (by decide) ?_
  refine g_iadd dX10_lastPart_135 ?_
  rw [e1]
  refine g_goto 143 dX10_lastPart_136 (by decide) ?_
  refine mg_putI 30 dX10_lastPart_143 fX10_141 rfl (by decide) hS ?_
  refine g_aload_n dX10_lastPart_146 h0 ?_
  refine g_dup dX10_lastPart_147 rfl ?_
  refine mg_getI 29 dX10_lastPart_148 fX10_156 rfl (by decide) hS ?_
  refine g_iconstV (v := 1) dX10_lastPart_151 (by decide) ?_
  refine g_isub dX10_lastPart_152 ?_
  rw [show mI (sI σ 30 (nI (e + 1))) 29 - 1 = nI o from eo]
  refine mg_putI 29 dX10_lastPart_153 fX10_156 rfl (by decide) hS ?_
  refine g_vret dX10_lastPart_156 rfl ?_
  exact k
set_option maxHeartbeats 4000000 in
set_option maxRecDepth 20000 in
theorem m_lastWay {g : GE} {d : Nat} {w : GW} {σ : MW} {Q : Option Value → GW → Prop} (hS : SK g w) {o p q m : Nat} (ho : mI σ 29 = nI (o + 1)) (ho2 : o < 60) (hp : mA σ 22 o = nI p) (hm : m ≤ 4) (hq : mLP σ m p q) (hq3 : mA σ 0 q = 0) (hw : ¬ mI σ 31 = 0) (k : Q none (put g (mLastOff σ o (mI σ 30)) w)) : gM g d mX10_lastPart [.ref (eB g + 70)] (put g σ w) Q := by
  refine gM.of (by decide) (Nat.le_of_ble_eq_true rfl) ?_
  have eo : mI σ 29 - 1 = nI o := by rw [ho]; exact nI_pred o
  have hq2 := hq.lt.1
  have hp2 := hq.lt.2.1
  refine g_aload_n dX10_lastPart_0 rfl ?_
  refine mg_getI 29 dX10_lastPart_1 fX10_156 rfl (by decide) hS ?_
  refine g_iconstV (v := 1) dX10_lastPart_4 (by decide) ?_
  refine g_isub dX10_lastPart_5 ?_
  rw [eo]
  refine g_istore_n dX10_lastPart_6 (by decide) rfl ?_
  refine g_aload_n dX10_lastPart_7 rfl ?_
  refine mg_getA 25 22 dX10_lastPart_8 fX10_82 rfl rt_22 hS ?_
  refine g_iload_n dX10_lastPart_11 rfl ?_
  refine mg_iald dX10_lastPart_12 (by first | exact rfl | assumption) rfl rfl (by omega) hS ?_
  rw [hp]
  refine g_istore_n dX10_lastPart_13 (by decide) rfl ?_
  refine g_iconstV (v := 0) dX10_lastPart_14 (by decide) ?_
  refine g_istore_n dX10_lastPart_15 (by decide) rfl ?_
  refine m_lastPart_loop hS ?_ m 0 p (by omega) hq
  intro ls h2 h1 h0
  refine g_aload_n dX10_lastPart_53 h0 ?_
  refine mg_getA 0 0 dX10_lastPart_54 fX10_7 rfl rt_0 hS ?_
  refine g_iload_n dX10_lastPart_57 h2 ?_
  refine mg_iald dX10_lastPart_58 (by first | exact rfl | assumption) rfl rfl (by omega) hS ?_
  refine g_iconstV (v := 3) dX10_lastPart_59 (by decide) ?_
  refine g_icmp_ne 115 dX10_lastPart_60 (by decide) (fun _ => ?_) (fun q => absurd q (by rw [hq3]; decide))
  refine g_aload_n dX10_lastPart_115 h0 ?_
  refine g_aload_n dX10_lastPart_116 h0 ?_
  refine mg_getI 31 dX10_lastPart_117 fX10_138 rfl (by decide) hS ?_
  refine g_if_ne 139 dX10_lastPart_120 (by decide) (fun _ => ?_) (fun q => absurd q (hw))
  refine g_aload_n dX10_lastPart_139 h0 ?_
  refine mg_getI 30 dX10_lastPart_140 fX10_141 rfl (by decide) hS ?_
  refine mg_putI 30 dX10_lastPart_143 fX10_141 rfl (by decide) hS ?_
  refine g_aload_n dX10_lastPart_146 h0 ?_
  refine g_dup dX10_lastPart_147 rfl ?_
  refine mg_getI 29 dX10_lastPart_148 fX10_156 rfl (by decide) hS ?_
  refine g_iconstV (v := 1) dX10_lastPart_151 (by decide) ?_
  refine g_isub dX10_lastPart_152 ?_
  rw [show mI (sI σ 30 (mI σ 30)) 29 - 1 = nI o from eo]
  refine mg_putI 29 dX10_lastPart_153 fX10_156 rfl (by decide) hS ?_
  refine g_vret dX10_lastPart_156 rfl ?_
  exact k
end
section
theorem zz_nothing : True := trivial
end
