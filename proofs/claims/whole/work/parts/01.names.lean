-- ===== PART A: goes FIRST, ahead of the names: the tables' words, and 'selects' of the private methods out of them =====
/-- a private method of a class that the tables say can be made, by its rows of tables_1 -/
def lw_okq (q : MethodName × Nat) : Prop := (q.1.cls ≠ "java/lang/invoke/MethodHandle" ∧ q.1.cls ≠ "java/lang/invoke/VarHandle") ∧ Cond.instantiable q.1.cls q.2 ∈ tables_1 ∧ Cond.privateMethod q.1 ∈ tables_1 ∧ Cond.instanceMethod q.1 ∈ tables_1
theorem lw_p0 : lw_okq (⟨"MarkedRuns$Program", "operandsFit", "(IIII)Z"⟩, 7) := ⟨⟨by decide +kernel, by decide +kernel⟩, List.mem_of_getElem? (i := 28) (by decide +kernel), List.mem_of_getElem? (i := 218) (by decide +kernel), List.mem_of_getElem? (i := 219) (by decide +kernel)⟩
theorem lw_p1 : lw_okq (⟨"MarkedRuns$Program", "heightWith", "(IIII)I"⟩, 7) := ⟨⟨by decide +kernel, by decide +kernel⟩, List.mem_of_getElem? (i := 28) (by decide +kernel), List.mem_of_getElem? (i := 235) (by decide +kernel), List.mem_of_getElem? (i := 236) (by decide +kernel)⟩
theorem lw_p2 : lw_okq (⟨"MarkedRuns$Program", "heightOf", "(I)I"⟩, 7) := ⟨⟨by decide +kernel, by decide +kernel⟩, List.mem_of_getElem? (i := 28) (by decide +kernel), List.mem_of_getElem? (i := 239) (by decide +kernel), List.mem_of_getElem? (i := 240) (by decide +kernel)⟩
theorem lw_p3 : lw_okq (⟨"MarkedRuns$Run", "clear", "(II)V"⟩, 11) := ⟨⟨by decide +kernel, by decide +kernel⟩, List.mem_of_getElem? (i := 60) (by decide +kernel), List.mem_of_getElem? (i := 292) (by decide +kernel), List.mem_of_getElem? (i := 293) (by decide +kernel)⟩
theorem lw_p4 : lw_okq (⟨"MarkedRuns$Run", "enter", "(I)V"⟩, 11) := ⟨⟨by decide +kernel, by decide +kernel⟩, List.mem_of_getElem? (i := 60) (by decide +kernel), List.mem_of_getElem? (i := 324) (by decide +kernel), List.mem_of_getElem? (i := 325) (by decide +kernel)⟩
theorem lw_p5 : lw_okq (⟨"MarkedRuns$Run", "begin", "(I)V"⟩, 11) := ⟨⟨by decide +kernel, by decide +kernel⟩, List.mem_of_getElem? (i := 60) (by decide +kernel), List.mem_of_getElem? (i := 346) (by decide +kernel), List.mem_of_getElem? (i := 347) (by decide +kernel)⟩
theorem lw_p6 : lw_okq (⟨"MarkedRuns$Run", "doPart", "(II)V"⟩, 11) := ⟨⟨by decide +kernel, by decide +kernel⟩, List.mem_of_getElem? (i := 60) (by decide +kernel), List.mem_of_getElem? (i := 366) (by decide +kernel), List.mem_of_getElem? (i := 367) (by decide +kernel)⟩
theorem lw_p7 : lw_okq (⟨"MarkedRuns$Run", "loopOrEnd", "(II)V"⟩, 11) := ⟨⟨by decide +kernel, by decide +kernel⟩, List.mem_of_getElem? (i := 60) (by decide +kernel), List.mem_of_getElem? (i := 378) (by decide +kernel), List.mem_of_getElem? (i := 379) (by decide +kernel)⟩
theorem lw_p8 : lw_okq (⟨"MarkedRuns$Run", "call", "(I)V"⟩, 11) := ⟨⟨by decide +kernel, by decide +kernel⟩, List.mem_of_getElem? (i := 60) (by decide +kernel), List.mem_of_getElem? (i := 386) (by decide +kernel), List.mem_of_getElem? (i := 387) (by decide +kernel)⟩
theorem lw_p9 : lw_okq (⟨"MarkedRuns$Run", "raise", "(II)V"⟩, 11) := ⟨⟨by decide +kernel, by decide +kernel⟩, List.mem_of_getElem? (i := 60) (by decide +kernel), List.mem_of_getElem? (i := 391) (by decide +kernel), List.mem_of_getElem? (i := 392) (by decide +kernel)⟩
theorem lw_p10 : lw_okq (⟨"MarkedRuns$Run", "end", "(I)V"⟩, 11) := ⟨⟨by decide +kernel, by decide +kernel⟩, List.mem_of_getElem? (i := 60) (by decide +kernel), List.mem_of_getElem? (i := 395) (by decide +kernel), List.mem_of_getElem? (i := 396) (by decide +kernel)⟩
theorem lw_p11 : lw_okq (⟨"MarkedRuns$Run", "doAtOnce", "(IIII)V"⟩, 11) := ⟨⟨by decide +kernel, by decide +kernel⟩, List.mem_of_getElem? (i := 60) (by decide +kernel), List.mem_of_getElem? (i := 405) (by decide +kernel), List.mem_of_getElem? (i := 406) (by decide +kernel)⟩
theorem lw_p12 : lw_okq (⟨"MarkedRuns$Run", "calculate", "(IIII)V"⟩, 11) := ⟨⟨by decide +kernel, by decide +kernel⟩, List.mem_of_getElem? (i := 60) (by decide +kernel), List.mem_of_getElem? (i := 409) (by decide +kernel), List.mem_of_getElem? (i := 410) (by decide +kernel)⟩
theorem lw_p13 : lw_okq (⟨"MarkedRuns$Run", "divide", "(IIII)V"⟩, 11) := ⟨⟨by decide +kernel, by decide +kernel⟩, List.mem_of_getElem? (i := 60) (by decide +kernel), List.mem_of_getElem? (i := 413) (by decide +kernel), List.mem_of_getElem? (i := 414) (by decide +kernel)⟩
theorem lw_p14 : lw_okq (⟨"MarkedRuns$Run", "doWithRow", "(IIII)V"⟩, 11) := ⟨⟨by decide +kernel, by decide +kernel⟩, List.mem_of_getElem? (i := 60) (by decide +kernel), List.mem_of_getElem? (i := 417) (by decide +kernel), List.mem_of_getElem? (i := 418) (by decide +kernel)⟩
theorem lw_p15 : lw_okq (⟨"MarkedRuns$Run", "makeRow", "(II)V"⟩, 11) := ⟨⟨by decide +kernel, by decide +kernel⟩, List.mem_of_getElem? (i := 60) (by decide +kernel), List.mem_of_getElem? (i := 421) (by decide +kernel), List.mem_of_getElem? (i := 422) (by decide +kernel)⟩
def lw_privs_1 : List (MethodName × Nat) := [(⟨"MarkedRuns$Program", "operandsFit", "(IIII)Z"⟩, 7), (⟨"MarkedRuns$Program", "heightWith", "(IIII)I"⟩, 7), (⟨"MarkedRuns$Program", "heightOf", "(I)I"⟩, 7), (⟨"MarkedRuns$Run", "clear", "(II)V"⟩, 11), (⟨"MarkedRuns$Run", "enter", "(I)V"⟩, 11), (⟨"MarkedRuns$Run", "begin", "(I)V"⟩, 11), (⟨"MarkedRuns$Run", "doPart", "(II)V"⟩, 11), (⟨"MarkedRuns$Run", "loopOrEnd", "(II)V"⟩, 11), (⟨"MarkedRuns$Run", "call", "(I)V"⟩, 11), (⟨"MarkedRuns$Run", "raise", "(II)V"⟩, 11), (⟨"MarkedRuns$Run", "end", "(I)V"⟩, 11), (⟨"MarkedRuns$Run", "doAtOnce", "(IIII)V"⟩, 11), (⟨"MarkedRuns$Run", "calculate", "(IIII)V"⟩, 11), (⟨"MarkedRuns$Run", "divide", "(IIII)V"⟩, 11), (⟨"MarkedRuns$Run", "doWithRow", "(IIII)V"⟩, 11), (⟨"MarkedRuns$Run", "makeRow", "(II)V"⟩, 11)]
theorem lw_r1 : ∀ q ∈ lw_privs_1, lw_okq q := List.forall_mem_cons.mpr ⟨lw_p0, List.forall_mem_cons.mpr ⟨lw_p1, List.forall_mem_cons.mpr ⟨lw_p2, List.forall_mem_cons.mpr ⟨lw_p3, List.forall_mem_cons.mpr ⟨lw_p4, List.forall_mem_cons.mpr ⟨lw_p5, List.forall_mem_cons.mpr ⟨lw_p6, List.forall_mem_cons.mpr ⟨lw_p7, List.forall_mem_cons.mpr ⟨lw_p8, List.forall_mem_cons.mpr ⟨lw_p9, List.forall_mem_cons.mpr ⟨lw_p10, List.forall_mem_cons.mpr ⟨lw_p11, List.forall_mem_cons.mpr ⟨lw_p12, List.forall_mem_cons.mpr ⟨lw_p13, List.forall_mem_cons.mpr ⟨lw_p14, List.forall_mem_cons.mpr ⟨lw_p15, fun _ h => absurd h List.not_mem_nil⟩⟩⟩⟩⟩⟩⟩⟩⟩⟩⟩⟩⟩⟩⟩⟩
theorem lw_p16 : lw_okq (⟨"MarkedRuns$Run", "reaches", "(II)Z"⟩, 11) := ⟨⟨by decide +kernel, by decide +kernel⟩, List.mem_of_getElem? (i := 60) (by decide +kernel), List.mem_of_getElem? (i := 432) (by decide +kernel), List.mem_of_getElem? (i := 433) (by decide +kernel)⟩
theorem lw_p17 : lw_okq (⟨"MarkedRuns$Run", "measureRow", "(II)V"⟩, 11) := ⟨⟨by decide +kernel, by decide +kernel⟩, List.mem_of_getElem? (i := 60) (by decide +kernel), List.mem_of_getElem? (i := 449) (by decide +kernel), List.mem_of_getElem? (i := 450) (by decide +kernel)⟩
theorem lw_p18 : lw_okq (⟨"MarkedRuns$Run", "goOn", "(I)V"⟩, 11) := ⟨⟨by decide +kernel, by decide +kernel⟩, List.mem_of_getElem? (i := 60) (by decide +kernel), List.mem_of_getElem? (i := 469) (by decide +kernel), List.mem_of_getElem? (i := 470) (by decide +kernel)⟩
theorem lw_p19 : lw_okq (⟨"MarkedRuns$Run", "goOnWithBoth", "(I)V"⟩, 11) := ⟨⟨by decide +kernel, by decide +kernel⟩, List.mem_of_getElem? (i := 60) (by decide +kernel), List.mem_of_getElem? (i := 473) (by decide +kernel), List.mem_of_getElem? (i := 474) (by decide +kernel)⟩
theorem lw_p20 : lw_okq (⟨"MarkedRuns$Run", "goOnWithLoop", "(I)V"⟩, 11) := ⟨⟨by decide +kernel, by decide +kernel⟩, List.mem_of_getElem? (i := 60) (by decide +kernel), List.mem_of_getElem? (i := 477) (by decide +kernel), List.mem_of_getElem? (i := 478) (by decide +kernel)⟩
theorem lw_p21 : lw_okq (⟨"MarkedRuns$Run", "goOnWithTry", "(I)V"⟩, 11) := ⟨⟨by decide +kernel, by decide +kernel⟩, List.mem_of_getElem? (i := 60) (by decide +kernel), List.mem_of_getElem? (i := 481) (by decide +kernel), List.mem_of_getElem? (i := 482) (by decide +kernel)⟩
theorem lw_p22 : lw_okq (⟨"MarkedRuns$Run", "beginLastPart", "(I)V"⟩, 11) := ⟨⟨by decide +kernel, by decide +kernel⟩, List.mem_of_getElem? (i := 60) (by decide +kernel), List.mem_of_getElem? (i := 489) (by decide +kernel), List.mem_of_getElem? (i := 490) (by decide +kernel)⟩
theorem lw_p23 : lw_okq (⟨"MarkedRuns$Run", "payForLastPart", "()I"⟩, 11) := ⟨⟨by decide +kernel, by decide +kernel⟩, List.mem_of_getElem? (i := 60) (by decide +kernel), List.mem_of_getElem? (i := 493) (by decide +kernel), List.mem_of_getElem? (i := 494) (by decide +kernel)⟩
theorem lw_p24 : lw_okq (⟨"MarkedRuns$Run", "endLastPart", "()V"⟩, 11) := ⟨⟨by decide +kernel, by decide +kernel⟩, List.mem_of_getElem? (i := 60) (by decide +kernel), List.mem_of_getElem? (i := 509) (by decide +kernel), List.mem_of_getElem? (i := 510) (by decide +kernel)⟩
theorem lw_p25 : lw_okq (⟨"MarkedRuns", "counted", "(I)I"⟩, 4) := ⟨⟨by decide +kernel, by decide +kernel⟩, List.mem_of_getElem? (i := 20) (by decide +kernel), List.mem_of_getElem? (i := 529) (by decide +kernel), List.mem_of_getElem? (i := 530) (by decide +kernel)⟩
theorem lw_p26 : lw_okq (⟨"MarkedRuns$Memory", "rowEqualTo", "(LMarkedRuns$Memory;I)Z"⟩, 6) := ⟨⟨by decide +kernel, by decide +kernel⟩, List.mem_of_getElem? (i := 66) (by decide +kernel), List.mem_of_getElem? (i := 596) (by decide +kernel), List.mem_of_getElem? (i := 597) (by decide +kernel)⟩
theorem lw_p27 : lw_okq (⟨"java/lang/NullPointerException", "getExtendedNPEMessage", "()Ljava/lang/String;"⟩, 8) := ⟨⟨by decide +kernel, by decide +kernel⟩, List.mem_of_getElem? (i := 617) (by decide +kernel), List.mem_of_getElem? (i := 642) (by decide +kernel), List.mem_of_getElem? (i := 643) (by decide +kernel)⟩
theorem lw_p28 : lw_okq (⟨"java/lang/Throwable", "fillInStackTrace", "(I)Ljava/lang/Throwable;"⟩, 6) := ⟨⟨by decide +kernel, by decide +kernel⟩, List.mem_of_getElem? (i := 652) (by decide +kernel), List.mem_of_getElem? (i := 650) (by decide +kernel), List.mem_of_getElem? (i := 651) (by decide +kernel)⟩
theorem lw_p29 : lw_okq (⟨"MarkedRunsModel", "isRight", "(IIII)Z"⟩, 41) := ⟨⟨by decide +kernel, by decide +kernel⟩, List.mem_of_getElem? (i := 747) (by decide +kernel), List.mem_of_getElem? (i := 881) (by decide +kernel), List.mem_of_getElem? (i := 882) (by decide +kernel)⟩
theorem lw_p30 : lw_okq (⟨"MarkedRunsModel", "isStatement", "(I)Z"⟩, 41) := ⟨⟨by decide +kernel, by decide +kernel⟩, List.mem_of_getElem? (i := 747) (by decide +kernel), List.mem_of_getElem? (i := 888) (by decide +kernel), List.mem_of_getElem? (i := 889) (by decide +kernel)⟩
theorem lw_p31 : lw_okq (⟨"MarkedRunsModel", "heightOf", "(IIII)I"⟩, 41) := ⟨⟨by decide +kernel, by decide +kernel⟩, List.mem_of_getElem? (i := 747) (by decide +kernel), List.mem_of_getElem? (i := 892) (by decide +kernel), List.mem_of_getElem? (i := 893) (by decide +kernel)⟩
def lw_privs_2 : List (MethodName × Nat) := [(⟨"MarkedRuns$Run", "reaches", "(II)Z"⟩, 11), (⟨"MarkedRuns$Run", "measureRow", "(II)V"⟩, 11), (⟨"MarkedRuns$Run", "goOn", "(I)V"⟩, 11), (⟨"MarkedRuns$Run", "goOnWithBoth", "(I)V"⟩, 11), (⟨"MarkedRuns$Run", "goOnWithLoop", "(I)V"⟩, 11), (⟨"MarkedRuns$Run", "goOnWithTry", "(I)V"⟩, 11), (⟨"MarkedRuns$Run", "beginLastPart", "(I)V"⟩, 11), (⟨"MarkedRuns$Run", "payForLastPart", "()I"⟩, 11), (⟨"MarkedRuns$Run", "endLastPart", "()V"⟩, 11), (⟨"MarkedRuns", "counted", "(I)I"⟩, 4), (⟨"MarkedRuns$Memory", "rowEqualTo", "(LMarkedRuns$Memory;I)Z"⟩, 6), (⟨"java/lang/NullPointerException", "getExtendedNPEMessage", "()Ljava/lang/String;"⟩, 8), (⟨"java/lang/Throwable", "fillInStackTrace", "(I)Ljava/lang/Throwable;"⟩, 6), (⟨"MarkedRunsModel", "isRight", "(IIII)Z"⟩, 41), (⟨"MarkedRunsModel", "isStatement", "(I)Z"⟩, 41), (⟨"MarkedRunsModel", "heightOf", "(IIII)I"⟩, 41)]
theorem lw_r2 : ∀ q ∈ lw_privs_2, lw_okq q := List.forall_mem_cons.mpr ⟨lw_p16, List.forall_mem_cons.mpr ⟨lw_p17, List.forall_mem_cons.mpr ⟨lw_p18, List.forall_mem_cons.mpr ⟨lw_p19, List.forall_mem_cons.mpr ⟨lw_p20, List.forall_mem_cons.mpr ⟨lw_p21, List.forall_mem_cons.mpr ⟨lw_p22, List.forall_mem_cons.mpr ⟨lw_p23, List.forall_mem_cons.mpr ⟨lw_p24, List.forall_mem_cons.mpr ⟨lw_p25, List.forall_mem_cons.mpr ⟨lw_p26, List.forall_mem_cons.mpr ⟨lw_p27, List.forall_mem_cons.mpr ⟨lw_p28, List.forall_mem_cons.mpr ⟨lw_p29, List.forall_mem_cons.mpr ⟨lw_p30, List.forall_mem_cons.mpr ⟨lw_p31, fun _ h => absurd h List.not_mem_nil⟩⟩⟩⟩⟩⟩⟩⟩⟩⟩⟩⟩⟩⟩⟩⟩
theorem lw_p32 : lw_okq (⟨"MarkedRunsModel", "highest", "(II)I"⟩, 41) := ⟨⟨by decide +kernel, by decide +kernel⟩, List.mem_of_getElem? (i := 747) (by decide +kernel), List.mem_of_getElem? (i := 896) (by decide +kernel), List.mem_of_getElem? (i := 897) (by decide +kernel)⟩
theorem lw_p33 : lw_okq (⟨"MarkedRunsModel", "isRun", "(II)Z"⟩, 41) := ⟨⟨by decide +kernel, by decide +kernel⟩, List.mem_of_getElem? (i := 747) (by decide +kernel), List.mem_of_getElem? (i := 912) (by decide +kernel), List.mem_of_getElem? (i := 913) (by decide +kernel)⟩
theorem lw_p34 : lw_okq (⟨"MarkedRunsModel", "runs", "(III)I"⟩, 41) := ⟨⟨by decide +kernel, by decide +kernel⟩, List.mem_of_getElem? (i := 747) (by decide +kernel), List.mem_of_getElem? (i := 916) (by decide +kernel), List.mem_of_getElem? (i := 917) (by decide +kernel)⟩
theorem lw_p35 : lw_okq (⟨"MarkedRunsModel", "reset", "(II)V"⟩, 41) := ⟨⟨by decide +kernel, by decide +kernel⟩, List.mem_of_getElem? (i := 747) (by decide +kernel), List.mem_of_getElem? (i := 920) (by decide +kernel), List.mem_of_getElem? (i := 921) (by decide +kernel)⟩
theorem lw_p36 : lw_okq (⟨"MarkedRunsModel", "pays", "(II)Z"⟩, 41) := ⟨⟨by decide +kernel, by decide +kernel⟩, List.mem_of_getElem? (i := 747) (by decide +kernel), List.mem_of_getElem? (i := 924) (by decide +kernel), List.mem_of_getElem? (i := 925) (by decide +kernel)⟩
theorem lw_p37 : lw_okq (⟨"MarkedRunsModel", "endReserve", "()V"⟩, 41) := ⟨⟨by decide +kernel, by decide +kernel⟩, List.mem_of_getElem? (i := 747) (by decide +kernel), List.mem_of_getElem? (i := 928) (by decide +kernel), List.mem_of_getElem? (i := 929) (by decide +kernel)⟩
theorem lw_p38 : lw_okq (⟨"MarkedRunsModel", "leave", "(I)V"⟩, 41) := ⟨⟨by decide +kernel, by decide +kernel⟩, List.mem_of_getElem? (i := 747) (by decide +kernel), List.mem_of_getElem? (i := 932) (by decide +kernel), List.mem_of_getElem? (i := 933) (by decide +kernel)⟩
theorem lw_p39 : lw_okq (⟨"MarkedRunsModel", "push", "(I)V"⟩, 41) := ⟨⟨by decide +kernel, by decide +kernel⟩, List.mem_of_getElem? (i := 747) (by decide +kernel), List.mem_of_getElem? (i := 936) (by decide +kernel), List.mem_of_getElem? (i := 937) (by decide +kernel)⟩
theorem lw_p40 : lw_okq (⟨"MarkedRunsModel", "begin", "()V"⟩, 41) := ⟨⟨by decide +kernel, by decide +kernel⟩, List.mem_of_getElem? (i := 747) (by decide +kernel), List.mem_of_getElem? (i := 940) (by decide +kernel), List.mem_of_getElem? (i := 941) (by decide +kernel)⟩
theorem lw_p41 : lw_okq (⟨"MarkedRunsModel", "comes", "(I)V"⟩, 41) := ⟨⟨by decide +kernel, by decide +kernel⟩, List.mem_of_getElem? (i := 747) (by decide +kernel), List.mem_of_getElem? (i := 944) (by decide +kernel), List.mem_of_getElem? (i := 945) (by decide +kernel)⟩
theorem lw_p42 : lw_okq (⟨"MarkedRunsModel", "calls", "(I)V"⟩, 41) := ⟨⟨by decide +kernel, by decide +kernel⟩, List.mem_of_getElem? (i := 747) (by decide +kernel), List.mem_of_getElem? (i := 948) (by decide +kernel), List.mem_of_getElem? (i := 949) (by decide +kernel)⟩
theorem lw_p43 : lw_okq (⟨"MarkedRunsModel", "throwing", "(II)V"⟩, 41) := ⟨⟨by decide +kernel, by decide +kernel⟩, List.mem_of_getElem? (i := 747) (by decide +kernel), List.mem_of_getElem? (i := 952) (by decide +kernel), List.mem_of_getElem? (i := 953) (by decide +kernel)⟩
theorem lw_p44 : lw_okq (⟨"MarkedRunsModel", "enter", "(I)V"⟩, 41) := ⟨⟨by decide +kernel, by decide +kernel⟩, List.mem_of_getElem? (i := 747) (by decide +kernel), List.mem_of_getElem? (i := 956) (by decide +kernel), List.mem_of_getElem? (i := 957) (by decide +kernel)⟩
theorem lw_p45 : lw_okq (⟨"MarkedRunsModel", "locks", "(I)V"⟩, 41) := ⟨⟨by decide +kernel, by decide +kernel⟩, List.mem_of_getElem? (i := 747) (by decide +kernel), List.mem_of_getElem? (i := 960) (by decide +kernel), List.mem_of_getElem? (i := 961) (by decide +kernel)⟩
theorem lw_p46 : lw_okq (⟨"MarkedRunsModel", "simple", "(I)V"⟩, 41) := ⟨⟨by decide +kernel, by decide +kernel⟩, List.mem_of_getElem? (i := 747) (by decide +kernel), List.mem_of_getElem? (i := 964) (by decide +kernel), List.mem_of_getElem? (i := 965) (by decide +kernel)⟩
theorem lw_p47 : lw_okq (⟨"MarkedRunsModel", "making", "(I)V"⟩, 41) := ⟨⟨by decide +kernel, by decide +kernel⟩, List.mem_of_getElem? (i := 747) (by decide +kernel), List.mem_of_getElem? (i := 968) (by decide +kernel), List.mem_of_getElem? (i := 969) (by decide +kernel)⟩
def lw_privs_3 : List (MethodName × Nat) := [(⟨"MarkedRunsModel", "highest", "(II)I"⟩, 41), (⟨"MarkedRunsModel", "isRun", "(II)Z"⟩, 41), (⟨"MarkedRunsModel", "runs", "(III)I"⟩, 41), (⟨"MarkedRunsModel", "reset", "(II)V"⟩, 41), (⟨"MarkedRunsModel", "pays", "(II)Z"⟩, 41), (⟨"MarkedRunsModel", "endReserve", "()V"⟩, 41), (⟨"MarkedRunsModel", "leave", "(I)V"⟩, 41), (⟨"MarkedRunsModel", "push", "(I)V"⟩, 41), (⟨"MarkedRunsModel", "begin", "()V"⟩, 41), (⟨"MarkedRunsModel", "comes", "(I)V"⟩, 41), (⟨"MarkedRunsModel", "calls", "(I)V"⟩, 41), (⟨"MarkedRunsModel", "throwing", "(II)V"⟩, 41), (⟨"MarkedRunsModel", "enter", "(I)V"⟩, 41), (⟨"MarkedRunsModel", "locks", "(I)V"⟩, 41), (⟨"MarkedRunsModel", "simple", "(I)V"⟩, 41), (⟨"MarkedRunsModel", "making", "(I)V"⟩, 41)]
theorem lw_r3 : ∀ q ∈ lw_privs_3, lw_okq q := List.forall_mem_cons.mpr ⟨lw_p32, List.forall_mem_cons.mpr ⟨lw_p33, List.forall_mem_cons.mpr ⟨lw_p34, List.forall_mem_cons.mpr ⟨lw_p35, List.forall_mem_cons.mpr ⟨lw_p36, List.forall_mem_cons.mpr ⟨lw_p37, List.forall_mem_cons.mpr ⟨lw_p38, List.forall_mem_cons.mpr ⟨lw_p39, List.forall_mem_cons.mpr ⟨lw_p40, List.forall_mem_cons.mpr ⟨lw_p41, List.forall_mem_cons.mpr ⟨lw_p42, List.forall_mem_cons.mpr ⟨lw_p43, List.forall_mem_cons.mpr ⟨lw_p44, List.forall_mem_cons.mpr ⟨lw_p45, List.forall_mem_cons.mpr ⟨lw_p46, List.forall_mem_cons.mpr ⟨lw_p47, fun _ h => absurd h List.not_mem_nil⟩⟩⟩⟩⟩⟩⟩⟩⟩⟩⟩⟩⟩⟩⟩⟩
theorem lw_p48 : lw_okq (⟨"MarkedRunsModel", "has", "(II)Z"⟩, 41) := ⟨⟨by decide +kernel, by decide +kernel⟩, List.mem_of_getElem? (i := 747) (by decide +kernel), List.mem_of_getElem? (i := 972) (by decide +kernel), List.mem_of_getElem? (i := 973) (by decide +kernel)⟩
theorem lw_p49 : lw_okq (⟨"MarkedRunsModel", "reckon", "(I)V"⟩, 41) := ⟨⟨by decide +kernel, by decide +kernel⟩, List.mem_of_getElem? (i := 747) (by decide +kernel), List.mem_of_getElem? (i := 976) (by decide +kernel), List.mem_of_getElem? (i := 977) (by decide +kernel)⟩
theorem lw_p50 : lw_okq (⟨"MarkedRunsModel", "tell", "()V"⟩, 41) := ⟨⟨by decide +kernel, by decide +kernel⟩, List.mem_of_getElem? (i := 747) (by decide +kernel), List.mem_of_getElem? (i := 980) (by decide +kernel), List.mem_of_getElem? (i := 981) (by decide +kernel)⟩
theorem lw_p51 : lw_okq (⟨"MarkedRunsModel", "second", "(I)V"⟩, 41) := ⟨⟨by decide +kernel, by decide +kernel⟩, List.mem_of_getElem? (i := 747) (by decide +kernel), List.mem_of_getElem? (i := 984) (by decide +kernel), List.mem_of_getElem? (i := 985) (by decide +kernel)⟩
theorem lw_p52 : lw_okq (⟨"MarkedRunsModel", "handles", "(I)V"⟩, 41) := ⟨⟨by decide +kernel, by decide +kernel⟩, List.mem_of_getElem? (i := 747) (by decide +kernel), List.mem_of_getElem? (i := 988) (by decide +kernel), List.mem_of_getElem? (i := 989) (by decide +kernel)⟩
theorem lw_p53 : lw_okq (⟨"MarkedRunsModel", "note", "(I)V"⟩, 41) := ⟨⟨by decide +kernel, by decide +kernel⟩, List.mem_of_getElem? (i := 747) (by decide +kernel), List.mem_of_getElem? (i := 992) (by decide +kernel), List.mem_of_getElem? (i := 993) (by decide +kernel)⟩
theorem lw_p54 : lw_okq (⟨"MarkedRunsModel", "finalOf", "(I)V"⟩, 41) := ⟨⟨by decide +kernel, by decide +kernel⟩, List.mem_of_getElem? (i := 747) (by decide +kernel), List.mem_of_getElem? (i := 996) (by decide +kernel), List.mem_of_getElem? (i := 997) (by decide +kernel)⟩
theorem lw_p55 : lw_okq (⟨"MarkedRunsModel", "lastDone", "()V"⟩, 41) := ⟨⟨by decide +kernel, by decide +kernel⟩, List.mem_of_getElem? (i := 747) (by decide +kernel), List.mem_of_getElem? (i := 1000) (by decide +kernel), List.mem_of_getElem? (i := 1001) (by decide +kernel)⟩
theorem lw_p56 : lw_okq (⟨"MarkedRunsModel", "fail", "(I)I"⟩, 41) := ⟨⟨by decide +kernel, by decide +kernel⟩, List.mem_of_getElem? (i := 747) (by decide +kernel), List.mem_of_getElem? (i := 1028) (by decide +kernel), List.mem_of_getElem? (i := 1029) (by decide +kernel)⟩
def lw_privs_4 : List (MethodName × Nat) := [(⟨"MarkedRunsModel", "has", "(II)Z"⟩, 41), (⟨"MarkedRunsModel", "reckon", "(I)V"⟩, 41), (⟨"MarkedRunsModel", "tell", "()V"⟩, 41), (⟨"MarkedRunsModel", "second", "(I)V"⟩, 41), (⟨"MarkedRunsModel", "handles", "(I)V"⟩, 41), (⟨"MarkedRunsModel", "note", "(I)V"⟩, 41), (⟨"MarkedRunsModel", "finalOf", "(I)V"⟩, 41), (⟨"MarkedRunsModel", "lastDone", "()V"⟩, 41), (⟨"MarkedRunsModel", "fail", "(I)I"⟩, 41)]
theorem lw_r4 : ∀ q ∈ lw_privs_4, lw_okq q := List.forall_mem_cons.mpr ⟨lw_p48, List.forall_mem_cons.mpr ⟨lw_p49, List.forall_mem_cons.mpr ⟨lw_p50, List.forall_mem_cons.mpr ⟨lw_p51, List.forall_mem_cons.mpr ⟨lw_p52, List.forall_mem_cons.mpr ⟨lw_p53, List.forall_mem_cons.mpr ⟨lw_p54, List.forall_mem_cons.mpr ⟨lw_p55, List.forall_mem_cons.mpr ⟨lw_p56, fun _ h => absurd h List.not_mem_nil⟩⟩⟩⟩⟩⟩⟩⟩⟩
def lw_privs : List (MethodName × Nat) := lw_privs_1 ++ (lw_privs_2 ++ (lw_privs_3 ++ (lw_privs_4)))
def lw_tbl : List Cond := k2_sels lw_privs ++ tables_1
theorem lw_privs_ok : ∀ q ∈ lw_privs, lw_okq q := by
  show ∀ q ∈ lw_privs_1 ++ (lw_privs_2 ++ (lw_privs_3 ++ (lw_privs_4))), lw_okq q
  exact List.forall_mem_append.mpr ⟨lw_r1, List.forall_mem_append.mpr ⟨lw_r2, List.forall_mem_append.mpr ⟨lw_r3, lw_r4⟩⟩⟩
-- ===== end of PART A; then your names; then what follows =====
def RX0 : String := "MarkedRuns$Frames"
def TX0 : u_T := fun k => match k with
  | 0 => ("MarkedRuns$Frames", "statements", "[I", true)
  | 1 => ("MarkedRuns$Frames", "stages", "[I", true)
  | 2 => ("MarkedRuns$Frames", "keptEndings", "[I", true)
  | 3 => ("MarkedRuns$Frames", "keptKinds", "[I", true)
  | 4 => ("MarkedRuns$Frames", "keptNumbers", "[I", true)
  | _ => ("MarkedRuns$Frames", "depth", "I", false)
def tyX0 : Nat → FieldType := fun k => match k with
  | 0 => .array .int
  | 1 => .array .int
  | 2 => .array .int
  | 3 => .array .int
  | 4 => .array .int
  | _ => .int
abbrev wsX00 : List Cond := u_ws RX0 TX0 6
theorem nmX0 : ∀ a, a < 6 → ∀ b, b < 6 → a ≠ b → (TX0 a).2.1 ≠ (TX0 b).2.1 := by decide +kernel
theorem tyX0_ok : ∀ k, k < 6 → parseFieldDescriptor (TX0 k).2.2.1 = some (tyX0 k) := by decide +kernel
abbrev cX0_init : ByteArray := prog_2_method_1_code
def yX0_init : MethodName := ⟨RX0, "<init>", "()V"⟩
abbrev cX0_clear : ByteArray := prog_2_method_2_code
def yX0_clear : MethodName := ⟨RX0, "clear", "()V"⟩
abbrev cX0_isEmpty : ByteArray := prog_2_method_3_code
def yX0_isEmpty : MethodName := ⟨RX0, "isEmpty", "()Z"⟩
abbrev cX0_open : ByteArray := prog_2_method_4_code
def yX0_open : MethodName := ⟨RX0, "open", "(I)V"⟩
abbrev cX0_close : ByteArray := prog_2_method_5_code
def yX0_close : MethodName := ⟨RX0, "close", "()V"⟩
abbrev cX0_statement : ByteArray := prog_2_method_6_code
def yX0_statement : MethodName := ⟨RX0, "statement", "()I"⟩
abbrev cX0_stage : ByteArray := prog_2_method_7_code
def yX0_stage : MethodName := ⟨RX0, "stage", "()I"⟩
abbrev cX0_setStage : ByteArray := prog_2_method_8_code
def yX0_setStage : MethodName := ⟨RX0, "setStage", "(I)V"⟩
abbrev cX0_keep : ByteArray := prog_2_method_9_code
def yX0_keep : MethodName := ⟨RX0, "keep", "(III)V"⟩
abbrev cX0_keptEnding : ByteArray := prog_2_method_10_code
def yX0_keptEnding : MethodName := ⟨RX0, "keptEnding", "()I"⟩
abbrev cX0_keptKind : ByteArray := prog_2_method_11_code
def yX0_keptKind : MethodName := ⟨RX0, "keptKind", "()I"⟩
abbrev cX0_keptNumber : ByteArray := prog_2_method_12_code
def yX0_keptNumber : MethodName := ⟨RX0, "keptNumber", "()I"⟩
def RX1 : String := "MarkedRuns$Kind"
def TX1 : u_T := fun k => match k with
  | _ => ("", "", "", false)
def tyX1 : Nat → FieldType := fun k => match k with
  | _ => .int
abbrev wsX10 : List Cond := u_ws RX1 TX1 0
theorem nmX1 : ∀ a, a < 0 → ∀ b, b < 0 → a ≠ b → (TX1 a).2.1 ≠ (TX1 b).2.1 := by decide +kernel
theorem tyX1_ok : ∀ k, k < 0 → parseFieldDescriptor (TX1 k).2.2.1 = some (tyX1 k) := by decide +kernel
def RX2 : String := "MarkedRuns$Locks"
def TX2 : u_T := fun k => match k with
  | 0 => ("MarkedRuns$Locks", "held", "[I", true)
  | _ => ("MarkedRuns$Locks", "most", "I", false)
def tyX2 : Nat → FieldType := fun k => match k with
  | 0 => .array .int
  | _ => .int
abbrev wsX20 : List Cond := u_ws RX2 TX2 2
theorem nmX2 : ∀ a, a < 2 → ∀ b, b < 2 → a ≠ b → (TX2 a).2.1 ≠ (TX2 b).2.1 := by decide +kernel
theorem tyX2_ok : ∀ k, k < 2 → parseFieldDescriptor (TX2 k).2.2.1 = some (tyX2 k) := by decide +kernel
abbrev cX2_init : ByteArray := prog_4_method_1_code
def yX2_init : MethodName := ⟨RX2, "<init>", "()V"⟩
abbrev cX2_clear : ByteArray := prog_4_method_2_code
def yX2_clear : MethodName := ⟨RX2, "clear", "()V"⟩
abbrev cX2_take : ByteArray := prog_4_method_3_code
def yX2_take : MethodName := ⟨RX2, "take", "(I)V"⟩
abbrev cX2_free : ByteArray := prog_4_method_4_code
def yX2_free : MethodName := ⟨RX2, "free", "(I)V"⟩
abbrev cX2_most : ByteArray := prog_4_method_5_code
def yX2_most : MethodName := ⟨RX2, "most", "()I"⟩
abbrev cX2_sum : ByteArray := prog_4_method_6_code
def yX2_sum : MethodName := ⟨RX2, "sum", "()I"⟩
def RX3 : String := "MarkedRuns$Mark"
def TX3 : u_T := fun k => match k with
  | _ => ("", "", "", false)
def tyX3 : Nat → FieldType := fun k => match k with
  | _ => .int
abbrev wsX30 : List Cond := u_ws RX3 TX3 0
theorem nmX3 : ∀ a, a < 0 → ∀ b, b < 0 → a ≠ b → (TX3 a).2.1 ≠ (TX3 b).2.1 := by decide +kernel
theorem tyX3_ok : ∀ k, k < 0 → parseFieldDescriptor (TX3 k).2.2.1 = some (tyX3 k) := by decide +kernel
abbrev cX3_makingPrice : ByteArray := prog_5_method_2_code
def yX3_makingPrice : MethodName := ⟨RX3, "makingPrice", "(I)I"⟩
def RX4 : String := "MarkedRuns$Memory"
def TX4 : u_T := fun k => match k with
  | 0 => ("MarkedRuns$Memory", "variables", "[I", true)
  | 1 => ("MarkedRuns$Memory", "starts", "[I", true)
  | 2 => ("MarkedRuns$Memory", "lengths", "[I", true)
  | 3 => ("MarkedRuns$Memory", "cells", "[I", true)
  | 4 => ("MarkedRuns$Memory", "used", "I", false)
  | _ => ("MarkedRuns$Memory", "result", "I", false)
def tyX4 : Nat → FieldType := fun k => match k with
  | 0 => .array .int
  | 1 => .array .int
  | 2 => .array .int
  | 3 => .array .int
  | 4 => .int
  | _ => .int
abbrev wsX40 : List Cond := u_ws RX4 TX4 6
theorem nmX4 : ∀ a, a < 6 → ∀ b, b < 6 → a ≠ b → (TX4 a).2.1 ≠ (TX4 b).2.1 := by decide +kernel
theorem tyX4_ok : ∀ k, k < 6 → parseFieldDescriptor (TX4 k).2.2.1 = some (tyX4 k) := by decide +kernel
abbrev cX4_init : ByteArray := prog_6_method_1_code
def yX4_init : MethodName := ⟨RX4, "<init>", "()V"⟩
abbrev cX4_clear : ByteArray := prog_6_method_2_code
def yX4_clear : MethodName := ⟨RX4, "clear", "()V"⟩
abbrev cX4_read : ByteArray := prog_6_method_3_code
def yX4_read : MethodName := ⟨RX4, "read", "(I)I"⟩
abbrev cX4_write : ByteArray := prog_6_method_4_code
def yX4_write : MethodName := ⟨RX4, "write", "(II)V"⟩
abbrev cX4_result : ByteArray := prog_6_method_5_code
def yX4_result : MethodName := ⟨RX4, "result", "()I"⟩
abbrev cX4_setResult : ByteArray := prog_6_method_6_code
def yX4_setResult : MethodName := ⟨RX4, "setResult", "(I)V"⟩
abbrev cX4_lengthOf : ByteArray := prog_6_method_7_code
def yX4_lengthOf : MethodName := ⟨RX4, "lengthOf", "(I)I"⟩
abbrev cX4_makeRow : ByteArray := prog_6_method_8_code
def yX4_makeRow : MethodName := ⟨RX4, "makeRow", "(II)V"⟩
abbrev cX4_forgetRow : ByteArray := prog_6_method_9_code
def yX4_forgetRow : MethodName := ⟨RX4, "forgetRow", "(I)V"⟩
abbrev cX4_shareRow : ByteArray := prog_6_method_10_code
def yX4_shareRow : MethodName := ⟨RX4, "shareRow", "(II)V"⟩
abbrev cX4_load : ByteArray := prog_6_method_11_code
def yX4_load : MethodName := ⟨RX4, "load", "(II)I"⟩
abbrev cX4_store : ByteArray := prog_6_method_12_code
def yX4_store : MethodName := ⟨RX4, "store", "(III)V"⟩
abbrev cX4_equalTo : ByteArray := prog_6_method_13_code
def yX4_equalTo : MethodName := ⟨RX4, "equalTo", "(LMarkedRuns$Memory;)Z"⟩
abbrev cX4_rowEqualTo : ByteArray := prog_6_method_14_code
def yX4_rowEqualTo : MethodName := ⟨RX4, "rowEqualTo", "(LMarkedRuns$Memory;I)Z"⟩
def RX5 : String := "MarkedRuns$Program"
def TX5 : u_T := fun k => match k with
  | 0 => ("MarkedRuns$Program", "sorts", "[I", true)
  | 1 => ("MarkedRuns$Program", "firsts", "[I", true)
  | 2 => ("MarkedRuns$Program", "seconds", "[I", true)
  | 3 => ("MarkedRuns$Program", "thirds", "[I", true)
  | 4 => ("MarkedRuns$Program", "heights", "[I", true)
  | 5 => ("MarkedRuns$Program", "bodyByMethod", "[I", true)
  | _ => ("MarkedRuns$Program", "many", "I", false)
def tyX5 : Nat → FieldType := fun k => match k with
  | 0 => .array .int
  | 1 => .array .int
  | 2 => .array .int
  | 3 => .array .int
  | 4 => .array .int
  | 5 => .array .int
  | _ => .int
abbrev wsX50 : List Cond := u_ws RX5 TX5 7
theorem nmX5 : ∀ a, a < 7 → ∀ b, b < 7 → a ≠ b → (TX5 a).2.1 ≠ (TX5 b).2.1 := by decide +kernel
theorem tyX5_ok : ∀ k, k < 7 → parseFieldDescriptor (TX5 k).2.2.1 = some (tyX5 k) := by decide +kernel
abbrev cX5_init : ByteArray := prog_7_method_1_code
def yX5_init : MethodName := ⟨RX5, "<init>", "()V"⟩
abbrev cX5_statements : ByteArray := prog_7_method_2_code
def yX5_statements : MethodName := ⟨RX5, "statements", "()I"⟩
abbrev cX5_bodies : ByteArray := prog_7_method_3_code
def yX5_bodies : MethodName := ⟨RX5, "bodies", "()I"⟩
abbrev cX5_isFull : ByteArray := prog_7_method_4_code
def yX5_isFull : MethodName := ⟨RX5, "isFull", "()Z"⟩
abbrev cX5_has : ByteArray := prog_7_method_5_code
def yX5_has : MethodName := ⟨RX5, "has", "(I)Z"⟩
abbrev cX5_sortOf : ByteArray := prog_7_method_6_code
def yX5_sortOf : MethodName := ⟨RX5, "sortOf", "(I)I"⟩
abbrev cX5_firstOf : ByteArray := prog_7_method_7_code
def yX5_firstOf : MethodName := ⟨RX5, "firstOf", "(I)I"⟩
abbrev cX5_secondOf : ByteArray := prog_7_method_8_code
def yX5_secondOf : MethodName := ⟨RX5, "secondOf", "(I)I"⟩
abbrev cX5_thirdOf : ByteArray := prog_7_method_9_code
def yX5_thirdOf : MethodName := ⟨RX5, "thirdOf", "(I)I"⟩
abbrev cX5_bodyOf : ByteArray := prog_7_method_10_code
def yX5_bodyOf : MethodName := ⟨RX5, "bodyOf", "(I)I"⟩
abbrev cX5_setBody : ByteArray := prog_7_method_11_code
def yX5_setBody : MethodName := ⟨RX5, "setBody", "(II)V"⟩
abbrev cX5_takes : ByteArray := prog_7_method_12_code
def yX5_takes : MethodName := ⟨RX5, "takes", "(IIII)Z"⟩
abbrev cX5_add : ByteArray := prog_7_method_13_code
def yX5_add : MethodName := ⟨RX5, "add", "(IIII)I"⟩
abbrev cX5_canLoseLast : ByteArray := prog_7_method_14_code
def yX5_canLoseLast : MethodName := ⟨RX5, "canLoseLast", "()Z"⟩
abbrev cX5_loseLast : ByteArray := prog_7_method_15_code
def yX5_loseLast : MethodName := ⟨RX5, "loseLast", "()I"⟩
abbrev cX5_operandsFit : ByteArray := prog_7_method_16_code
def yX5_operandsFit : MethodName := ⟨RX5, "operandsFit", "(IIII)Z"⟩
abbrev cX5_heightWith : ByteArray := prog_7_method_17_code
def yX5_heightWith : MethodName := ⟨RX5, "heightWith", "(IIII)I"⟩
abbrev cX5_heightOf : ByteArray := prog_7_method_18_code
def yX5_heightOf : MethodName := ⟨RX5, "heightOf", "(I)I"⟩
abbrev cX5_isVariable : ByteArray := prog_7_method_19_code
def yX5_isVariable : MethodName := ⟨RX5, "isVariable", "(I)Z"⟩
abbrev cX5_isRow : ByteArray := prog_7_method_20_code
def yX5_isRow : MethodName := ⟨RX5, "isRow", "(I)Z"⟩
def RX6 : String := "MarkedRuns$Purse"
def TX6 : u_T := fun k => match k with
  | 0 => ("MarkedRuns$Purse", "countByMark", "[I", true)
  | 1 => ("MarkedRuns$Purse", "begun", "[I", true)
  | 2 => ("MarkedRuns$Purse", "manyBegun", "I", false)
  | 3 => ("MarkedRuns$Purse", "budget", "I", false)
  | 4 => ("MarkedRuns$Purse", "reserve", "I", false)
  | 5 => ("MarkedRuns$Purse", "spentOfBudget", "I", false)
  | 6 => ("MarkedRuns$Purse", "spentOfReserve", "I", false)
  | _ => ("MarkedRuns$Purse", "byReserve", "Z", false)
def tyX6 : Nat → FieldType := fun k => match k with
  | 0 => .array .int
  | 1 => .array .int
  | 2 => .int
  | 3 => .int
  | 4 => .int
  | 5 => .int
  | 6 => .int
  | _ => .boolean
abbrev wsX60 : List Cond := u_ws RX6 TX6 8
theorem nmX6 : ∀ a, a < 8 → ∀ b, b < 8 → a ≠ b → (TX6 a).2.1 ≠ (TX6 b).2.1 := by decide +kernel
theorem tyX6_ok : ∀ k, k < 8 → parseFieldDescriptor (TX6 k).2.2.1 = some (tyX6 k) := by decide +kernel
abbrev cX6_init : ByteArray := prog_8_method_1_code
def yX6_init : MethodName := ⟨RX6, "<init>", "()V"⟩
abbrev cX6_fill : ByteArray := prog_8_method_2_code
def yX6_fill : MethodName := ⟨RX6, "fill", "(I)V"⟩
abbrev cX6_isByReserve : ByteArray := prog_8_method_3_code
def yX6_isByReserve : MethodName := ⟨RX6, "isByReserve", "()Z"⟩
abbrev cX6_setByReserve : ByteArray := prog_8_method_4_code
def yX6_setByReserve : MethodName := ⟨RX6, "setByReserve", "(Z)V"⟩
abbrev cX6_pays : ByteArray := prog_8_method_5_code
def yX6_pays : MethodName := ⟨RX6, "pays", "(II)Z"⟩
abbrev cX6_noteBegun : ByteArray := prog_8_method_6_code
def yX6_noteBegun : MethodName := ⟨RX6, "noteBegun", "(I)V"⟩
abbrev cX6_begunAt : ByteArray := prog_8_method_7_code
def yX6_begunAt : MethodName := ⟨RX6, "begunAt", "(I)I"⟩
abbrev cX6_marksOf : ByteArray := prog_8_method_8_code
def yX6_marksOf : MethodName := ⟨RX6, "marksOf", "(I)I"⟩
abbrev cX6_spentOfBudget : ByteArray := prog_8_method_9_code
def yX6_spentOfBudget : MethodName := ⟨RX6, "spentOfBudget", "()I"⟩
abbrev cX6_spentOfReserve : ByteArray := prog_8_method_10_code
def yX6_spentOfReserve : MethodName := ⟨RX6, "spentOfReserve", "()I"⟩
def RX7 : String := "MarkedRuns$Run"
def TX7 : u_T := fun k => match k with
  | 0 => ("MarkedRuns$Run", "program", "LMarkedRuns$Program;", true)
  | 1 => ("MarkedRuns$Run", "memory", "LMarkedRuns$Memory;", true)
  | 2 => ("MarkedRuns$Run", "purse", "LMarkedRuns$Purse;", true)
  | 3 => ("MarkedRuns$Run", "locks", "LMarkedRuns$Locks;", true)
  | 4 => ("MarkedRuns$Run", "frames", "LMarkedRuns$Frames;", true)
  | 5 => ("MarkedRuns$Run", "answer", "I", false)
  | 6 => ("MarkedRuns$Run", "methods", "I", false)
  | 7 => ("MarkedRuns$Run", "mostMethods", "I", false)
  | 8 => ("MarkedRuns$Run", "ending", "I", false)
  | 9 => ("MarkedRuns$Run", "kind", "I", false)
  | _ => ("MarkedRuns$Run", "number", "I", false)
def tyX7 : Nat → FieldType := fun k => match k with
  | 0 => .object "MarkedRuns$Program"
  | 1 => .object "MarkedRuns$Memory"
  | 2 => .object "MarkedRuns$Purse"
  | 3 => .object "MarkedRuns$Locks"
  | 4 => .object "MarkedRuns$Frames"
  | 5 => .int
  | 6 => .int
  | 7 => .int
  | 8 => .int
  | 9 => .int
  | _ => .int
abbrev wsX70 : List Cond := u_ws RX7 TX7 11
theorem nmX7 : ∀ a, a < 11 → ∀ b, b < 11 → a ≠ b → (TX7 a).2.1 ≠ (TX7 b).2.1 := by decide +kernel
theorem tyX7_ok : ∀ k, k < 11 → parseFieldDescriptor (TX7 k).2.2.1 = some (tyX7 k) := by decide +kernel
abbrev cX7_init : ByteArray := prog_9_method_1_code
def yX7_init : MethodName := ⟨RX7, "<init>", "(LMarkedRuns$Program;)V"⟩
abbrev cX7_perform : ByteArray := prog_9_method_2_code
def yX7_perform : MethodName := ⟨RX7, "perform", "(III)I"⟩
abbrev cX7_tell : ByteArray := prog_9_method_3_code
def yX7_tell : MethodName := ⟨RX7, "tell", "(I)I"⟩
abbrev cX7_tellsTheSameAs : ByteArray := prog_9_method_4_code
def yX7_tellsTheSameAs : MethodName := ⟨RX7, "tellsTheSameAs", "(LMarkedRuns$Run;)Z"⟩
abbrev cX7_clear : ByteArray := prog_9_method_5_code
def yX7_clear : MethodName := ⟨RX7, "clear", "(II)V"⟩
abbrev cX7_begin : ByteArray := prog_9_method_6_code
def yX7_begin : MethodName := ⟨RX7, "begin", "(I)V"⟩
abbrev cX7_goOn : ByteArray := prog_9_method_7_code
def yX7_goOn : MethodName := ⟨RX7, "goOn", "(I)V"⟩
abbrev cX7_goOnWithBoth : ByteArray := prog_9_method_8_code
def yX7_goOnWithBoth : MethodName := ⟨RX7, "goOnWithBoth", "(I)V"⟩
abbrev cX7_goOnWithLoop : ByteArray := prog_9_method_9_code
def yX7_goOnWithLoop : MethodName := ⟨RX7, "goOnWithLoop", "(I)V"⟩
abbrev cX7_goOnWithTry : ByteArray := prog_9_method_10_code
def yX7_goOnWithTry : MethodName := ⟨RX7, "goOnWithTry", "(I)V"⟩
abbrev cX7_beginLastPart : ByteArray := prog_9_method_11_code
def yX7_beginLastPart : MethodName := ⟨RX7, "beginLastPart", "(I)V"⟩
abbrev cX7_payForLastPart : ByteArray := prog_9_method_12_code
def yX7_payForLastPart : MethodName := ⟨RX7, "payForLastPart", "()I"⟩
abbrev cX7_endLastPart : ByteArray := prog_9_method_13_code
def yX7_endLastPart : MethodName := ⟨RX7, "endLastPart", "()V"⟩
abbrev cX7_loopOrEnd : ByteArray := prog_9_method_14_code
def yX7_loopOrEnd : MethodName := ⟨RX7, "loopOrEnd", "(II)V"⟩
abbrev cX7_call : ByteArray := prog_9_method_15_code
def yX7_call : MethodName := ⟨RX7, "call", "(I)V"⟩
abbrev cX7_enter : ByteArray := prog_9_method_16_code
def yX7_enter : MethodName := ⟨RX7, "enter", "(I)V"⟩
abbrev cX7_doPart : ByteArray := prog_9_method_17_code
def yX7_doPart : MethodName := ⟨RX7, "doPart", "(II)V"⟩
abbrev cX7_end : ByteArray := prog_9_method_18_code
def yX7_end : MethodName := ⟨RX7, "end", "(I)V"⟩
abbrev cX7_raise : ByteArray := prog_9_method_19_code
def yX7_raise : MethodName := ⟨RX7, "raise", "(II)V"⟩
abbrev cX7_doAtOnce : ByteArray := prog_9_method_20_code
def yX7_doAtOnce : MethodName := ⟨RX7, "doAtOnce", "(IIII)V"⟩
abbrev cX7_calculate : ByteArray := prog_9_method_21_code
def yX7_calculate : MethodName := ⟨RX7, "calculate", "(IIII)V"⟩
abbrev cX7_divide : ByteArray := prog_9_method_22_code
def yX7_divide : MethodName := ⟨RX7, "divide", "(IIII)V"⟩
abbrev cX7_doWithRow : ByteArray := prog_9_method_23_code
def yX7_doWithRow : MethodName := ⟨RX7, "doWithRow", "(IIII)V"⟩
abbrev cX7_makeRow : ByteArray := prog_9_method_24_code
def yX7_makeRow : MethodName := ⟨RX7, "makeRow", "(II)V"⟩
abbrev cX7_measureRow : ByteArray := prog_9_method_25_code
def yX7_measureRow : MethodName := ⟨RX7, "measureRow", "(II)V"⟩
abbrev cX7_reaches : ByteArray := prog_9_method_26_code
def yX7_reaches : MethodName := ⟨RX7, "reaches", "(II)Z"⟩
def RX8 : String := "MarkedRuns$Sort"
def TX8 : u_T := fun k => match k with
  | _ => ("", "", "", false)
def tyX8 : Nat → FieldType := fun k => match k with
  | _ => .int
abbrev wsX80 : List Cond := u_ws RX8 TX8 0
theorem nmX8 : ∀ a, a < 0 → ∀ b, b < 0 → a ≠ b → (TX8 a).2.1 ≠ (TX8 b).2.1 := by decide +kernel
theorem tyX8_ok : ∀ k, k < 0 → parseFieldDescriptor (TX8 k).2.2.1 = some (tyX8 k) := by decide +kernel
def RX9 : String := "MarkedRuns"
def TX9 : u_T := fun k => match k with
  | 0 => ("MarkedRuns", "program", "LMarkedRuns$Program;", true)
  | 1 => ("MarkedRuns", "runsByAnswer", "[I", true)
  | 2 => ("MarkedRuns", "latest", "LMarkedRuns$Run;", false)
  | _ => ("MarkedRuns", "earlier", "LMarkedRuns$Run;", false)
def tyX9 : Nat → FieldType := fun k => match k with
  | 0 => .object "MarkedRuns$Program"
  | 1 => .array .int
  | 2 => .object "MarkedRuns$Run"
  | _ => .object "MarkedRuns$Run"
abbrev wsX90 : List Cond := u_ws RX9 TX9 4
theorem nmX9 : ∀ a, a < 4 → ∀ b, b < 4 → a ≠ b → (TX9 a).2.1 ≠ (TX9 b).2.1 := by decide +kernel
theorem tyX9_ok : ∀ k, k < 4 → parseFieldDescriptor (TX9 k).2.2.1 = some (tyX9 k) := by decide +kernel
abbrev cX9_init : ByteArray := prog_1_method_1_code
def yX9_init : MethodName := ⟨RX9, "<init>", "()V"⟩
abbrev cX9_make : ByteArray := prog_1_method_2_code
def yX9_make : MethodName := ⟨RX9, "make", "(IIII)I"⟩
abbrev cX9_drop : ByteArray := prog_1_method_3_code
def yX9_drop : MethodName := ⟨RX9, "drop", "()I"⟩
abbrev cX9_body : ByteArray := prog_1_method_4_code
def yX9_body : MethodName := ⟨RX9, "body", "(II)I"⟩
abbrev cX9_run : ByteArray := prog_1_method_5_code
def yX9_run : MethodName := ⟨RX9, "run", "(III)I"⟩
abbrev cX9_told : ByteArray := prog_1_method_6_code
def yX9_told : MethodName := ⟨RX9, "told", "(I)I"⟩
abbrev cX9_marks : ByteArray := prog_1_method_7_code
def yX9_marks : MethodName := ⟨RX9, "marks", "(I)I"⟩
abbrev cX9_began : ByteArray := prog_1_method_8_code
def yX9_began : MethodName := ⟨RX9, "began", "(I)I"⟩
abbrev cX9_variable : ByteArray := prog_1_method_9_code
def yX9_variable : MethodName := ⟨RX9, "variable", "(I)I"⟩
abbrev cX9_size : ByteArray := prog_1_method_10_code
def yX9_size : MethodName := ⟨RX9, "size", "(I)I"⟩
abbrev cX9_item : ByteArray := prog_1_method_11_code
def yX9_item : MethodName := ⟨RX9, "item", "(II)I"⟩
abbrev cX9_same : ByteArray := prog_1_method_12_code
def yX9_same : MethodName := ⟨RX9, "same", "(IIII)I"⟩
abbrev cX9_count : ByteArray := prog_1_method_13_code
def yX9_count : MethodName := ⟨RX9, "count", "(I)I"⟩
abbrev cX9_counted : ByteArray := prog_1_method_14_code
def yX9_counted : MethodName := ⟨RX9, "counted", "(I)I"⟩
abbrev cX9_isBudget : ByteArray := prog_1_method_15_code
def yX9_isBudget : MethodName := ⟨RX9, "isBudget", "(I)Z"⟩
abbrev cX9_isBelow : ByteArray := prog_1_method_16_code
def yX9_isBelow : MethodName := ⟨RX9, "isBelow", "(II)Z"⟩
def RX10 : String := "MarkedRunsModel"
def TX10 : u_T := fun k => match k with
  | 0 => ("MarkedRunsModel", "thrown", "I", false)
  | 1 => ("MarkedRunsModel", "many", "I", false)
  | 2 => ("MarkedRunsModel", "sort", "[I", true)
  | 3 => ("MarkedRunsModel", "partA", "[I", true)
  | 4 => ("MarkedRunsModel", "partB", "[I", true)
  | 5 => ("MarkedRunsModel", "partC", "[I", true)
  | 6 => ("MarkedRunsModel", "height", "[I", true)
  | 7 => ("MarkedRunsModel", "bodies", "[I", true)
  | 8 => ("MarkedRunsModel", "variable", "[I", true)
  | 9 => ("MarkedRunsModel", "row", "[I", true)
  | 10 => ("MarkedRunsModel", "lock", "[I", true)
  | 11 => ("MarkedRunsModel", "rows", "I", false)
  | 12 => ("MarkedRunsModel", "rowMany", "[I", true)
  | 13 => ("MarkedRunsModel", "rowAt", "[I", true)
  | 14 => ("MarkedRunsModel", "cells", "I", false)
  | 15 => ("MarkedRunsModel", "cell", "[I", true)
  | 16 => ("MarkedRunsModel", "budget", "I", false)
  | 17 => ("MarkedRunsModel", "reserve", "I", false)
  | 18 => ("MarkedRunsModel", "paid", "I", false)
  | 19 => ("MarkedRunsModel", "paidReserve", "I", false)
  | 20 => ("MarkedRunsModel", "marked", "[I", true)
  | 21 => ("MarkedRunsModel", "logged", "I", false)
  | 22 => ("MarkedRunsModel", "log", "[I", true)
  | 23 => ("MarkedRunsModel", "result", "I", false)
  | 24 => ("MarkedRunsModel", "mostMethods", "I", false)
  | 25 => ("MarkedRunsModel", "mostLocks", "I", false)
  | 26 => ("MarkedRunsModel", "answer", "I", false)
  | 27 => ("MarkedRunsModel", "kind", "I", false)
  | 28 => ("MarkedRunsModel", "number", "I", false)
  | 29 => ("MarkedRunsModel", "runs", "[I", true)
  | 30 => ("MarkedRunsModel", "high", "I", false)
  | 31 => ("MarkedRunsModel", "frame", "[I", true)
  | 32 => ("MarkedRunsModel", "phase", "[I", true)
  | 33 => ("MarkedRunsModel", "wasState", "[I", true)
  | 34 => ("MarkedRunsModel", "wasKind", "[I", true)
  | 35 => ("MarkedRunsModel", "wasNumber", "[I", true)
  | 36 => ("MarkedRunsModel", "methods", "I", false)
  | 37 => ("MarkedRunsModel", "state", "I", false)
  | 38 => ("MarkedRunsModel", "reserved", "I", false)
  | 39 => ("MarkedRunsModel", "first", "[I", true)
  | _ => ("MarkedRunsModel", "firstCell", "[I", true)
def tyX10 : Nat → FieldType := fun k => match k with
  | 0 => .int
  | 1 => .int
  | 2 => .array .int
  | 3 => .array .int
  | 4 => .array .int
  | 5 => .array .int
  | 6 => .array .int
  | 7 => .array .int
  | 8 => .array .int
  | 9 => .array .int
  | 10 => .array .int
  | 11 => .int
  | 12 => .array .int
  | 13 => .array .int
  | 14 => .int
  | 15 => .array .int
  | 16 => .int
  | 17 => .int
  | 18 => .int
  | 19 => .int
  | 20 => .array .int
  | 21 => .int
  | 22 => .array .int
  | 23 => .int
  | 24 => .int
  | 25 => .int
  | 26 => .int
  | 27 => .int
  | 28 => .int
  | 29 => .array .int
  | 30 => .int
  | 31 => .array .int
  | 32 => .array .int
  | 33 => .array .int
  | 34 => .array .int
  | 35 => .array .int
  | 36 => .int
  | 37 => .int
  | 38 => .int
  | 39 => .array .int
  | _ => .array .int
abbrev wsX100 : List Cond := u_ws RX10 TX10 41
theorem nmX10 : ∀ a, a < 41 → ∀ b, b < 41 → a ≠ b → (TX10 a).2.1 ≠ (TX10 b).2.1 := by decide +kernel
theorem tyX10_ok : ∀ k, k < 41 → parseFieldDescriptor (TX10 k).2.2.1 = some (tyX10 k) := by decide +kernel
abbrev cX10_thrown : ByteArray := prog_12_method_1_code
def yX10_thrown : MethodName := ⟨RX10, "thrown", "()I"⟩
abbrev cX10_fail : ByteArray := prog_12_method_2_code
def yX10_fail : MethodName := ⟨RX10, "fail", "(I)I"⟩
abbrev cX10_init : ByteArray := prog_12_method_3_code
def yX10_init : MethodName := ⟨RX10, "<init>", "()V"⟩
abbrev cX10_isIn : ByteArray := prog_12_method_4_code
def yX10_isIn : MethodName := ⟨RX10, "isIn", "(II)Z"⟩
abbrev cX10_isStatement : ByteArray := prog_12_method_5_code
def yX10_isStatement : MethodName := ⟨RX10, "isStatement", "(I)Z"⟩
abbrev cX10_isRight : ByteArray := prog_12_method_6_code
def yX10_isRight : MethodName := ⟨RX10, "isRight", "(IIII)Z"⟩
abbrev cX10_highest : ByteArray := prog_12_method_7_code
def yX10_highest : MethodName := ⟨RX10, "highest", "(II)I"⟩
abbrev cX10_heightOf : ByteArray := prog_12_method_8_code
def yX10_heightOf : MethodName := ⟨RX10, "heightOf", "(IIII)I"⟩
abbrev cX10_make : ByteArray := prog_12_method_9_code
def yX10_make : MethodName := ⟨RX10, "make", "(IIII)I"⟩
abbrev cX10_drop : ByteArray := prog_12_method_10_code
def yX10_drop : MethodName := ⟨RX10, "drop", "()I"⟩
abbrev cX10_body : ByteArray := prog_12_method_11_code
def yX10_body : MethodName := ⟨RX10, "body", "(II)I"⟩
abbrev cX10_push : ByteArray := prog_12_method_12_code
def yX10_push : MethodName := ⟨RX10, "push", "(I)V"⟩
abbrev cX10_comes : ByteArray := prog_12_method_13_code
def yX10_comes : MethodName := ⟨RX10, "comes", "(I)V"⟩
abbrev cX10_throwing : ByteArray := prog_12_method_14_code
def yX10_throwing : MethodName := ⟨RX10, "throwing", "(II)V"⟩
abbrev cX10_pays : ByteArray := prog_12_method_15_code
def yX10_pays : MethodName := ⟨RX10, "pays", "(II)Z"⟩
abbrev cX10_endReserve : ByteArray := prog_12_method_16_code
def yX10_endReserve : MethodName := ⟨RX10, "endReserve", "()V"⟩
abbrev cX10_leave : ByteArray := prog_12_method_17_code
def yX10_leave : MethodName := ⟨RX10, "leave", "(I)V"⟩
abbrev cX10_note : ByteArray := prog_12_method_18_code
def yX10_note : MethodName := ⟨RX10, "note", "(I)V"⟩
abbrev cX10_reckon : ByteArray := prog_12_method_19_code
def yX10_reckon : MethodName := ⟨RX10, "reckon", "(I)V"⟩
abbrev cX10_making : ByteArray := prog_12_method_20_code
def yX10_making : MethodName := ⟨RX10, "making", "(I)V"⟩
abbrev cX10_has : ByteArray := prog_12_method_21_code
def yX10_has : MethodName := ⟨RX10, "has", "(II)Z"⟩
abbrev cX10_simple : ByteArray := prog_12_method_22_code
def yX10_simple : MethodName := ⟨RX10, "simple", "(I)V"⟩
abbrev cX10_calls : ByteArray := prog_12_method_23_code
def yX10_calls : MethodName := ⟨RX10, "calls", "(I)V"⟩
abbrev cX10_enter : ByteArray := prog_12_method_24_code
def yX10_enter : MethodName := ⟨RX10, "enter", "(I)V"⟩
abbrev cX10_locks : ByteArray := prog_12_method_25_code
def yX10_locks : MethodName := ⟨RX10, "locks", "(I)V"⟩
abbrev cX10_begin : ByteArray := prog_12_method_26_code
def yX10_begin : MethodName := ⟨RX10, "begin", "()V"⟩
abbrev cX10_second : ByteArray := prog_12_method_27_code
def yX10_second : MethodName := ⟨RX10, "second", "(I)V"⟩
abbrev cX10_handles : ByteArray := prog_12_method_28_code
def yX10_handles : MethodName := ⟨RX10, "handles", "(I)V"⟩
abbrev cX10_finalOf : ByteArray := prog_12_method_29_code
def yX10_finalOf : MethodName := ⟨RX10, "finalOf", "(I)V"⟩
abbrev cX10_lastDone : ByteArray := prog_12_method_30_code
def yX10_lastDone : MethodName := ⟨RX10, "lastDone", "()V"⟩
abbrev cX10_tell : ByteArray := prog_12_method_31_code
def yX10_tell : MethodName := ⟨RX10, "tell", "()V"⟩
abbrev cX10_reset : ByteArray := prog_12_method_32_code
def yX10_reset : MethodName := ⟨RX10, "reset", "(II)V"⟩
abbrev cX10_isRun : ByteArray := prog_12_method_33_code
def yX10_isRun : MethodName := ⟨RX10, "isRun", "(II)Z"⟩
abbrev cX10_runs : ByteArray := prog_12_method_34_code
def yX10_runs : MethodName := ⟨RX10, "runs", "(III)I"⟩
abbrev cX10_run : ByteArray := prog_12_method_35_code
def yX10_run : MethodName := ⟨RX10, "run", "(III)I"⟩
abbrev cX10_told : ByteArray := prog_12_method_36_code
def yX10_told : MethodName := ⟨RX10, "told", "(I)I"⟩
abbrev cX10_marks : ByteArray := prog_12_method_37_code
def yX10_marks : MethodName := ⟨RX10, "marks", "(I)I"⟩
abbrev cX10_began : ByteArray := prog_12_method_38_code
def yX10_began : MethodName := ⟨RX10, "began", "(I)I"⟩
abbrev cX10_variable : ByteArray := prog_12_method_39_code
def yX10_variable : MethodName := ⟨RX10, "variable", "(I)I"⟩
abbrev cX10_size : ByteArray := prog_12_method_40_code
def yX10_size : MethodName := ⟨RX10, "size", "(I)I"⟩
abbrev cX10_item : ByteArray := prog_12_method_41_code
def yX10_item : MethodName := ⟨RX10, "item", "(II)I"⟩
abbrev cX10_same : ByteArray := prog_12_method_42_code
def yX10_same : MethodName := ⟨RX10, "same", "(IIII)I"⟩
abbrev cX10_count : ByteArray := prog_12_method_43_code
def yX10_count : MethodName := ⟨RX10, "count", "(I)I"⟩
def RJx00060 : String := "java/lang/ArrayIndexOutOfBoundsException"
def TJx00060 : u_T := fun k => match k with
  | 0 => ("java/lang/Throwable", "backtrace", "Ljava/lang/Object;", false)
  | 1 => ("java/lang/Throwable", "detailMessage", "Ljava/lang/String;", false)
  | 2 => ("java/lang/Throwable", "cause", "Ljava/lang/Throwable;", false)
  | 3 => ("java/lang/Throwable", "stackTrace", "[Ljava/lang/StackTraceElement;", false)
  | 4 => ("java/lang/Throwable", "depth", "I", false)
  | _ => ("java/lang/Throwable", "suppressedExceptions", "Ljava/util/List;", false)
def tyJx00060 : Nat → FieldType := fun k => match k with
  | 0 => .object "java/lang/Object"
  | 1 => .object "java/lang/String"
  | 2 => .object "java/lang/Throwable"
  | 3 => .array (.object "java/lang/StackTraceElement")
  | 4 => .int
  | _ => .object "java/util/List"
abbrev wsJx000600 : List Cond := u_ws RJx00060 TJx00060 6
theorem nmJx00060 : ∀ a, a < 6 → ∀ b, b < 6 → a ≠ b → (TJx00060 a).2.1 ≠ (TJx00060 b).2.1 := by decide +kernel
theorem tyJx00060_ok : ∀ k, k < 6 → parseFieldDescriptor (TJx00060 k).2.2.1 = some (tyJx00060 k) := by decide +kernel
abbrev cJx00060_init_a7421 : ByteArray := prog_13_method_2_code
def yJx00060_init_a7421 : MethodName := ⟨RJx00060, "<init>", "(Ljava/lang/String;)V"⟩
def RJ9 : String := "java/lang/Math"
def TJ9 : u_T := fun k => match k with
  | _ => ("", "", "", false)
def tyJ9 : Nat → FieldType := fun k => match k with
  | _ => .int
abbrev wsJ90 : List Cond := u_ws RJ9 TJ9 0
theorem nmJ9 : ∀ a, a < 0 → ∀ b, b < 0 → a ≠ b → (TJ9 a).2.1 ≠ (TJ9 b).2.1 := by decide +kernel
theorem tyJ9_ok : ∀ k, k < 0 → parseFieldDescriptor (TJ9 k).2.2.1 = some (tyJ9 k) := by decide +kernel
abbrev cJ9_max_7cf53 : ByteArray := prog_16_method_65_code
def yJ9_max_7cf53 : MethodName := ⟨RJ9, "max", "(II)I"⟩
def RJx5d777 : String := "java/lang/NullPointerException"
def TJx5d777 : u_T := fun k => match k with
  | 0 => ("java/lang/Throwable", "backtrace", "Ljava/lang/Object;", false)
  | 1 => ("java/lang/Throwable", "detailMessage", "Ljava/lang/String;", false)
  | 2 => ("java/lang/Throwable", "cause", "Ljava/lang/Throwable;", false)
  | 3 => ("java/lang/Throwable", "stackTrace", "[Ljava/lang/StackTraceElement;", false)
  | 4 => ("java/lang/Throwable", "depth", "I", false)
  | 5 => ("java/lang/Throwable", "suppressedExceptions", "Ljava/util/List;", false)
  | 6 => ("java/lang/NullPointerException", "extendedMessageState", "I", false)
  | _ => ("java/lang/NullPointerException", "extendedMessage", "Ljava/lang/String;", false)
def tyJx5d777 : Nat → FieldType := fun k => match k with
  | 0 => .object "java/lang/Object"
  | 1 => .object "java/lang/String"
  | 2 => .object "java/lang/Throwable"
  | 3 => .array (.object "java/lang/StackTraceElement")
  | 4 => .int
  | 5 => .object "java/util/List"
  | 6 => .int
  | _ => .object "java/lang/String"
abbrev wsJx5d7770 : List Cond := u_ws RJx5d777 TJx5d777 8
theorem nmJx5d777 : ∀ a, a < 8 → ∀ b, b < 8 → a ≠ b → (TJx5d777 a).2.1 ≠ (TJx5d777 b).2.1 := by decide +kernel
theorem tyJx5d777_ok : ∀ k, k < 8 → parseFieldDescriptor (TJx5d777 k).2.2.1 = some (tyJx5d777 k) := by decide +kernel
abbrev cJx5d777_init_da8c8 : ByteArray := prog_17_method_1_code
def yJx5d777_init_da8c8 : MethodName := ⟨RJx5d777, "<init>", "()V"⟩
abbrev cJx5d777_init_a7421 : ByteArray := prog_17_method_2_code
def yJx5d777_init_a7421 : MethodName := ⟨RJx5d777, "<init>", "(Ljava/lang/String;)V"⟩
abbrev cJx5d777_fillInStackTrace_cddbd : ByteArray := prog_17_method_3_code
def yJx5d777_fillInStackTrace_cddbd : MethodName := ⟨RJx5d777, "fillInStackTrace", "()Ljava/lang/Throwable;"⟩
def RJ0 : String := "java/lang/String"
def TJ0 : u_T := fun k => match k with
  | 0 => ("java/lang/String", "value", "[B", true)
  | _ => ("java/lang/String", "coder", "B", true)
def tyJ0 : Nat → FieldType := fun k => match k with
  | 0 => .array .byte
  | _ => .byte
abbrev wsJ00 : List Cond := u_ws RJ0 TJ0 2
theorem nmJ0 : ∀ a, a < 2 → ∀ b, b < 2 → a ≠ b → (TJ0 a).2.1 ≠ (TJ0 b).2.1 := by decide +kernel
theorem tyJ0_ok : ∀ k, k < 2 → parseFieldDescriptor (TJ0 k).2.2.1 = some (tyJ0 k) := by decide +kernel
def RJ7 : String := "java/util/Arrays"
def TJ7 : u_T := fun k => match k with
  | _ => ("", "", "", false)
def tyJ7 : Nat → FieldType := fun k => match k with
  | _ => .int
abbrev wsJ70 : List Cond := u_ws RJ7 TJ7 0
theorem nmJ7 : ∀ a, a < 0 → ∀ b, b < 0 → a ≠ b → (TJ7 a).2.1 ≠ (TJ7 b).2.1 := by decide +kernel
theorem tyJ7_ok : ∀ k, k < 0 → parseFieldDescriptor (TJ7 k).2.2.1 = some (tyJ7 k) := by decide +kernel
abbrev cJ7_fill_53178 : ByteArray := prog_21_method_103_code
def yJ7_fill_53178 : MethodName := ⟨RJ7, "fill", "([II)V"⟩
def RL : String := "MarkedRunsLaw"
abbrev cL_item : ByteArray := method_3_code
def yL_item : MethodName := ⟨RL, "item", "(LMarkedRuns;II[J)I"⟩
abbrev cL_law : ByteArray := code
def yL_law : MethodName := ⟨RL, "law", "([I)Z"⟩
