section
-- ===== PART A: goes FIRST, ahead of the names: the tables' words, and 'selects' of the private methods out of them =====
/-- a private method of a class that the tables say can be made, by its rows of tables_1 -/
def lw_okq (q : MethodName × Nat) : Prop := (q.1.cls ≠ "java/lang/invoke/MethodHandle" ∧ q.1.cls ≠ "java/lang/invoke/VarHandle") ∧ Cond.instantiable q.1.cls q.2 ∈ tables_1 ∧ Cond.privateMethod q.1 ∈ tables_1 ∧ Cond.instanceMethod q.1 ∈ tables_1
theorem lw_p0 : lw_okq (⟨"MarkedRuns$Program", "operandsFit", "(IIII)Z"⟩, 7) := ⟨⟨by decide +kernel, by decide +kernel⟩, List.mem_of_getElem? (i := 28) (by decide +kernel), List.mem_of_getElem? (i := 218) (by decide +kernel), List.mem_of_getElem? (i := 219) (by decide +kernel)⟩
theorem lw_p1 : lw_okq (⟨"MarkedRuns$Program", "heightWith", "(IIII)I"⟩, 7) := ⟨⟨by decide +kernel, by decide +kernel⟩, List.mem_of_getElem? (i := 28) (by decide +kernel), List.mem_of_getElem? (i := 235) (by decide +kernel), List.mem_of_getElem? (i := 236) (by decide +kernel)⟩
theorem lw_p2 : lw_okq (⟨"MarkedRuns$Program", "heightOf", "(I)I"⟩, 7) := ⟨⟨by decide +kernel, by decide +kernel⟩, List.mem_of_getElem? (i := 28) (by decide +kernel), List.mem_of_getElem? (i := 239) (by decide +kernel), List.mem_of_getElem? (i := 240) (by decide +kernel)⟩
theorem lw_p3 : lw_okq (⟨"MarkedRuns$Run", "clear", "(II)V"⟩, 11) := ⟨⟨by decide +kernel, by decide +kernel⟩, List.mem_of_getElem? (i := 60) (by decide +kernel), List.mem_of_getElem? (i := 292) (by decide +kernel), List.mem_of_getElem? (i := 293) (by decide +kernel)⟩
theorem lw_p4 : lw_okq (⟨"MarkedRuns$Run", "enter", "(I)V"⟩, 11) := ⟨⟨by decide +kernel, by decide +kernel⟩, List.mem_of_getElem? (i := 60) (by decide +kernel), List.mem_of_getElem? (i := 324) (by decide +kernel), List.mem_of_getElem? (i := 325) (by decide +kernel)⟩
theorem lw_p5 : lw_okq (⟨"MarkedRuns$Run", "begin", "(I)V"⟩, 11) := ⟨⟨by decide +kernel, by decide +kernel⟩, List.mem_of_getElem? (i := 60) (by decide +kernel), List.mem_of_getElem? (i := 346) (by decide +kernel), List.mem_of_getElem? (i := 347) (by decide +kernel)⟩
theorem lw_p6 : lw_okq (⟨"MarkedRuns$Run", "doPart", "(II)V"⟩, 11) := ⟨⟨by decide +kernel, by decide +kernel⟩, List.mem_of_getElem? (i := 60) (by decide +kernel), List.mem_of_getElem? (i := 366) (by decide +kernel), List.mem_of_getElem? (i := 367) (by decide +kernel)⟩
theorem lw_p7 : lw_okq (⟨"MarkedRuns$Run", "loopOrEnd", "(II)V"⟩, 11) := ⟨⟨by decide +kernel, by decide +kernel⟩, List.mem_of_getElem? (i := 60) (by decide +kernel), List.mem_of_getElem? (i := 378) (by decide +kernel), List.mem_of_getElem? (i := 379) (by decide +kernel)⟩
theorem lw_p8 : lw_okq (⟨"MarkedRuns$Run", "call", "(I)V"⟩, 11) := ⟨⟨by decide +kernel, by decide +kernel⟩, List.mem_of_getElem? (i := 60) (by decide +kernel), List.mem_of_getElem? (i := 386) (by decide +kernel), List.mem_of_getElem? (i := 387) (by decide +kernel)⟩
theorem lw_p9 : lw_okq (⟨"MarkedRuns$Run", "raise", "(II)V"⟩, 11) := ⟨⟨by decide +kernel, by decide +kernel⟩, List.mem_of_getElem? (i := 60) (by decide +kernel), List.mem_of_getElem? (i := 391) (by decide +kernel), List.mem_of_getElem? (i := 392) (by decide +kernel)⟩
theorem lw_p10 : lw_okq (⟨"MarkedRuns$Run", "end", "(I)V"⟩, 11) := ⟨⟨by decide +kernel, by decide +kernel⟩, List.mem_of_getElem? (i := 60) (by decide +kernel), List.mem_of_getElem? (i := 395) (by decide +kernel), List.mem_of_getElem? (i := 396) (by decide +kernel)⟩
theorem lw_p11 : lw_okq (⟨"MarkedRuns$Run", "doAtOnce", "(IIII)V"⟩, 11) := ⟨⟨by decide +kernel, by decide +kernel⟩, List.mem_of_getElem? (i := 60) (by decide +kernel), List.mem_of_getElem? (i := 405) (by decide +kernel), List.mem_of_getElem? (i := 406) (by decide +kernel)⟩
theorem lw_p12 : lw_okq (⟨"MarkedRuns$Run", "calculate", "(IIII)V"⟩, 11) := ⟨⟨by decide +kernel, by decide +kernel⟩, List.mem_of_getElem? (i := 60) (by decide +kernel), List.mem_of_getElem? (i := 409) (by decide +kernel), List.mem_of_getElem? (i := 410) (by decide +kernel)⟩
theorem lw_p13 : lw_okq (⟨"MarkedRuns$Run", "divide", "(IIII)V"⟩, 11) := ⟨⟨by decide +kernel, by decide +kernel⟩, List.mem_of_getElem? (i := 60) (by decide +kernel), List.mem_of_getElem? (i := 413) (by decide +kernel), List.mem_of_getElem? (i := 414) (by decide +kernel)⟩
theorem lw_p14 : lw_okq (⟨"MarkedRuns$Run", "doWithRow", "(IIII)V"⟩, 11) := ⟨⟨by decide +kernel, by decide +kernel⟩, List.mem_of_getElem? (i := 60) (by decide +kernel), List.mem_of_getElem? (i := 417) (by decide +kernel), List.mem_of_getElem? (i := 418) (by decide +kernel)⟩
theorem lw_p15 : lw_okq (⟨"MarkedRuns$Run", "makeRow", "(II)V"⟩, 11) := ⟨⟨by decide +kernel, by decide +kernel⟩, List.mem_of_getElem? (i := 60) (by decide +kernel), List.mem_of_getElem? (i := 421) (by decide +kernel), List.mem_of_getElem? (i := 422) (by decide +kernel)⟩
def lw_privs_1 : List (MethodName × Nat) := [(⟨"MarkedRuns$Program", "operandsFit", "(IIII)Z"⟩, 7), (⟨"MarkedRuns$Program", "heightWith", "(IIII)I"⟩, 7), (⟨"MarkedRuns$Program", "heightOf", "(I)I"⟩, 7), (⟨"MarkedRuns$Run", "clear", "(II)V"⟩, 11), (⟨"MarkedRuns$Run", "enter", "(I)V"⟩, 11), (⟨"MarkedRuns$Run", "begin", "(I)V"⟩, 11), (⟨"MarkedRuns$Run", "doPart", "(II)V"⟩, 11), (⟨"MarkedRuns$Run", "loopOrEnd", "(II)V"⟩, 11), (⟨"MarkedRuns$Run", "call", "(I)V"⟩, 11), (⟨"MarkedRuns$Run", "raise", "(II)V"⟩, 11), (⟨"MarkedRuns$Run", "end", "(I)V"⟩, 11), (⟨"MarkedRuns$Run", "doAtOnce", "(IIII)V"⟩, 11), (⟨"MarkedRuns$Run", "calculate", "(IIII)V"⟩, 11), (⟨"MarkedRuns$Run", "divide", "(IIII)V"⟩, 11), (⟨"MarkedRuns$Run", "doWithRow", "(IIII)V"⟩, 11), (⟨"MarkedRuns$Run", "makeRow", "(II)V"⟩, 11)]
theorem lw_r1 : ∀ q ∈ lw_privs_1, lw_okq q := List.forall_mem_cons.mpr ⟨lw_p0, List.forall_mem_cons.mpr ⟨lw_p1, List.forall_mem_cons.mpr ⟨lw_p2, List.forall_mem_cons.mpr ⟨lw_p3, List.forall_mem_cons.mpr ⟨lw_p4, List.forall_mem_cons.mpr ⟨lw_p5, List.forall_mem_cons.mpr ⟨lw_p6, List.forall_mem_cons.mpr ⟨lw_p7, List.forall_mem_cons.mpr ⟨lw_p8, List.forall_mem_cons.mpr ⟨lw_p9, List.forall_mem_cons.mpr ⟨lw_p10, List.forall_mem_cons.mpr ⟨lw_p11, List.forall_mem_cons.mpr ⟨lw_p12, List.forall_mem_cons.mpr ⟨lw_p13, List.forall_mem_cons.mpr ⟨lw_p14, List.forall_mem_cons.mpr ⟨lw_p15, fun _ h => absurd h List.not_mem_nil⟩⟩⟩⟩⟩⟩⟩⟩⟩⟩⟩⟩⟩⟩⟩⟩
theorem lw_p16 : lw_okq (⟨"MarkedRuns$Run", "reaches", "(II)Z"⟩, 11) := ⟨⟨by decide +kernel, by decide +kernel⟩, List.mem_of_getElem? (i := 60) (by decide +kernel), List.mem_of_getElem? (i := 432) (by decide +kernel), List.mem_of_getElem? (i := 433) (by decide +kernel)⟩
theorem lw_p17 : lw_okq (⟨"MarkedRuns$Run", "measureRow", "(II)V"⟩, 11) := ⟨⟨by decide +kernel, by decide +kernel⟩, List.mem_of_getElem? (i := 60) (by decide +kernel), List.mem_of_getElem? (i := 450) (by decide +kernel), List.mem_of_getElem? (i := 451) (by decide +kernel)⟩
theorem lw_p18 : lw_okq (⟨"MarkedRuns$Run", "goOn", "(I)V"⟩, 11) := ⟨⟨by decide +kernel, by decide +kernel⟩, List.mem_of_getElem? (i := 60) (by decide +kernel), List.mem_of_getElem? (i := 470) (by decide +kernel), List.mem_of_getElem? (i := 471) (by decide +kernel)⟩
theorem lw_p19 : lw_okq (⟨"MarkedRuns$Run", "goOnWithBoth", "(I)V"⟩, 11) := ⟨⟨by decide +kernel, by decide +kernel⟩, List.mem_of_getElem? (i := 60) (by decide +kernel), List.mem_of_getElem? (i := 474) (by decide +kernel), List.mem_of_getElem? (i := 475) (by decide +kernel)⟩
theorem lw_p20 : lw_okq (⟨"MarkedRuns$Run", "goOnWithLoop", "(I)V"⟩, 11) := ⟨⟨by decide +kernel, by decide +kernel⟩, List.mem_of_getElem? (i := 60) (by decide +kernel), List.mem_of_getElem? (i := 478) (by decide +kernel), List.mem_of_getElem? (i := 479) (by decide +kernel)⟩
theorem lw_p21 : lw_okq (⟨"MarkedRuns$Run", "goOnWithTry", "(I)V"⟩, 11) := ⟨⟨by decide +kernel, by decide +kernel⟩, List.mem_of_getElem? (i := 60) (by decide +kernel), List.mem_of_getElem? (i := 482) (by decide +kernel), List.mem_of_getElem? (i := 483) (by decide +kernel)⟩
theorem lw_p22 : lw_okq (⟨"MarkedRuns$Run", "beginLastPart", "(I)V"⟩, 11) := ⟨⟨by decide +kernel, by decide +kernel⟩, List.mem_of_getElem? (i := 60) (by decide +kernel), List.mem_of_getElem? (i := 490) (by decide +kernel), List.mem_of_getElem? (i := 491) (by decide +kernel)⟩
theorem lw_p23 : lw_okq (⟨"MarkedRuns$Run", "payForLastPart", "()I"⟩, 11) := ⟨⟨by decide +kernel, by decide +kernel⟩, List.mem_of_getElem? (i := 60) (by decide +kernel), List.mem_of_getElem? (i := 494) (by decide +kernel), List.mem_of_getElem? (i := 495) (by decide +kernel)⟩
theorem lw_p24 : lw_okq (⟨"MarkedRuns$Run", "endLastPart", "()V"⟩, 11) := ⟨⟨by decide +kernel, by decide +kernel⟩, List.mem_of_getElem? (i := 60) (by decide +kernel), List.mem_of_getElem? (i := 510) (by decide +kernel), List.mem_of_getElem? (i := 511) (by decide +kernel)⟩
theorem lw_p25 : lw_okq (⟨"MarkedRuns", "counted", "(I)I"⟩, 4) := ⟨⟨by decide +kernel, by decide +kernel⟩, List.mem_of_getElem? (i := 20) (by decide +kernel), List.mem_of_getElem? (i := 530) (by decide +kernel), List.mem_of_getElem? (i := 531) (by decide +kernel)⟩
theorem lw_p26 : lw_okq (⟨"MarkedRuns$Memory", "rowEqualTo", "(LMarkedRuns$Memory;I)Z"⟩, 6) := ⟨⟨by decide +kernel, by decide +kernel⟩, List.mem_of_getElem? (i := 66) (by decide +kernel), List.mem_of_getElem? (i := 597) (by decide +kernel), List.mem_of_getElem? (i := 598) (by decide +kernel)⟩
theorem lw_p27 : lw_okq (⟨"java/lang/NullPointerException", "getExtendedNPEMessage", "()Ljava/lang/String;"⟩, 8) := ⟨⟨by decide +kernel, by decide +kernel⟩, List.mem_of_getElem? (i := 617) (by decide +kernel), List.mem_of_getElem? (i := 642) (by decide +kernel), List.mem_of_getElem? (i := 643) (by decide +kernel)⟩
theorem lw_p28 : lw_okq (⟨"java/lang/Throwable", "fillInStackTrace", "(I)Ljava/lang/Throwable;"⟩, 6) := ⟨⟨by decide +kernel, by decide +kernel⟩, List.mem_of_getElem? (i := 652) (by decide +kernel), List.mem_of_getElem? (i := 650) (by decide +kernel), List.mem_of_getElem? (i := 651) (by decide +kernel)⟩
theorem lw_p29 : lw_okq (⟨"MarkedRunsModel", "isRight", "(IIII)Z"⟩, 41) := ⟨⟨by decide +kernel, by decide +kernel⟩, List.mem_of_getElem? (i := 747) (by decide +kernel), List.mem_of_getElem? (i := 881) (by decide +kernel), List.mem_of_getElem? (i := 882) (by decide +kernel)⟩
theorem lw_p30 : lw_okq (⟨"MarkedRunsModel", "isStatement", "(I)Z"⟩, 41) := ⟨⟨by decide +kernel, by decide +kernel⟩, List.mem_of_getElem? (i := 747) (by decide +kernel), List.mem_of_getElem? (i := 888) (by decide +kernel), List.mem_of_getElem? (i := 889) (by decide +kernel)⟩
theorem lw_p31 : lw_okq (⟨"MarkedRunsModel", "heightOf", "(IIII)I"⟩, 41) := ⟨⟨by decide +kernel, by decide +kernel⟩, List.mem_of_getElem? (i := 747) (by decide +kernel), List.mem_of_getElem? (i := 892) (by decide +kernel), List.mem_of_getElem? (i := 893) (by decide +kernel)⟩
def lw_privs_2 : List (MethodName × Nat) := [(⟨"MarkedRuns$Run", "reaches", "(II)Z"⟩, 11), (⟨"MarkedRuns$Run", "measureRow", "(II)V"⟩, 11), (⟨"MarkedRuns$Run", "goOn", "(I)V"⟩, 11), (⟨"MarkedRuns$Run", "goOnWithBoth", "(I)V"⟩, 11), (⟨"MarkedRuns$Run", "goOnWithLoop", "(I)V"⟩, 11), (⟨"MarkedRuns$Run", "goOnWithTry", "(I)V"⟩, 11), (⟨"MarkedRuns$Run", "beginLastPart", "(I)V"⟩, 11), (⟨"MarkedRuns$Run", "payForLastPart", "()I"⟩, 11), (⟨"MarkedRuns$Run", "endLastPart", "()V"⟩, 11), (⟨"MarkedRuns", "counted", "(I)I"⟩, 4), (⟨"MarkedRuns$Memory", "rowEqualTo", "(LMarkedRuns$Memory;I)Z"⟩, 6), (⟨"java/lang/NullPointerException", "getExtendedNPEMessage", "()Ljava/lang/String;"⟩, 8), (⟨"java/lang/Throwable", "fillInStackTrace", "(I)Ljava/lang/Throwable;"⟩, 6), (⟨"MarkedRunsModel", "isRight", "(IIII)Z"⟩, 41), (⟨"MarkedRunsModel", "isStatement", "(I)Z"⟩, 41), (⟨"MarkedRunsModel", "heightOf", "(IIII)I"⟩, 41)]
theorem lw_r2 : ∀ q ∈ lw_privs_2, lw_okq q := List.forall_mem_cons.mpr ⟨lw_p16, List.forall_mem_cons.mpr ⟨lw_p17, List.forall_mem_cons.mpr ⟨lw_p18, List.forall_mem_cons.mpr ⟨lw_p19, List.forall_mem_cons.mpr ⟨lw_p20, List.forall_mem_cons.mpr ⟨lw_p21, List.forall_mem_cons.mpr ⟨lw_p22, List.forall_mem_cons.mpr ⟨lw_p23, List.forall_mem_cons.mpr ⟨lw_p24, List.forall_mem_cons.mpr ⟨lw_p25, List.forall_mem_cons.mpr ⟨lw_p26, List.forall_mem_cons.mpr ⟨lw_p27, List.forall_mem_cons.mpr ⟨lw_p28, List.forall_mem_cons.mpr ⟨lw_p29, List.forall_mem_cons.mpr ⟨lw_p30, List.forall_mem_cons.mpr ⟨lw_p31, fun _ h => absurd h List.not_mem_nil⟩⟩⟩⟩⟩⟩⟩⟩⟩⟩⟩⟩⟩⟩⟩⟩
theorem lw_p32 : lw_okq (⟨"MarkedRunsModel", "highest", "(II)I"⟩, 41) := ⟨⟨by decide +kernel, by decide +kernel⟩, List.mem_of_getElem? (i := 747) (by decide +kernel), List.mem_of_getElem? (i := 896) (by decide +kernel), List.mem_of_getElem? (i := 897) (by decide +kernel)⟩
theorem lw_p33 : lw_okq (⟨"MarkedRunsModel", "isRun", "(II)Z"⟩, 41) := ⟨⟨by decide +kernel, by decide +kernel⟩, List.mem_of_getElem? (i := 747) (by decide +kernel), List.mem_of_getElem? (i := 912) (by decide +kernel), List.mem_of_getElem? (i := 913) (by decide +kernel)⟩
theorem lw_p34 : lw_okq (⟨"MarkedRunsModel", "runs", "(III)I"⟩, 41) := ⟨⟨by decide +kernel, by decide +kernel⟩, List.mem_of_getElem? (i := 747) (by decide +kernel), List.mem_of_getElem? (i := 916) (by decide +kernel), List.mem_of_getElem? (i := 917) (by decide +kernel)⟩
theorem lw_p35 : lw_okq (⟨"MarkedRunsModel", "reset", "(II)V"⟩, 41) := ⟨⟨by decide +kernel, by decide +kernel⟩, List.mem_of_getElem? (i := 747) (by decide +kernel), List.mem_of_getElem? (i := 920) (by decide +kernel), List.mem_of_getElem? (i := 921) (by decide +kernel)⟩
theorem lw_p36 : lw_okq (⟨"MarkedRunsModel", "pays", "(II)Z"⟩, 41) := ⟨⟨by decide +kernel, by decide +kernel⟩, List.mem_of_getElem? (i := 747) (by decide +kernel), List.mem_of_getElem? (i := 924) (by decide +kernel), List.mem_of_getElem? (i := 925) (by decide +kernel)⟩
theorem lw_p37 : lw_okq (⟨"MarkedRunsModel", "endReserve", "()V"⟩, 41) := ⟨⟨by decide +kernel, by decide +kernel⟩, List.mem_of_getElem? (i := 747) (by decide +kernel), List.mem_of_getElem? (i := 928) (by decide +kernel), List.mem_of_getElem? (i := 929) (by decide +kernel)⟩
theorem lw_p38 : lw_okq (⟨"MarkedRunsModel", "leave", "(I)V"⟩, 41) := ⟨⟨by decide +kernel, by decide +kernel⟩, List.mem_of_getElem? (i := 747) (by decide +kernel), List.mem_of_getElem? (i := 932) (by decide +kernel), List.mem_of_getElem? (i := 933) (by decide +kernel)⟩
theorem lw_p39 : lw_okq (⟨"MarkedRunsModel", "push", "(I)V"⟩, 41) := ⟨⟨by decide +kernel, by decide +kernel⟩, List.mem_of_getElem? (i := 747) (by decide +kernel), List.mem_of_getElem? (i := 936) (by decide +kernel), List.mem_of_getElem? (i := 937) (by decide +kernel)⟩
theorem lw_p40 : lw_okq (⟨"MarkedRunsModel", "begin", "()V"⟩, 41) := ⟨⟨by decide +kernel, by decide +kernel⟩, List.mem_of_getElem? (i := 747) (by decide +kernel), List.mem_of_getElem? (i := 940) (by decide +kernel), List.mem_of_getElem? (i := 941) (by decide +kernel)⟩
theorem lw_p41 : lw_okq (⟨"MarkedRunsModel", "comes", "(I)V"⟩, 41) := ⟨⟨by decide +kernel, by decide +kernel⟩, List.mem_of_getElem? (i := 747) (by decide +kernel), List.mem_of_getElem? (i := 944) (by decide +kernel), List.mem_of_getElem? (i := 945) (by decide +kernel)⟩
theorem lw_p42 : lw_okq (⟨"MarkedRunsModel", "calls", "(I)V"⟩, 41) := ⟨⟨by decide +kernel, by decide +kernel⟩, List.mem_of_getElem? (i := 747) (by decide +kernel), List.mem_of_getElem? (i := 948) (by decide +kernel), List.mem_of_getElem? (i := 949) (by decide +kernel)⟩
theorem lw_p43 : lw_okq (⟨"MarkedRunsModel", "throwing", "(II)V"⟩, 41) := ⟨⟨by decide +kernel, by decide +kernel⟩, List.mem_of_getElem? (i := 747) (by decide +kernel), List.mem_of_getElem? (i := 952) (by decide +kernel), List.mem_of_getElem? (i := 953) (by decide +kernel)⟩
theorem lw_p44 : lw_okq (⟨"MarkedRunsModel", "enter", "(I)V"⟩, 41) := ⟨⟨by decide +kernel, by decide +kernel⟩, List.mem_of_getElem? (i := 747) (by decide +kernel), List.mem_of_getElem? (i := 956) (by decide +kernel), List.mem_of_getElem? (i := 957) (by decide +kernel)⟩
theorem lw_p45 : lw_okq (⟨"MarkedRunsModel", "locks", "(I)V"⟩, 41) := ⟨⟨by decide +kernel, by decide +kernel⟩, List.mem_of_getElem? (i := 747) (by decide +kernel), List.mem_of_getElem? (i := 960) (by decide +kernel), List.mem_of_getElem? (i := 961) (by decide +kernel)⟩
theorem lw_p46 : lw_okq (⟨"MarkedRunsModel", "simple", "(I)V"⟩, 41) := ⟨⟨by decide +kernel, by decide +kernel⟩, List.mem_of_getElem? (i := 747) (by decide +kernel), List.mem_of_getElem? (i := 964) (by decide +kernel), List.mem_of_getElem? (i := 965) (by decide +kernel)⟩
theorem lw_p47 : lw_okq (⟨"MarkedRunsModel", "making", "(I)V"⟩, 41) := ⟨⟨by decide +kernel, by decide +kernel⟩, List.mem_of_getElem? (i := 747) (by decide +kernel), List.mem_of_getElem? (i := 968) (by decide +kernel), List.mem_of_getElem? (i := 969) (by decide +kernel)⟩
def lw_privs_3 : List (MethodName × Nat) := [(⟨"MarkedRunsModel", "highest", "(II)I"⟩, 41), (⟨"MarkedRunsModel", "isRun", "(II)Z"⟩, 41), (⟨"MarkedRunsModel", "runs", "(III)I"⟩, 41), (⟨"MarkedRunsModel", "reset", "(II)V"⟩, 41), (⟨"MarkedRunsModel", "pays", "(II)Z"⟩, 41), (⟨"MarkedRunsModel", "endReserve", "()V"⟩, 41), (⟨"MarkedRunsModel", "leave", "(I)V"⟩, 41), (⟨"MarkedRunsModel", "push", "(I)V"⟩, 41), (⟨"MarkedRunsModel", "begin", "()V"⟩, 41), (⟨"MarkedRunsModel", "comes", "(I)V"⟩, 41), (⟨"MarkedRunsModel", "calls", "(I)V"⟩, 41), (⟨"MarkedRunsModel", "throwing", "(II)V"⟩, 41), (⟨"MarkedRunsModel", "enter", "(I)V"⟩, 41), (⟨"MarkedRunsModel", "locks", "(I)V"⟩, 41), (⟨"MarkedRunsModel", "simple", "(I)V"⟩, 41), (⟨"MarkedRunsModel", "making", "(I)V"⟩, 41)]
theorem lw_r3 : ∀ q ∈ lw_privs_3, lw_okq q := List.forall_mem_cons.mpr ⟨lw_p32, List.forall_mem_cons.mpr ⟨lw_p33, List.forall_mem_cons.mpr ⟨lw_p34, List.forall_mem_cons.mpr ⟨lw_p35, List.forall_mem_cons.mpr ⟨lw_p36, List.forall_mem_cons.mpr ⟨lw_p37, List.forall_mem_cons.mpr ⟨lw_p38, List.forall_mem_cons.mpr ⟨lw_p39, List.forall_mem_cons.mpr ⟨lw_p40, List.forall_mem_cons.mpr ⟨lw_p41, List.forall_mem_cons.mpr ⟨lw_p42, List.forall_mem_cons.mpr ⟨lw_p43, List.forall_mem_cons.mpr ⟨lw_p44, List.forall_mem_cons.mpr ⟨lw_p45, List.forall_mem_cons.mpr ⟨lw_p46, List.forall_mem_cons.mpr ⟨lw_p47, fun _ h => absurd h List.not_mem_nil⟩⟩⟩⟩⟩⟩⟩⟩⟩⟩⟩⟩⟩⟩⟩⟩
theorem lw_p48 : lw_okq (⟨"MarkedRunsModel", "has", "(II)Z"⟩, 41) := ⟨⟨by decide +kernel, by decide +kernel⟩, List.mem_of_getElem? (i := 747) (by decide +kernel), List.mem_of_getElem? (i := 972) (by decide +kernel), List.mem_of_getElem? (i := 973) (by decide +kernel)⟩
theorem lw_p49 : lw_okq (⟨"MarkedRunsModel", "reckon", "(I)V"⟩, 41) := ⟨⟨by decide +kernel, by decide +kernel⟩, List.mem_of_getElem? (i := 747) (by decide +kernel), List.mem_of_getElem? (i := 976) (by decide +kernel), List.mem_of_getElem? (i := 977) (by decide +kernel)⟩
theorem lw_p50 : lw_okq (⟨"MarkedRunsModel", "tell", "()V"⟩, 41) := ⟨⟨by decide +kernel, by decide +kernel⟩, List.mem_of_getElem? (i := 747) (by decide +kernel), List.mem_of_getElem? (i := 980) (by decide +kernel), List.mem_of_getElem? (i := 981) (by decide +kernel)⟩
theorem lw_p51 : lw_okq (⟨"MarkedRunsModel", "second", "(I)V"⟩, 41) := ⟨⟨by decide +kernel, by decide +kernel⟩, List.mem_of_getElem? (i := 747) (by decide +kernel), List.mem_of_getElem? (i := 984) (by decide +kernel), List.mem_of_getElem? (i := 985) (by decide +kernel)⟩
theorem lw_p52 : lw_okq (⟨"MarkedRunsModel", "handles", "(I)V"⟩, 41) := ⟨⟨by decide +kernel, by decide +kernel⟩, List.mem_of_getElem? (i := 747) (by decide +kernel), List.mem_of_getElem? (i := 988) (by decide +kernel), List.mem_of_getElem? (i := 989) (by decide +kernel)⟩
theorem lw_p53 : lw_okq (⟨"MarkedRunsModel", "note", "(I)V"⟩, 41) := ⟨⟨by decide +kernel, by decide +kernel⟩, List.mem_of_getElem? (i := 747) (by decide +kernel), List.mem_of_getElem? (i := 992) (by decide +kernel), List.mem_of_getElem? (i := 993) (by decide +kernel)⟩
theorem lw_p54 : lw_okq (⟨"MarkedRunsModel", "finalOf", "(I)V"⟩, 41) := ⟨⟨by decide +kernel, by decide +kernel⟩, List.mem_of_getElem? (i := 747) (by decide +kernel), List.mem_of_getElem? (i := 996) (by decide +kernel), List.mem_of_getElem? (i := 997) (by decide +kernel)⟩
theorem lw_p55 : lw_okq (⟨"MarkedRunsModel", "lastDone", "()V"⟩, 41) := ⟨⟨by decide +kernel, by decide +kernel⟩, List.mem_of_getElem? (i := 747) (by decide +kernel), List.mem_of_getElem? (i := 1000) (by decide +kernel), List.mem_of_getElem? (i := 1001) (by decide +kernel)⟩
theorem lw_p56 : lw_okq (⟨"MarkedRunsModel", "fail", "(I)I"⟩, 41) := ⟨⟨by decide +kernel, by decide +kernel⟩, List.mem_of_getElem? (i := 747) (by decide +kernel), List.mem_of_getElem? (i := 1028) (by decide +kernel), List.mem_of_getElem? (i := 1029) (by decide +kernel)⟩
def lw_privs_4 : List (MethodName × Nat) := [(⟨"MarkedRunsModel", "has", "(II)Z"⟩, 41), (⟨"MarkedRunsModel", "reckon", "(I)V"⟩, 41), (⟨"MarkedRunsModel", "tell", "()V"⟩, 41), (⟨"MarkedRunsModel", "second", "(I)V"⟩, 41), (⟨"MarkedRunsModel", "handles", "(I)V"⟩, 41), (⟨"MarkedRunsModel", "note", "(I)V"⟩, 41), (⟨"MarkedRunsModel", "finalOf", "(I)V"⟩, 41), (⟨"MarkedRunsModel", "lastDone", "()V"⟩, 41), (⟨"MarkedRunsModel", "fail", "(I)I"⟩, 41)]
theorem lw_r4 : ∀ q ∈ lw_privs_4, lw_okq q := List.forall_mem_cons.mpr ⟨lw_p48, List.forall_mem_cons.mpr ⟨lw_p49, List.forall_mem_cons.mpr ⟨lw_p50, List.forall_mem_cons.mpr ⟨lw_p51, List.forall_mem_cons.mpr ⟨lw_p52, List.forall_mem_cons.mpr ⟨lw_p53, List.forall_mem_cons.mpr ⟨lw_p54, List.forall_mem_cons.mpr ⟨lw_p55, List.forall_mem_cons.mpr ⟨lw_p56, fun _ h => absurd h List.not_mem_nil⟩⟩⟩⟩⟩⟩⟩⟩⟩
def lw_privs : List (MethodName × Nat) := lw_privs_1 ++ (lw_privs_2 ++ (lw_privs_3 ++ (lw_privs_4)))
def lw_tbl : List Cond := k2_sels lw_privs ++ tables_1
theorem lw_privs_ok : ∀ q ∈ lw_privs, lw_okq q := by
  show ∀ q ∈ lw_privs_1 ++ (lw_privs_2 ++ (lw_privs_3 ++ (lw_privs_4))), lw_okq q
  exact List.forall_mem_append.mpr ⟨lw_r1, List.forall_mem_append.mpr ⟨lw_r2, List.forall_mem_append.mpr ⟨lw_r3, lw_r4⟩⟩⟩
-- ===== end of PART A; then your names; then what follows =====
def RX0 : String := "MarkedRuns$Frames"
def TX0 : u_T := fun k => match k with
  | 0 => ("MarkedRuns$Frames", "statements", "[I", true)
  | 1 => ("MarkedRuns$Frames", "stages", "[I", true)
  | 2 => ("MarkedRuns$Frames", "keptEndings", "[I", true)
  | 3 => ("MarkedRuns$Frames", "keptKinds", "[I", true)
  | 4 => ("MarkedRuns$Frames", "keptNumbers", "[I", true)
  | _ => ("MarkedRuns$Frames", "depth", "I", false)
def tyX0 : Nat → FieldType := fun k => match k with
  | 0 => .array .int
  | 1 => .array .int
  | 2 => .array .int
  | 3 => .array .int
  | 4 => .array .int
  | _ => .int
abbrev wsX00 : List Cond := u_ws RX0 TX0 6
theorem nmX0 : ∀ a, a < 6 → ∀ b, b < 6 → a ≠ b → (TX0 a).2.1 ≠ (TX0 b).2.1 := by decide +kernel
theorem tyX0_ok : ∀ k, k < 6 → parseFieldDescriptor (TX0 k).2.2.1 = some (tyX0 k) := by decide +kernel
abbrev cX0_init : ByteArray := prog_2_method_1_code
def yX0_init : MethodName := ⟨RX0, "<init>", "()V"⟩
abbrev cX0_clear : ByteArray := prog_2_method_2_code
def yX0_clear : MethodName := ⟨RX0, "clear", "()V"⟩
abbrev cX0_isEmpty : ByteArray := prog_2_method_3_code
def yX0_isEmpty : MethodName := ⟨RX0, "isEmpty", "()Z"⟩
abbrev cX0_open : ByteArray := prog_2_method_4_code
def yX0_open : MethodName := ⟨RX0, "open", "(I)V"⟩
abbrev cX0_close : ByteArray := prog_2_method_5_code
def yX0_close : MethodName := ⟨RX0, "close", "()V"⟩
abbrev cX0_statement : ByteArray := prog_2_method_6_code
def yX0_statement : MethodName := ⟨RX0, "statement", "()I"⟩
abbrev cX0_stage : ByteArray := prog_2_method_7_code
def yX0_stage : MethodName := ⟨RX0, "stage", "()I"⟩
abbrev cX0_setStage : ByteArray := prog_2_method_8_code
def yX0_setStage : MethodName := ⟨RX0, "setStage", "(I)V"⟩
abbrev cX0_keep : ByteArray := prog_2_method_9_code
def yX0_keep : MethodName := ⟨RX0, "keep", "(III)V"⟩
abbrev cX0_keptEnding : ByteArray := prog_2_method_10_code
def yX0_keptEnding : MethodName := ⟨RX0, "keptEnding", "()I"⟩
abbrev cX0_keptKind : ByteArray := prog_2_method_11_code
def yX0_keptKind : MethodName := ⟨RX0, "keptKind", "()I"⟩
abbrev cX0_keptNumber : ByteArray := prog_2_method_12_code
def yX0_keptNumber : MethodName := ⟨RX0, "keptNumber", "()I"⟩
def RX1 : String := "MarkedRuns$Kind"
def TX1 : u_T := fun k => match k with
  | _ => ("", "", "", false)
def tyX1 : Nat → FieldType := fun k => match k with
  | _ => .int
abbrev wsX10 : List Cond := u_ws RX1 TX1 0
theorem nmX1 : ∀ a, a < 0 → ∀ b, b < 0 → a ≠ b → (TX1 a).2.1 ≠ (TX1 b).2.1 := by decide +kernel
theorem tyX1_ok : ∀ k, k < 0 → parseFieldDescriptor (TX1 k).2.2.1 = some (tyX1 k) := by decide +kernel
def RX2 : String := "MarkedRuns$Locks"
def TX2 : u_T := fun k => match k with
  | 0 => ("MarkedRuns$Locks", "held", "[I", true)
  | _ => ("MarkedRuns$Locks", "most", "I", false)
def tyX2 : Nat → FieldType := fun k => match k with
  | 0 => .array .int
  | _ => .int
abbrev wsX20 : List Cond := u_ws RX2 TX2 2
theorem nmX2 : ∀ a, a < 2 → ∀ b, b < 2 → a ≠ b → (TX2 a).2.1 ≠ (TX2 b).2.1 := by decide +kernel
theorem tyX2_ok : ∀ k, k < 2 → parseFieldDescriptor (TX2 k).2.2.1 = some (tyX2 k) := by decide +kernel
abbrev cX2_init : ByteArray := prog_4_method_1_code
def yX2_init : MethodName := ⟨RX2, "<init>", "()V"⟩
abbrev cX2_clear : ByteArray := prog_4_method_2_code
def yX2_clear : MethodName := ⟨RX2, "clear", "()V"⟩
abbrev cX2_take : ByteArray := prog_4_method_3_code
def yX2_take : MethodName := ⟨RX2, "take", "(I)V"⟩
abbrev cX2_free : ByteArray := prog_4_method_4_code
def yX2_free : MethodName := ⟨RX2, "free", "(I)V"⟩
abbrev cX2_most : ByteArray := prog_4_method_5_code
def yX2_most : MethodName := ⟨RX2, "most", "()I"⟩
abbrev cX2_sum : ByteArray := prog_4_method_6_code
def yX2_sum : MethodName := ⟨RX2, "sum", "()I"⟩
def RX3 : String := "MarkedRuns$Mark"
def TX3 : u_T := fun k => match k with
  | _ => ("", "", "", false)
def tyX3 : Nat → FieldType := fun k => match k with
  | _ => .int
abbrev wsX30 : List Cond := u_ws RX3 TX3 0
theorem nmX3 : ∀ a, a < 0 → ∀ b, b < 0 → a ≠ b → (TX3 a).2.1 ≠ (TX3 b).2.1 := by decide +kernel
theorem tyX3_ok : ∀ k, k < 0 → parseFieldDescriptor (TX3 k).2.2.1 = some (tyX3 k) := by decide +kernel
abbrev cX3_makingPrice : ByteArray := prog_5_method_2_code
def yX3_makingPrice : MethodName := ⟨RX3, "makingPrice", "(I)I"⟩
def RX4 : String := "MarkedRuns$Memory"
def TX4 : u_T := fun k => match k with
  | 0 => ("MarkedRuns$Memory", "variables", "[I", true)
  | 1 => ("MarkedRuns$Memory", "starts", "[I", true)
  | 2 => ("MarkedRuns$Memory", "lengths", "[I", true)
  | 3 => ("MarkedRuns$Memory", "cells", "[I", true)
  | 4 => ("MarkedRuns$Memory", "used", "I", false)
  | _ => ("MarkedRuns$Memory", "result", "I", false)
def tyX4 : Nat → FieldType := fun k => match k with
  | 0 => .array .int
  | 1 => .array .int
  | 2 => .array .int
  | 3 => .array .int
  | 4 => .int
  | _ => .int
abbrev wsX40 : List Cond := u_ws RX4 TX4 6
theorem nmX4 : ∀ a, a < 6 → ∀ b, b < 6 → a ≠ b → (TX4 a).2.1 ≠ (TX4 b).2.1 := by decide +kernel
theorem tyX4_ok : ∀ k, k < 6 → parseFieldDescriptor (TX4 k).2.2.1 = some (tyX4 k) := by decide +kernel
abbrev cX4_init : ByteArray := prog_6_method_1_code
def yX4_init : MethodName := ⟨RX4, "<init>", "()V"⟩
abbrev cX4_clear : ByteArray := prog_6_method_2_code
def yX4_clear : MethodName := ⟨RX4, "clear", "()V"⟩
abbrev cX4_read : ByteArray := prog_6_method_3_code
def yX4_read : MethodName := ⟨RX4, "read", "(I)I"⟩
abbrev cX4_write : ByteArray := prog_6_method_4_code
def yX4_write : MethodName := ⟨RX4, "write", "(II)V"⟩
abbrev cX4_result : ByteArray := prog_6_method_5_code
def yX4_result : MethodName := ⟨RX4, "result", "()I"⟩
abbrev cX4_setResult : ByteArray := prog_6_method_6_code
def yX4_setResult : MethodName := ⟨RX4, "setResult", "(I)V"⟩
abbrev cX4_lengthOf : ByteArray := prog_6_method_7_code
def yX4_lengthOf : MethodName := ⟨RX4, "lengthOf", "(I)I"⟩
abbrev cX4_makeRow : ByteArray := prog_6_method_8_code
def yX4_makeRow : MethodName := ⟨RX4, "makeRow", "(II)V"⟩
abbrev cX4_forgetRow : ByteArray := prog_6_method_9_code
def yX4_forgetRow : MethodName := ⟨RX4, "forgetRow", "(I)V"⟩
abbrev cX4_shareRow : ByteArray := prog_6_method_10_code
def yX4_shareRow : MethodName := ⟨RX4, "shareRow", "(II)V"⟩
abbrev cX4_load : ByteArray := prog_6_method_11_code
def yX4_load : MethodName := ⟨RX4, "load", "(II)I"⟩
abbrev cX4_store : ByteArray := prog_6_method_12_code
def yX4_store : MethodName := ⟨RX4, "store", "(III)V"⟩
abbrev cX4_equalTo : ByteArray := prog_6_method_13_code
def yX4_equalTo : MethodName := ⟨RX4, "equalTo", "(LMarkedRuns$Memory;)Z"⟩
abbrev cX4_rowEqualTo : ByteArray := prog_6_method_14_code
def yX4_rowEqualTo : MethodName := ⟨RX4, "rowEqualTo", "(LMarkedRuns$Memory;I)Z"⟩
def RX5 : String := "MarkedRuns$Program"
def TX5 : u_T := fun k => match k with
  | 0 => ("MarkedRuns$Program", "sorts", "[I", true)
  | 1 => ("MarkedRuns$Program", "firsts", "[I", true)
  | 2 => ("MarkedRuns$Program", "seconds", "[I", true)
  | 3 => ("MarkedRuns$Program", "thirds", "[I", true)
  | 4 => ("MarkedRuns$Program", "heights", "[I", true)
  | 5 => ("MarkedRuns$Program", "bodyByMethod", "[I", true)
  | _ => ("MarkedRuns$Program", "many", "I", false)
def tyX5 : Nat → FieldType := fun k => match k with
  | 0 => .array .int
  | 1 => .array .int
  | 2 => .array .int
  | 3 => .array .int
  | 4 => .array .int
  | 5 => .array .int
  | _ => .int
abbrev wsX50 : List Cond := u_ws RX5 TX5 7
theorem nmX5 : ∀ a, a < 7 → ∀ b, b < 7 → a ≠ b → (TX5 a).2.1 ≠ (TX5 b).2.1 := by decide +kernel
theorem tyX5_ok : ∀ k, k < 7 → parseFieldDescriptor (TX5 k).2.2.1 = some (tyX5 k) := by decide +kernel
abbrev cX5_init : ByteArray := prog_7_method_1_code
def yX5_init : MethodName := ⟨RX5, "<init>", "()V"⟩
abbrev cX5_statements : ByteArray := prog_7_method_2_code
def yX5_statements : MethodName := ⟨RX5, "statements", "()I"⟩
abbrev cX5_bodies : ByteArray := prog_7_method_3_code
def yX5_bodies : MethodName := ⟨RX5, "bodies", "()I"⟩
abbrev cX5_isFull : ByteArray := prog_7_method_4_code
def yX5_isFull : MethodName := ⟨RX5, "isFull", "()Z"⟩
abbrev cX5_has : ByteArray := prog_7_method_5_code
def yX5_has : MethodName := ⟨RX5, "has", "(I)Z"⟩
abbrev cX5_sortOf : ByteArray := prog_7_method_6_code
def yX5_sortOf : MethodName := ⟨RX5, "sortOf", "(I)I"⟩
abbrev cX5_firstOf : ByteArray := prog_7_method_7_code
def yX5_firstOf : MethodName := ⟨RX5, "firstOf", "(I)I"⟩
abbrev cX5_secondOf : ByteArray := prog_7_method_8_code
def yX5_secondOf : MethodName := ⟨RX5, "secondOf", "(I)I"⟩
abbrev cX5_thirdOf : ByteArray := prog_7_method_9_code
def yX5_thirdOf : MethodName := ⟨RX5, "thirdOf", "(I)I"⟩
abbrev cX5_bodyOf : ByteArray := prog_7_method_10_code
def yX5_bodyOf : MethodName := ⟨RX5, "bodyOf", "(I)I"⟩
abbrev cX5_setBody : ByteArray := prog_7_method_11_code
def yX5_setBody : MethodName := ⟨RX5, "setBody", "(II)V"⟩
abbrev cX5_takes : ByteArray := prog_7_method_12_code
def yX5_takes : MethodName := ⟨RX5, "takes", "(IIII)Z"⟩
abbrev cX5_add : ByteArray := prog_7_method_13_code
def yX5_add : MethodName := ⟨RX5, "add", "(IIII)I"⟩
abbrev cX5_canLoseLast : ByteArray := prog_7_method_14_code
def yX5_canLoseLast : MethodName := ⟨RX5, "canLoseLast", "()Z"⟩
abbrev cX5_loseLast : ByteArray := prog_7_method_15_code
def yX5_loseLast : MethodName := ⟨RX5, "loseLast", "()I"⟩
abbrev cX5_operandsFit : ByteArray := prog_7_method_16_code
def yX5_operandsFit : MethodName := ⟨RX5, "operandsFit", "(IIII)Z"⟩
abbrev cX5_heightWith : ByteArray := prog_7_method_17_code
def yX5_heightWith : MethodName := ⟨RX5, "heightWith", "(IIII)I"⟩
abbrev cX5_heightOf : ByteArray := prog_7_method_18_code
def yX5_heightOf : MethodName := ⟨RX5, "heightOf", "(I)I"⟩
abbrev cX5_isVariable : ByteArray := prog_7_method_19_code
def yX5_isVariable : MethodName := ⟨RX5, "isVariable", "(I)Z"⟩
abbrev cX5_isRow : ByteArray := prog_7_method_20_code
def yX5_isRow : MethodName := ⟨RX5, "isRow", "(I)Z"⟩
def RX6 : String := "MarkedRuns$Purse"
def TX6 : u_T := fun k => match k with
  | 0 => ("MarkedRuns$Purse", "countByMark", "[I", true)
  | 1 => ("MarkedRuns$Purse", "begun", "[I", true)
  | 2 => ("MarkedRuns$Purse", "manyBegun", "I", false)
  | 3 => ("MarkedRuns$Purse", "budget", "I", false)
  | 4 => ("MarkedRuns$Purse", "reserve", "I", false)
  | 5 => ("MarkedRuns$Purse", "spentOfBudget", "I", false)
  | 6 => ("MarkedRuns$Purse", "spentOfReserve", "I", false)
  | _ => ("MarkedRuns$Purse", "byReserve", "Z", false)
def tyX6 : Nat → FieldType := fun k => match k with
  | 0 => .array .int
  | 1 => .array .int
  | 2 => .int
  | 3 => .int
  | 4 => .int
  | 5 => .int
  | 6 => .int
  | _ => .boolean
abbrev wsX60 : List Cond := u_ws RX6 TX6 8
theorem nmX6 : ∀ a, a < 8 → ∀ b, b < 8 → a ≠ b → (TX6 a).2.1 ≠ (TX6 b).2.1 := by decide +kernel
theorem tyX6_ok : ∀ k, k < 8 → parseFieldDescriptor (TX6 k).2.2.1 = some (tyX6 k) := by decide +kernel
abbrev cX6_init : ByteArray := prog_8_method_1_code
def yX6_init : MethodName := ⟨RX6, "<init>", "()V"⟩
abbrev cX6_fill : ByteArray := prog_8_method_2_code
def yX6_fill : MethodName := ⟨RX6, "fill", "(I)V"⟩
abbrev cX6_isByReserve : ByteArray := prog_8_method_3_code
def yX6_isByReserve : MethodName := ⟨RX6, "isByReserve", "()Z"⟩
abbrev cX6_setByReserve : ByteArray := prog_8_method_4_code
def yX6_setByReserve : MethodName := ⟨RX6, "setByReserve", "(Z)V"⟩
abbrev cX6_pays : ByteArray := prog_8_method_5_code
def yX6_pays : MethodName := ⟨RX6, "pays", "(II)Z"⟩
abbrev cX6_noteBegun : ByteArray := prog_8_method_6_code
def yX6_noteBegun : MethodName := ⟨RX6, "noteBegun", "(I)V"⟩
abbrev cX6_begunAt : ByteArray := prog_8_method_7_code
def yX6_begunAt : MethodName := ⟨RX6, "begunAt", "(I)I"⟩
abbrev cX6_marksOf : ByteArray := prog_8_method_8_code
def yX6_marksOf : MethodName := ⟨RX6, "marksOf", "(I)I"⟩
abbrev cX6_spentOfBudget : ByteArray := prog_8_method_9_code
def yX6_spentOfBudget : MethodName := ⟨RX6, "spentOfBudget", "()I"⟩
abbrev cX6_spentOfReserve : ByteArray := prog_8_method_10_code
def yX6_spentOfReserve : MethodName := ⟨RX6, "spentOfReserve", "()I"⟩
def RX7 : String := "MarkedRuns$Run"
def TX7 : u_T := fun k => match k with
  | 0 => ("MarkedRuns$Run", "program", "LMarkedRuns$Program;", true)
  | 1 => ("MarkedRuns$Run", "memory", "LMarkedRuns$Memory;", true)
  | 2 => ("MarkedRuns$Run", "purse", "LMarkedRuns$Purse;", true)
  | 3 => ("MarkedRuns$Run", "locks", "LMarkedRuns$Locks;", true)
  | 4 => ("MarkedRuns$Run", "frames", "LMarkedRuns$Frames;", true)
  | 5 => ("MarkedRuns$Run", "answer", "I", false)
  | 6 => ("MarkedRuns$Run", "methods", "I", false)
  | 7 => ("MarkedRuns$Run", "mostMethods", "I", false)
  | 8 => ("MarkedRuns$Run", "ending", "I", false)
  | 9 => ("MarkedRuns$Run", "kind", "I", false)
  | _ => ("MarkedRuns$Run", "number", "I", false)
def tyX7 : Nat → FieldType := fun k => match k with
  | 0 => .object "MarkedRuns$Program"
  | 1 => .object "MarkedRuns$Memory"
  | 2 => .object "MarkedRuns$Purse"
  | 3 => .object "MarkedRuns$Locks"
  | 4 => .object "MarkedRuns$Frames"
  | 5 => .int
  | 6 => .int
  | 7 => .int
  | 8 => .int
  | 9 => .int
  | _ => .int
abbrev wsX70 : List Cond := u_ws RX7 TX7 11
theorem nmX7 : ∀ a, a < 11 → ∀ b, b < 11 → a ≠ b → (TX7 a).2.1 ≠ (TX7 b).2.1 := by decide +kernel
theorem tyX7_ok : ∀ k, k < 11 → parseFieldDescriptor (TX7 k).2.2.1 = some (tyX7 k) := by decide +kernel
abbrev cX7_init : ByteArray := prog_9_method_1_code
def yX7_init : MethodName := ⟨RX7, "<init>", "(LMarkedRuns$Program;)V"⟩
abbrev cX7_perform : ByteArray := prog_9_method_2_code
def yX7_perform : MethodName := ⟨RX7, "perform", "(III)I"⟩
abbrev cX7_tell : ByteArray := prog_9_method_3_code
def yX7_tell : MethodName := ⟨RX7, "tell", "(I)I"⟩
abbrev cX7_tellsTheSameAs : ByteArray := prog_9_method_4_code
def yX7_tellsTheSameAs : MethodName := ⟨RX7, "tellsTheSameAs", "(LMarkedRuns$Run;)Z"⟩
abbrev cX7_clear : ByteArray := prog_9_method_5_code
def yX7_clear : MethodName := ⟨RX7, "clear", "(II)V"⟩
abbrev cX7_begin : ByteArray := prog_9_method_6_code
def yX7_begin : MethodName := ⟨RX7, "begin", "(I)V"⟩
abbrev cX7_goOn : ByteArray := prog_9_method_7_code
def yX7_goOn : MethodName := ⟨RX7, "goOn", "(I)V"⟩
abbrev cX7_goOnWithBoth : ByteArray := prog_9_method_8_code
def yX7_goOnWithBoth : MethodName := ⟨RX7, "goOnWithBoth", "(I)V"⟩
abbrev cX7_goOnWithLoop : ByteArray := prog_9_method_9_code
def yX7_goOnWithLoop : MethodName := ⟨RX7, "goOnWithLoop", "(I)V"⟩
abbrev cX7_goOnWithTry : ByteArray := prog_9_method_10_code
def yX7_goOnWithTry : MethodName := ⟨RX7, "goOnWithTry", "(I)V"⟩
abbrev cX7_beginLastPart : ByteArray := prog_9_method_11_code
def yX7_beginLastPart : MethodName := ⟨RX7, "beginLastPart", "(I)V"⟩
abbrev cX7_payForLastPart : ByteArray := prog_9_method_12_code
def yX7_payForLastPart : MethodName := ⟨RX7, "payForLastPart", "()I"⟩
abbrev cX7_endLastPart : ByteArray := prog_9_method_13_code
def yX7_endLastPart : MethodName := ⟨RX7, "endLastPart", "()V"⟩
abbrev cX7_loopOrEnd : ByteArray := prog_9_method_14_code
def yX7_loopOrEnd : MethodName := ⟨RX7, "loopOrEnd", "(II)V"⟩
abbrev cX7_call : ByteArray := prog_9_method_15_code
def yX7_call : MethodName := ⟨RX7, "call", "(I)V"⟩
abbrev cX7_enter : ByteArray := prog_9_method_16_code
def yX7_enter : MethodName := ⟨RX7, "enter", "(I)V"⟩
abbrev cX7_doPart : ByteArray := prog_9_method_17_code
def yX7_doPart : MethodName := ⟨RX7, "doPart", "(II)V"⟩
abbrev cX7_end : ByteArray := prog_9_method_18_code
def yX7_end : MethodName := ⟨RX7, "end", "(I)V"⟩
abbrev cX7_raise : ByteArray := prog_9_method_19_code
def yX7_raise : MethodName := ⟨RX7, "raise", "(II)V"⟩
abbrev cX7_doAtOnce : ByteArray := prog_9_method_20_code
def yX7_doAtOnce : MethodName := ⟨RX7, "doAtOnce", "(IIII)V"⟩
abbrev cX7_calculate : ByteArray := prog_9_method_21_code
def yX7_calculate : MethodName := ⟨RX7, "calculate", "(IIII)V"⟩
abbrev cX7_divide : ByteArray := prog_9_method_22_code
def yX7_divide : MethodName := ⟨RX7, "divide", "(IIII)V"⟩
abbrev cX7_doWithRow : ByteArray := prog_9_method_23_code
def yX7_doWithRow : MethodName := ⟨RX7, "doWithRow", "(IIII)V"⟩
abbrev cX7_makeRow : ByteArray := prog_9_method_24_code
def yX7_makeRow : MethodName := ⟨RX7, "makeRow", "(II)V"⟩
abbrev cX7_measureRow : ByteArray := prog_9_method_25_code
def yX7_measureRow : MethodName := ⟨RX7, "measureRow", "(II)V"⟩
abbrev cX7_reaches : ByteArray := prog_9_method_26_code
def yX7_reaches : MethodName := ⟨RX7, "reaches", "(II)Z"⟩
def RX8 : String := "MarkedRuns$Sort"
def TX8 : u_T := fun k => match k with
  | _ => ("", "", "", false)
def tyX8 : Nat → FieldType := fun k => match k with
  | _ => .int
abbrev wsX80 : List Cond := u_ws RX8 TX8 0
theorem nmX8 : ∀ a, a < 0 → ∀ b, b < 0 → a ≠ b → (TX8 a).2.1 ≠ (TX8 b).2.1 := by decide +kernel
theorem tyX8_ok : ∀ k, k < 0 → parseFieldDescriptor (TX8 k).2.2.1 = some (tyX8 k) := by decide +kernel
def RX9 : String := "MarkedRuns"
def TX9 : u_T := fun k => match k with
  | 0 => ("MarkedRuns", "program", "LMarkedRuns$Program;", true)
  | 1 => ("MarkedRuns", "runsByAnswer", "[I", true)
  | 2 => ("MarkedRuns", "latest", "LMarkedRuns$Run;", false)
  | _ => ("MarkedRuns", "earlier", "LMarkedRuns$Run;", false)
def tyX9 : Nat → FieldType := fun k => match k with
  | 0 => .object "MarkedRuns$Program"
  | 1 => .array .int
  | 2 => .object "MarkedRuns$Run"
  | _ => .object "MarkedRuns$Run"
abbrev wsX90 : List Cond := u_ws RX9 TX9 4
theorem nmX9 : ∀ a, a < 4 → ∀ b, b < 4 → a ≠ b → (TX9 a).2.1 ≠ (TX9 b).2.1 := by decide +kernel
theorem tyX9_ok : ∀ k, k < 4 → parseFieldDescriptor (TX9 k).2.2.1 = some (tyX9 k) := by decide +kernel
abbrev cX9_init : ByteArray := prog_1_method_1_code
def yX9_init : MethodName := ⟨RX9, "<init>", "()V"⟩
abbrev cX9_make : ByteArray := prog_1_method_2_code
def yX9_make : MethodName := ⟨RX9, "make", "(IIII)I"⟩
abbrev cX9_drop : ByteArray := prog_1_method_3_code
def yX9_drop : MethodName := ⟨RX9, "drop", "()I"⟩
abbrev cX9_body : ByteArray := prog_1_method_4_code
def yX9_body : MethodName := ⟨RX9, "body", "(II)I"⟩
abbrev cX9_run : ByteArray := prog_1_method_5_code
def yX9_run : MethodName := ⟨RX9, "run", "(III)I"⟩
abbrev cX9_told : ByteArray := prog_1_method_6_code
def yX9_told : MethodName := ⟨RX9, "told", "(I)I"⟩
abbrev cX9_marks : ByteArray := prog_1_method_7_code
def yX9_marks : MethodName := ⟨RX9, "marks", "(I)I"⟩
abbrev cX9_began : ByteArray := prog_1_method_8_code
def yX9_began : MethodName := ⟨RX9, "began", "(I)I"⟩
abbrev cX9_variable : ByteArray := prog_1_method_9_code
def yX9_variable : MethodName := ⟨RX9, "variable", "(I)I"⟩
abbrev cX9_size : ByteArray := prog_1_method_10_code
def yX9_size : MethodName := ⟨RX9, "size", "(I)I"⟩
abbrev cX9_item : ByteArray := prog_1_method_11_code
def yX9_item : MethodName := ⟨RX9, "item", "(II)I"⟩
abbrev cX9_same : ByteArray := prog_1_method_12_code
def yX9_same : MethodName := ⟨RX9, "same", "(IIII)I"⟩
abbrev cX9_count : ByteArray := prog_1_method_13_code
def yX9_count : MethodName := ⟨RX9, "count", "(I)I"⟩
abbrev cX9_counted : ByteArray := prog_1_method_14_code
def yX9_counted : MethodName := ⟨RX9, "counted", "(I)I"⟩
abbrev cX9_isBudget : ByteArray := prog_1_method_15_code
def yX9_isBudget : MethodName := ⟨RX9, "isBudget", "(I)Z"⟩
abbrev cX9_isBelow : ByteArray := prog_1_method_16_code
def yX9_isBelow : MethodName := ⟨RX9, "isBelow", "(II)Z"⟩
def RX10 : String := "MarkedRunsModel"
def TX10 : u_T := fun k => match k with
  | 0 => ("MarkedRunsModel", "thrown", "I", false)
  | 1 => ("MarkedRunsModel", "many", "I", false)
  | 2 => ("MarkedRunsModel", "sort", "[I", true)
  | 3 => ("MarkedRunsModel", "partA", "[I", true)
  | 4 => ("MarkedRunsModel", "partB", "[I", true)
  | 5 => ("MarkedRunsModel", "partC", "[I", true)
  | 6 => ("MarkedRunsModel", "height", "[I", true)
  | 7 => ("MarkedRunsModel", "bodies", "[I", true)
  | 8 => ("MarkedRunsModel", "variable", "[I", true)
  | 9 => ("MarkedRunsModel", "row", "[I", true)
  | 10 => ("MarkedRunsModel", "lock", "[I", true)
  | 11 => ("MarkedRunsModel", "rows", "I", false)
  | 12 => ("MarkedRunsModel", "rowMany", "[I", true)
  | 13 => ("MarkedRunsModel", "rowAt", "[I", true)
  | 14 => ("MarkedRunsModel", "cells", "I", false)
  | 15 => ("MarkedRunsModel", "cell", "[I", true)
  | 16 => ("MarkedRunsModel", "budget", "I", false)
  | 17 => ("MarkedRunsModel", "reserve", "I", false)
  | 18 => ("MarkedRunsModel", "paid", "I", false)
  | 19 => ("MarkedRunsModel", "paidReserve", "I", false)
  | 20 => ("MarkedRunsModel", "marked", "[I", true)
  | 21 => ("MarkedRunsModel", "logged", "I", false)
  | 22 => ("MarkedRunsModel", "log", "[I", true)
  | 23 => ("MarkedRunsModel", "result", "I", false)
  | 24 => ("MarkedRunsModel", "mostMethods", "I", false)
  | 25 => ("MarkedRunsModel", "mostLocks", "I", false)
  | 26 => ("MarkedRunsModel", "answer", "I", false)
  | 27 => ("MarkedRunsModel", "kind", "I", false)
  | 28 => ("MarkedRunsModel", "number", "I", false)
  | 29 => ("MarkedRunsModel", "runs", "[I", true)
  | 30 => ("MarkedRunsModel", "high", "I", false)
  | 31 => ("MarkedRunsModel", "frame", "[I", true)
  | 32 => ("MarkedRunsModel", "phase", "[I", true)
  | 33 => ("MarkedRunsModel", "wasState", "[I", true)
  | 34 => ("MarkedRunsModel", "wasKind", "[I", true)
  | 35 => ("MarkedRunsModel", "wasNumber", "[I", true)
  | 36 => ("MarkedRunsModel", "methods", "I", false)
  | 37 => ("MarkedRunsModel", "state", "I", false)
  | 38 => ("MarkedRunsModel", "reserved", "I", false)
  | 39 => ("MarkedRunsModel", "first", "[I", true)
  | _ => ("MarkedRunsModel", "firstCell", "[I", true)
def tyX10 : Nat → FieldType := fun k => match k with
  | 0 => .int
  | 1 => .int
  | 2 => .array .int
  | 3 => .array .int
  | 4 => .array .int
  | 5 => .array .int
  | 6 => .array .int
  | 7 => .array .int
  | 8 => .array .int
  | 9 => .array .int
  | 10 => .array .int
  | 11 => .int
  | 12 => .array .int
  | 13 => .array .int
  | 14 => .int
  | 15 => .array .int
  | 16 => .int
  | 17 => .int
  | 18 => .int
  | 19 => .int
  | 20 => .array .int
  | 21 => .int
  | 22 => .array .int
  | 23 => .int
  | 24 => .int
  | 25 => .int
  | 26 => .int
  | 27 => .int
  | 28 => .int
  | 29 => .array .int
  | 30 => .int
  | 31 => .array .int
  | 32 => .array .int
  | 33 => .array .int
  | 34 => .array .int
  | 35 => .array .int
  | 36 => .int
  | 37 => .int
  | 38 => .int
  | 39 => .array .int
  | _ => .array .int
abbrev wsX100 : List Cond := u_ws RX10 TX10 41
theorem nmX10 : ∀ a, a < 41 → ∀ b, b < 41 → a ≠ b → (TX10 a).2.1 ≠ (TX10 b).2.1 := by decide +kernel
theorem tyX10_ok : ∀ k, k < 41 → parseFieldDescriptor (TX10 k).2.2.1 = some (tyX10 k) := by decide +kernel
abbrev cX10_thrown : ByteArray := prog_12_method_1_code
def yX10_thrown : MethodName := ⟨RX10, "thrown", "()I"⟩
abbrev cX10_fail : ByteArray := prog_12_method_2_code
def yX10_fail : MethodName := ⟨RX10, "fail", "(I)I"⟩
abbrev cX10_init : ByteArray := prog_12_method_3_code
def yX10_init : MethodName := ⟨RX10, "<init>", "()V"⟩
abbrev cX10_isIn : ByteArray := prog_12_method_4_code
def yX10_isIn : MethodName := ⟨RX10, "isIn", "(II)Z"⟩
abbrev cX10_isStatement : ByteArray := prog_12_method_5_code
def yX10_isStatement : MethodName := ⟨RX10, "isStatement", "(I)Z"⟩
abbrev cX10_isRight : ByteArray := prog_12_method_6_code
def yX10_isRight : MethodName := ⟨RX10, "isRight", "(IIII)Z"⟩
abbrev cX10_highest : ByteArray := prog_12_method_7_code
def yX10_highest : MethodName := ⟨RX10, "highest", "(II)I"⟩
abbrev cX10_heightOf : ByteArray := prog_12_method_8_code
def yX10_heightOf : MethodName := ⟨RX10, "heightOf", "(IIII)I"⟩
abbrev cX10_make : ByteArray := prog_12_method_9_code
def yX10_make : MethodName := ⟨RX10, "make", "(IIII)I"⟩
abbrev cX10_drop : ByteArray := prog_12_method_10_code
def yX10_drop : MethodName := ⟨RX10, "drop", "()I"⟩
abbrev cX10_body : ByteArray := prog_12_method_11_code
def yX10_body : MethodName := ⟨RX10, "body", "(II)I"⟩
abbrev cX10_push : ByteArray := prog_12_method_12_code
def yX10_push : MethodName := ⟨RX10, "push", "(I)V"⟩
abbrev cX10_comes : ByteArray := prog_12_method_13_code
def yX10_comes : MethodName := ⟨RX10, "comes", "(I)V"⟩
abbrev cX10_throwing : ByteArray := prog_12_method_14_code
def yX10_throwing : MethodName := ⟨RX10, "throwing", "(II)V"⟩
abbrev cX10_pays : ByteArray := prog_12_method_15_code
def yX10_pays : MethodName := ⟨RX10, "pays", "(II)Z"⟩
abbrev cX10_endReserve : ByteArray := prog_12_method_16_code
def yX10_endReserve : MethodName := ⟨RX10, "endReserve", "()V"⟩
abbrev cX10_leave : ByteArray := prog_12_method_17_code
def yX10_leave : MethodName := ⟨RX10, "leave", "(I)V"⟩
abbrev cX10_note : ByteArray := prog_12_method_18_code
def yX10_note : MethodName := ⟨RX10, "note", "(I)V"⟩
abbrev cX10_reckon : ByteArray := prog_12_method_19_code
def yX10_reckon : MethodName := ⟨RX10, "reckon", "(I)V"⟩
abbrev cX10_making : ByteArray := prog_12_method_20_code
def yX10_making : MethodName := ⟨RX10, "making", "(I)V"⟩
abbrev cX10_has : ByteArray := prog_12_method_21_code
def yX10_has : MethodName := ⟨RX10, "has", "(II)Z"⟩
abbrev cX10_simple : ByteArray := prog_12_method_22_code
def yX10_simple : MethodName := ⟨RX10, "simple", "(I)V"⟩
abbrev cX10_calls : ByteArray := prog_12_method_23_code
def yX10_calls : MethodName := ⟨RX10, "calls", "(I)V"⟩
abbrev cX10_enter : ByteArray := prog_12_method_24_code
def yX10_enter : MethodName := ⟨RX10, "enter", "(I)V"⟩
abbrev cX10_locks : ByteArray := prog_12_method_25_code
def yX10_locks : MethodName := ⟨RX10, "locks", "(I)V"⟩
abbrev cX10_begin : ByteArray := prog_12_method_26_code
def yX10_begin : MethodName := ⟨RX10, "begin", "()V"⟩
abbrev cX10_second : ByteArray := prog_12_method_27_code
def yX10_second : MethodName := ⟨RX10, "second", "(I)V"⟩
abbrev cX10_handles : ByteArray := prog_12_method_28_code
def yX10_handles : MethodName := ⟨RX10, "handles", "(I)V"⟩
abbrev cX10_finalOf : ByteArray := prog_12_method_29_code
def yX10_finalOf : MethodName := ⟨RX10, "finalOf", "(I)V"⟩
abbrev cX10_lastDone : ByteArray := prog_12_method_30_code
def yX10_lastDone : MethodName := ⟨RX10, "lastDone", "()V"⟩
abbrev cX10_tell : ByteArray := prog_12_method_31_code
def yX10_tell : MethodName := ⟨RX10, "tell", "()V"⟩
abbrev cX10_reset : ByteArray := prog_12_method_32_code
def yX10_reset : MethodName := ⟨RX10, "reset", "(II)V"⟩
abbrev cX10_isRun : ByteArray := prog_12_method_33_code
def yX10_isRun : MethodName := ⟨RX10, "isRun", "(II)Z"⟩
abbrev cX10_runs : ByteArray := prog_12_method_34_code
def yX10_runs : MethodName := ⟨RX10, "runs", "(III)I"⟩
abbrev cX10_run : ByteArray := prog_12_method_35_code
def yX10_run : MethodName := ⟨RX10, "run", "(III)I"⟩
abbrev cX10_told : ByteArray := prog_12_method_36_code
def yX10_told : MethodName := ⟨RX10, "told", "(I)I"⟩
abbrev cX10_marks : ByteArray := prog_12_method_37_code
def yX10_marks : MethodName := ⟨RX10, "marks", "(I)I"⟩
abbrev cX10_began : ByteArray := prog_12_method_38_code
def yX10_began : MethodName := ⟨RX10, "began", "(I)I"⟩
abbrev cX10_variable : ByteArray := prog_12_method_39_code
def yX10_variable : MethodName := ⟨RX10, "variable", "(I)I"⟩
abbrev cX10_size : ByteArray := prog_12_method_40_code
def yX10_size : MethodName := ⟨RX10, "size", "(I)I"⟩
abbrev cX10_item : ByteArray := prog_12_method_41_code
def yX10_item : MethodName := ⟨RX10, "item", "(II)I"⟩
abbrev cX10_same : ByteArray := prog_12_method_42_code
def yX10_same : MethodName := ⟨RX10, "same", "(IIII)I"⟩
abbrev cX10_count : ByteArray := prog_12_method_43_code
def yX10_count : MethodName := ⟨RX10, "count", "(I)I"⟩
def RJx00060 : String := "java/lang/ArrayIndexOutOfBoundsException"
def TJx00060 : u_T := fun k => match k with
  | 0 => ("java/lang/Throwable", "backtrace", "Ljava/lang/Object;", false)
  | 1 => ("java/lang/Throwable", "detailMessage", "Ljava/lang/String;", false)
  | 2 => ("java/lang/Throwable", "cause", "Ljava/lang/Throwable;", false)
  | 3 => ("java/lang/Throwable", "stackTrace", "[Ljava/lang/StackTraceElement;", false)
  | 4 => ("java/lang/Throwable", "depth", "I", false)
  | _ => ("java/lang/Throwable", "suppressedExceptions", "Ljava/util/List;", false)
def tyJx00060 : Nat → FieldType := fun k => match k with
  | 0 => .object "java/lang/Object"
  | 1 => .object "java/lang/String"
  | 2 => .object "java/lang/Throwable"
  | 3 => .array (.object "java/lang/StackTraceElement")
  | 4 => .int
  | _ => .object "java/util/List"
abbrev wsJx000600 : List Cond := u_ws RJx00060 TJx00060 6
theorem nmJx00060 : ∀ a, a < 6 → ∀ b, b < 6 → a ≠ b → (TJx00060 a).2.1 ≠ (TJx00060 b).2.1 := by decide +kernel
theorem tyJx00060_ok : ∀ k, k < 6 → parseFieldDescriptor (TJx00060 k).2.2.1 = some (tyJx00060 k) := by decide +kernel
abbrev cJx00060_init_a7421 : ByteArray := prog_13_method_2_code
def yJx00060_init_a7421 : MethodName := ⟨RJx00060, "<init>", "(Ljava/lang/String;)V"⟩
def RJ9 : String := "java/lang/Math"
def TJ9 : u_T := fun k => match k with
  | _ => ("", "", "", false)
def tyJ9 : Nat → FieldType := fun k => match k with
  | _ => .int
abbrev wsJ90 : List Cond := u_ws RJ9 TJ9 0
theorem nmJ9 : ∀ a, a < 0 → ∀ b, b < 0 → a ≠ b → (TJ9 a).2.1 ≠ (TJ9 b).2.1 := by decide +kernel
theorem tyJ9_ok : ∀ k, k < 0 → parseFieldDescriptor (TJ9 k).2.2.1 = some (tyJ9 k) := by decide +kernel
abbrev cJ9_max_7cf53 : ByteArray := prog_16_method_65_code
def yJ9_max_7cf53 : MethodName := ⟨RJ9, "max", "(II)I"⟩
def RJx5d777 : String := "java/lang/NullPointerException"
def TJx5d777 : u_T := fun k => match k with
  | 0 => ("java/lang/Throwable", "backtrace", "Ljava/lang/Object;", false)
  | 1 => ("java/lang/Throwable", "detailMessage", "Ljava/lang/String;", false)
  | 2 => ("java/lang/Throwable", "cause", "Ljava/lang/Throwable;", false)
  | 3 => ("java/lang/Throwable", "stackTrace", "[Ljava/lang/StackTraceElement;", false)
  | 4 => ("java/lang/Throwable", "depth", "I", false)
  | 5 => ("java/lang/Throwable", "suppressedExceptions", "Ljava/util/List;", false)
  | 6 => ("java/lang/NullPointerException", "extendedMessageState", "I", false)
  | _ => ("java/lang/NullPointerException", "extendedMessage", "Ljava/lang/String;", false)
def tyJx5d777 : Nat → FieldType := fun k => match k with
  | 0 => .object "java/lang/Object"
  | 1 => .object "java/lang/String"
  | 2 => .object "java/lang/Throwable"
  | 3 => .array (.object "java/lang/StackTraceElement")
  | 4 => .int
  | 5 => .object "java/util/List"
  | 6 => .int
  | _ => .object "java/lang/String"
abbrev wsJx5d7770 : List Cond := u_ws RJx5d777 TJx5d777 8
theorem nmJx5d777 : ∀ a, a < 8 → ∀ b, b < 8 → a ≠ b → (TJx5d777 a).2.1 ≠ (TJx5d777 b).2.1 := by decide +kernel
theorem tyJx5d777_ok : ∀ k, k < 8 → parseFieldDescriptor (TJx5d777 k).2.2.1 = some (tyJx5d777 k) := by decide +kernel
abbrev cJx5d777_init_da8c8 : ByteArray := prog_17_method_1_code
def yJx5d777_init_da8c8 : MethodName := ⟨RJx5d777, "<init>", "()V"⟩
abbrev cJx5d777_init_a7421 : ByteArray := prog_17_method_2_code
def yJx5d777_init_a7421 : MethodName := ⟨RJx5d777, "<init>", "(Ljava/lang/String;)V"⟩
abbrev cJx5d777_fillInStackTrace_cddbd : ByteArray := prog_17_method_3_code
def yJx5d777_fillInStackTrace_cddbd : MethodName := ⟨RJx5d777, "fillInStackTrace", "()Ljava/lang/Throwable;"⟩
def RJ0 : String := "java/lang/String"
def TJ0 : u_T := fun k => match k with
  | 0 => ("java/lang/String", "value", "[B", true)
  | _ => ("java/lang/String", "coder", "B", true)
def tyJ0 : Nat → FieldType := fun k => match k with
  | 0 => .array .byte
  | _ => .byte
abbrev wsJ00 : List Cond := u_ws RJ0 TJ0 2
theorem nmJ0 : ∀ a, a < 2 → ∀ b, b < 2 → a ≠ b → (TJ0 a).2.1 ≠ (TJ0 b).2.1 := by decide +kernel
theorem tyJ0_ok : ∀ k, k < 2 → parseFieldDescriptor (TJ0 k).2.2.1 = some (tyJ0 k) := by decide +kernel
def RJ7 : String := "java/util/Arrays"
def TJ7 : u_T := fun k => match k with
  | _ => ("", "", "", false)
def tyJ7 : Nat → FieldType := fun k => match k with
  | _ => .int
abbrev wsJ70 : List Cond := u_ws RJ7 TJ7 0
theorem nmJ7 : ∀ a, a < 0 → ∀ b, b < 0 → a ≠ b → (TJ7 a).2.1 ≠ (TJ7 b).2.1 := by decide +kernel
theorem tyJ7_ok : ∀ k, k < 0 → parseFieldDescriptor (TJ7 k).2.2.1 = some (tyJ7 k) := by decide +kernel
abbrev cJ7_fill_53178 : ByteArray := prog_21_method_103_code
def yJ7_fill_53178 : MethodName := ⟨RJ7, "fill", "([II)V"⟩
def RL : String := "MarkedRunsLaw"
abbrev cL_item : ByteArray := method_3_code
def yL_item : MethodName := ⟨RL, "item", "(LMarkedRuns;II[J)I"⟩
abbrev cL_law : ByteArray := code
def yL_law : MethodName := ⟨RL, "law", "([I)Z"⟩
end
section
/-! ===== the little machine: cells by number, a layout that stays, a store S of ints by (100 * cell + slot) and index ===== -/
abbrev Sx : Type := Nat → Nat → Int32
abbrev Slt : Type := Option (Option Nat)
abbrev Lc : Type := Nat ⊕ (Nat × List Slt)
abbrev Lay : Type := List Lc
abbrev AL : Type := List (Option Value)
abbrev MK : Type := MethodName × ByteArray × Nat × Option FieldType
def xcl : List vw_C := [(RX0, TX0, 6), (RX2, TX2, 2), (RX4, TX4, 6), (RX5, TX5, 7), (RX6, TX6, 8), (RX7, TX7, 11), (RX9, TX9, 4), (RX10, TX10, 41)]
def TT : List Cond := lw_tbl.filter goodWord
/-- one int of the store changes -/
def sw (S : Sx) (f i : Nat) (v : Int32) : Sx := fun g j => if g = f then (if j = i then v else S g j) else S g j
def cv (ad : List Nat) (v : Value) : Value := match v with
  | .ref k => .ref (ad.getD k 0)
  | w => w
def slv (S : Sx) (f : Nat) (x : Slt) : Value := match x with
  | none => .int (S f 0)
  | some (some k) => .ref k
  | some none => .ref (S f 0).toNatClampNeg
def ce (cA : ClassId) (ad : List Nat) (S : Sx) (b : Nat) (c : Lc) : va_E := match c with
  | .inl n => .inl (cA, n, .inl (S (100 * b)))
  | .inr o => .inr (o.1, o.2.mapIdx (fun j x => cv ad (slv S (100 * b + j) x)))
def cw (cA : ClassId) (ad : List Nat) (lay : Lay) (S : Sx) : va_W := lay.mapIdx (fun b c => (ad.getD b 0, ce cA ad S b c))
theorem cw_get {cA : ClassId} {ad : List Nat} {lay : Lay} {S : Sx} {b : Nat} {c : Lc} (h : lay[b]? = some c) : (cw cA ad lay S)[b]? = some (ad.getD b 0, ce cA ad S b c) := by
  simp [cw, List.getElem?_mapIdx, h]
def okL (lay : Lay) : Bool := lay.all (fun c => match c with | .inl _ => true | .inr o => decide (o.2.length < 100))
theorem ce_other {cA : ClassId} {ad : List Nat} {S : Sx} {b b' j i : Nat} {c : Lc} {v : Int32} (hc : ∀ o, c = .inr o → o.2.length < 100) (hj : j < 100) (hb : b' ≠ b) : ce cA ad (sw S (100 * b + j) i v) b' c = ce cA ad S b' c := by
  cases c with
  | inl n =>
    simp only [ce]
    congr 4
    funext z
    simp only [sw]
    rw [if_neg (by omega)]
  | inr o =>
    simp only [ce]
    congr 2
    apply List.mapIdx_eq_mapIdx_iff.mpr
    intro z hz
    have h1 := hc o rfl
    have e : slv (sw S (100 * b + j) i v) (100 * b' + z) o.2[z] = slv S (100 * b' + z) o.2[z] := by
      unfold slv sw
      rw [if_neg (by omega)]
    rw [e]
theorem cw_set {cA : ClassId} {ad : List Nat} {lay : Lay} {S : Sx} {b j i : Nat} {c : Lc} {v : Int32} {E : va_E} (hok : okL lay = true) (hj : j < 100) (h : lay[b]? = some c) (hE : E = ce cA ad (sw S (100 * b + j) i v) b c) : (cw cA ad lay S).set b (ad.getD b 0, E) = cw cA ad lay (sw S (100 * b + j) i v) := by
  apply List.ext_getElem?
  intro k
  rw [List.getElem?_set]
  have hlen : (cw cA ad lay S).length = lay.length := by simp [cw]
  have hb : b < lay.length := (List.getElem?_eq_some_iff.mp h).1
  by_cases hk : b = k
  · subst hk
    rw [if_pos rfl, if_pos (by rw [hlen]; exact hb), cw_get h, hE]
  · rw [if_neg hk]
    cases hc : lay[k]? with
    | none =>
      have : lay.length ≤ k := by simpa using hc
      simp [cw, List.getElem?_mapIdx, hc]
    | some ck =>
      rw [cw_get hc, cw_get hc, ce_other _ hj (fun e => hk e.symm)]
      intro o ho
      have := List.all_eq_true.mp hok ck (List.mem_of_getElem? hc)
      rw [ho] at this
      simpa using this
/-- locals by place -/
def LR (ad : List Nat) (ls : AL) (nL : Nat) (lsA : Array Slot) : Prop := lsA.size = nL ∧ lv_wf lsA ∧ ∀ (i : Nat) (v : Value), ls[i]? = some (some v) → v.category = 1 ∧ lsA[i]? = some (.val (cv ad v))
theorem cv_cat (ad : List Nat) (v : Value) : (cv ad v).category = v.category := by cases v <;> rfl
def LRl (ad : List Nat) (ls : AL) : List (Nat × Value) := (ls.mapIdx (fun i o => (i, o))).filterMap (fun q => q.2.map (fun v => (q.1, cv ad v)))
theorem LRl_mem {ad : List Nat} {ls : AL} {q : Nat × Value} : q ∈ LRl ad ls ↔ ∃ v, ls[q.1]? = some (some v) ∧ q.2 = cv ad v := by
  unfold LRl
  rw [List.mem_filterMap]
  constructor
  · rintro ⟨⟨i, o⟩, h1, h2⟩
    obtain ⟨j, hj⟩ := List.mem_iff_getElem?.mp h1
    rw [List.getElem?_mapIdx] at hj
    cases ho : ls[j]? with
    | none => rw [ho] at hj; cases hj
    | some o' =>
      rw [ho] at hj
      obtain ⟨rfl, rfl⟩ : j = i ∧ o' = o := by simpa using hj
      cases o' with
      | none => simp at h2
      | some v =>
        obtain rfl : (j, cv ad v) = q := by simpa using h2
        exact ⟨v, ho, rfl⟩
  · rintro ⟨v, h1, h2⟩
    refine ⟨(q.1, some v), ?_, ?_⟩
    · refine List.mem_iff_getElem?.mpr ⟨q.1, ?_⟩
      rw [List.getElem?_mapIdx, h1]
      rfl
    · cases q with
      | mk a b =>
        simp only at h2
        simp [h2]
theorem LR.has {ad : List Nat} {ls : AL} {nL : Nat} {lsA : Array Slot} (h : LR ad ls nL lsA) : lv_has lsA nL (LRl ad ls) := by
  refine ⟨h.1, h.2.1, fun q hq => ?_⟩
  obtain ⟨v, h1, h2⟩ := LRl_mem.mp hq
  rw [h2]
  exact (h.2.2 _ _ h1).2
theorem LR.set {ad : List Nat} {ls : AL} {nL i : Nat} {lsA lsB : Array Slot} {v : Value} (h : LR ad ls nL lsA) (hc : v.category = 1) (hB : lv_has lsB nL ((i, cv ad v) :: (LRl ad ls).filter (fun q => !(q.1 == i) && !(q.1 + 1 == i && q.2.category == 2)))) : LR ad (ls.set i (some v)) nL lsB := by
  refine ⟨hB.1, hB.2.1, fun j w hj => ?_⟩
  rw [List.getElem?_set] at hj
  by_cases hij : i = j
  · subst hij
    rw [if_pos rfl] at hj
    split at hj
    · obtain rfl : v = w := by simpa using hj
      exact ⟨hc, hB.2.2 (i, cv ad v) List.mem_cons_self⟩
    · cases hj
  · rw [if_neg hij] at hj
    have hw := h.2.2 j w hj
    refine ⟨hw.1, hB.2.2 (j, cv ad w) (List.mem_cons_of_mem _ (List.mem_filter.mpr ⟨LRl_mem.mpr ⟨w, hj, rfl⟩, ?_⟩))⟩
    have : ¬ j = i := fun e => hij e.symm
    simp [this, cv_cat, hw.1]
theorem LR.weaken {ad : List Nat} {ls ls' : AL} {nL : Nat} {lsA : Array Slot} (h : LR ad ls nL lsA) (hs : ∀ (i : Nat) (v : Value), ls'[i]? = some (some v) → ls[i]? = some (some v)) : LR ad ls' nL lsA := ⟨h.1, h.2.1, fun i v hi => h.2.2 i v (hs i v hi)⟩
/-- what stands of a method's code and tables while it runs -/
def Cx (k : MK) (p : Program) (s : State) (m : MethodId) (args : Array Value) (meth : Method) (c : Code) : Prop :=
  p.tables.exec = Jvm.exec ∧ c.code = k.2.1 ∧ meth.sig.returnType = k.2.2.2 ∧ c.maxLocals = k.2.2.1 ∧ s.vm.findClass k.1.cls = some m.cls ∧ (∀ w ∈ TT, w.before args s = true) ∧ meth.locks = false
/-- the world of a layout -/
def Wd (dC : Nat → ClassId) (dI : Nat → Nat → Nat) (cA : ClassId) (ad : List Nat) (A : Nat → Prop) (s : State) (lay : Lay) (S : Sx) (H : Heap) (locs : List Loc) : Prop :=
  va_K (dC, dI) xcl [(cA, .int)] s ∧ va_P (dC, dI) xcl (cw cA ad lay S) H ∧ va_D A (cw cA ad lay S) ∧ va_S A s.heap H locs ∧ ∀ q, s.heap.size ≤ q → A q
def QQ (dC : Nat → ClassId) (dI : Nat → Nat → Nat) (cA : ClassId) (ad : List Nat) (A : Nat → Prop) (lay : Lay) (Q : Option Value → Sx → Prop) : Array Value → State → Outcome → State → Prop := fun _ st o t =>
  (∃ (r : Option Value) (S : Sx), o = .returned (r.map (cv ad)) ∧ Q r S ∧ va_P (dC, dI) xcl (cw cA ad lay S) t.heap ∧ va_K (dC, dI) xcl [(cA, .int)] t ∧ va_D A (cw cA ad lay S)) ∧ va_F A st t
def rmD (d : Nat) : Room := { frames := d, cells := 0, slots := 0, locals := 40 * d }
/-- within method k at pc, with these locals, stack and store: it comes to an end with Q -/
def AJ (d : Nat) (k : MK) (lay : Lay) (pc : Nat) (ls : AL) (st : List Value) (S : Sx) (Q : Option Value → Sx → Prop) : Prop :=
  ∀ (p : Program) (l : Launch) (e : Env) (s : State) (m : MethodId) (args : Array Value) (below : List Frame) (meth : Method) (c : Code) (dC : Nat → ClassId) (dI : Nat → Nat → Nat) (cA : ClassId) (ad : List Nat) (A : Nat → Prop) (H : Heap) (locs : List Loc) (lsA : Array Slot),
    Cx k p s m args meth c → Wd dC dI cA ad A s lay S H locs → LR ad ls k.2.2.1 lsA →
    W p l e (rmD d) s m args below meth c H locs 0 0 (MQ below (QQ dC dI cA ad A lay Q) args s 0 0 A) (F0 m pc lsA (st.map (cv ad)))
def wsK (k : MK) : List Cond := Cond.code k.1 k.2.1 k.2.2.1 k.2.2.2 :: TT
def PP (dC : Nat → ClassId) (dI : Nat → Nat → Nat) (cA : ClassId) (ad : List Nat) (lay : Lay) (S : Sx) (sz : Nat) : State → Prop := fun U => U.heap.size = sz ∧ va_P (dC, dI) xcl (cw cA ad lay S) U.heap ∧ va_K (dC, dI) xcl [(cA, .int)] U ∧ va_D (fun _ => True) (cw cA ad lay S)
/-- method k, called with av over the layout and the store: it returns with Q -/
def CC (d : Nat) (k : MK) (lay : Lay) (av : List Value) (S : Sx) (Q : Option Value → Sx → Prop) : Prop :=
  ∀ (l : Launch) (dC : Nat → ClassId) (dI : Nat → Nat → Nat) (cA : ClassId) (ad : List Nat) (sz : Nat),
    Met l k.1 (wsK k) (rmD d) (va_Pc (av.map (cv ad)) (PP dC dI cA ad lay S sz)) (QQ dC dI cA ad (va_A (cw cA ad lay S) sz) lay Q) 0 0 (va_A (cw cA ad lay S) sz)
theorem lv_args_mem {ad : List Nat} : ∀ (vs : List Value) (i j : Nat) (v : Value), (∀ w ∈ vs, w.category = 1) → vs[j]? = some v → (i + j, cv ad v) ∈ lv_args i (vs.map (cv ad)) := by
  intro vs
  induction vs with
  | nil => intro i j v _ h; simp at h
  | cons a t ih =>
    intro i j v hc h
    have ha : (cv ad a).category = 1 := by rw [cv_cat]; exact hc a List.mem_cons_self
    simp only [List.map_cons, lv_args]
    rw [if_neg (by omega)]
    cases j with
    | zero =>
      obtain rfl : a = v := by simpa using h
      exact List.mem_cons_self
    | succ j =>
      have := ih (i + 1) j v (fun w hw => hc w (List.mem_cons_of_mem _ hw)) (by simpa using h)
      rw [show i + (j + 1) = i + 1 + j by omega]
      exact List.mem_cons_of_mem _ this
theorem lg_sl_len {ad : List Nat} : ∀ (vs : List Value), (∀ w ∈ vs, w.category = 1) → (lg_sl (vs.map (cv ad))).length = vs.length := by
  intro vs
  induction vs with
  | nil => intro _; rfl
  | cons a t ih =>
    intro hc
    have ha : (cv ad a).category = 1 := by rw [cv_cat]; exact hc a List.mem_cons_self
    have := ih (fun w hw => hc w (List.mem_cons_of_mem _ hw))
    simp only [lg_sl] at this ⊢
    simp only [List.map_cons, List.flatMap_cons, List.length_append, this]
    rw [if_neg (by omega)]
    simp
    omega
theorem cc_intro {d : Nat} {k : MK} {lay : Lay} {av : List Value} {S : Sx} {Q : Option Value → Sx → Prop} (ls : AL) (hy : plainName k.1.cls = true) (hcat : ∀ w ∈ av, w.category = 1) (hlen : av.length ≤ k.2.2.1) (hls : ∀ (i : Nat) (v : Value), ls[i]? = some (some v) → av[i]? = some v)
    (kk : AJ d k lay 0 ls [] S Q) : CC d k lay av S Q := by
  intro l dC dI cA ad sz
  refine Met.ofW (cc := k.2.1) (maxL := k.2.2.1) (ret := k.2.2.2) hy rfl ?_
  intro p e s m args below meth c s₁ B hml hv
  obtain ⟨rfl, hsz, hP, hK, hD0⟩ := hv
  have hts := atoms_spec (ws := wsK k) B.pre
  have hown : s.vm.findClass k.1.cls = some m.cls := findClass_of_methodNamed B.named
  subst hsz
  rw [lg_entry_eq]
  have hl := lv_entry (av.map (cv ad)) (n := k.2.2.1) (by rw [lg_sl_len av hcat]; exact hlen)
  refine kk p l e s m _ below meth c dC dI cA ad _ _ [] _ ⟨B.exec, B.bytes, B.returns, hml, hown, fun w hw => hts w (List.mem_cons_of_mem _ hw), B.notSynchronized⟩ ⟨hK, hP, hD0.self, va_S.rf, fun q hq => Or.inr hq⟩ ⟨hl.1, hl.2.1, fun i v hi => ?_⟩
  have h1 := hls i v hi
  refine ⟨hcat v (List.mem_of_getElem? h1), ?_⟩
  have := hl.2.2 _ (lv_args_mem av 0 i v hcat h1)
  simpa using this
theorem cc_mono {d : Nat} {k : MK} {lay : Lay} {av : List Value} {S : Sx} {Q Q' : Option Value → Sx → Prop} (h : CC d k lay av S Q) (hq : ∀ r S', Q r S' → Q' r S') : CC d k lay av S Q' := by
  intro l dC dI cA ad sz
  have := h l dC dI cA ad sz
  unfold Met at this ⊢
  intro p e ha hc hk s m args below h1 h2 h3 h4
  obtain ⟨kk, o, a1, a2, a3, ⟨⟨r, S', b1, b2, b3⟩, b4⟩, b5⟩ := this p e ha hc hk s m args below h1 h2 h3 h4
  exact ⟨kk, o, a1, a2, a3, ⟨⟨r, S', b1, hq _ _ b2, b3⟩, b4⟩, b5⟩
end
section
section AJR
variable {d : Nat} {k : MK} {lay : Lay} {pc q : Nat} {ls : AL} {st : List Value} {S : Sx} {Q : Option Value → Sx → Prop}

theorem aj_iconst {n : Int} {v : Int32} (hd : decode k.2.1 pc = .ok (.iconst n, 1)) (hq : pc + 1 = q) (hv : Int32.ofInt n = v) (kk : AJ d k lay q ls (.int v :: st) S Q) : AJ d k lay pc ls st S Q := by
  subst hq
  intro p l e s m args below meth c dC dI cA ad A H locs lsA hC hW hL
  exact lv_iconst hC.1 hC.2.1 hd hv (kk p l e s m args below meth c dC dI cA ad A H locs lsA hC hW hL)
theorem aj_bipush {n : Int} {v : Int32} (hd : decode k.2.1 pc = .ok (.bipush n, 2)) (hq : pc + 2 = q) (hv : (Int8.ofInt n).toInt32 = v) (kk : AJ d k lay q ls (.int v :: st) S Q) : AJ d k lay pc ls st S Q := by
  subst hq
  intro p l e s m args below meth c dC dI cA ad A H locs lsA hC hW hL
  exact lv_bipush hC.1 hC.2.1 hd hv (kk p l e s m args below meth c dC dI cA ad A H locs lsA hC hW hL)
theorem aj_sipush {n : Int} {v : Int32} (hd : decode k.2.1 pc = .ok (.sipush n, 3)) (hq : pc + 3 = q) (hv : (Int16.ofInt n).toInt32 = v) (kk : AJ d k lay q ls (.int v :: st) S Q) : AJ d k lay pc ls st S Q := by
  subst hq
  intro p l e s m args below meth c dC dI cA ad A H locs lsA hC hW hL
  exact lv_sipush hC.1 hC.2.1 hd hv (kk p l e s m args below meth c dC dI cA ad A H locs lsA hC hW hL)
theorem aj_iload_n {j : Fin 4} {i : Nat} {x : Int32} (hd : decode k.2.1 pc = .ok (.iload_n j, 1)) (hq : pc + 1 = q) (hi : (j : Nat) = i) (hl : ls[i]? = some (some (.int x))) (kk : AJ d k lay q ls (.int x :: st) S Q) : AJ d k lay pc ls st S Q := by
  subst hq
  intro p l e s m args below meth c dC dI cA ad A H locs lsA hC hW hL
  exact lv_iload_n hC.1 hC.2.1 hd hi (hL.2.2 i _ hl).2 (kk p l e s m args below meth c dC dI cA ad A H locs lsA hC hW hL)
theorem aj_iload {i : Nat} {x : Int32} (hd : decode k.2.1 pc = .ok (.iload i, 2)) (hq : pc + 2 = q) (hl : ls[i]? = some (some (.int x))) (kk : AJ d k lay q ls (.int x :: st) S Q) : AJ d k lay pc ls st S Q := by
  subst hq
  intro p l e s m args below meth c dC dI cA ad A H locs lsA hC hW hL
  exact lv_iload hC.1 hC.2.1 hd (hL.2.2 i _ hl).2 (kk p l e s m args below meth c dC dI cA ad A H locs lsA hC hW hL)
theorem aj_aload_n {j : Fin 4} {i : Nat} {x : Nat} (hd : decode k.2.1 pc = .ok (.aload_n j, 1)) (hq : pc + 1 = q) (hi : (j : Nat) = i) (hl : ls[i]? = some (some (.ref x))) (kk : AJ d k lay q ls (.ref x :: st) S Q) : AJ d k lay pc ls st S Q := by
  subst hq
  intro p l e s m args below meth c dC dI cA ad A H locs lsA hC hW hL
  exact lv_aload_n hC.1 hC.2.1 hd hi (hL.2.2 i _ hl).2 (kk p l e s m args below meth c dC dI cA ad A H locs lsA hC hW hL)
theorem aj_aload {i : Nat} {x : Nat} (hd : decode k.2.1 pc = .ok (.aload i, 2)) (hq : pc + 2 = q) (hl : ls[i]? = some (some (.ref x))) (kk : AJ d k lay q ls (.ref x :: st) S Q) : AJ d k lay pc ls st S Q := by
  subst hq
  intro p l e s m args below meth c dC dI cA ad A H locs lsA hC hW hL
  exact lv_aload hC.1 hC.2.1 hd (hL.2.2 i _ hl).2 (kk p l e s m args below meth c dC dI cA ad A H locs lsA hC hW hL)
theorem aj_istore_n {j : Fin 4} {i : Nat} {x : Int32} {ls' : AL} (hd : decode k.2.1 pc = .ok (.istore_n j, 1)) (hq : pc + 1 = q) (hi : (j : Nat) = i) (hn : i < k.2.2.1) (hl : ls.set i (some (.int x)) = ls') (kk : AJ d k lay q ls' st S Q) : AJ d k lay pc ls (.int x :: st) S Q := by
  subst hq; subst hl
  intro p l e s m args below meth c dC dI cA ad A H locs lsA hC hW hL
  exact lv_istore_n hC.1 hC.2.1 hd hi hL.has hn rfl (fun lsB hB => kk p l e s m args below meth c dC dI cA ad A H locs lsB hC hW (hL.set rfl hB))
theorem aj_istore {i : Nat} {x : Int32} {ls' : AL} (hd : decode k.2.1 pc = .ok (.istore i, 2)) (hq : pc + 2 = q) (hn : i < k.2.2.1) (hl : ls.set i (some (.int x)) = ls') (kk : AJ d k lay q ls' st S Q) : AJ d k lay pc ls (.int x :: st) S Q := by
  subst hq; subst hl
  intro p l e s m args below meth c dC dI cA ad A H locs lsA hC hW hL
  exact lv_istore hC.1 hC.2.1 hd hL.has hn rfl (fun lsB hB => kk p l e s m args below meth c dC dI cA ad A H locs lsB hC hW (hL.set rfl hB))
theorem aj_astore_n {j : Fin 4} {i : Nat} {x : Nat} {ls' : AL} (hd : decode k.2.1 pc = .ok (.astore_n j, 1)) (hq : pc + 1 = q) (hi : (j : Nat) = i) (hn : i < k.2.2.1) (hl : ls.set i (some (.ref x)) = ls') (kk : AJ d k lay q ls' st S Q) : AJ d k lay pc ls (.ref x :: st) S Q := by
  subst hq; subst hl
  intro p l e s m args below meth c dC dI cA ad A H locs lsA hC hW hL
  exact lv_astore_n hC.1 hC.2.1 hd hi hL.has hn rfl (fun lsB hB => kk p l e s m args below meth c dC dI cA ad A H locs lsB hC hW (hL.set rfl hB))
theorem aj_astore {i : Nat} {x : Nat} {ls' : AL} (hd : decode k.2.1 pc = .ok (.astore i, 2)) (hq : pc + 2 = q) (hn : i < k.2.2.1) (hl : ls.set i (some (.ref x)) = ls') (kk : AJ d k lay q ls' st S Q) : AJ d k lay pc ls (.ref x :: st) S Q := by
  subst hq; subst hl
  intro p l e s m args below meth c dC dI cA ad A H locs lsA hC hW hL
  exact lv_astore hC.1 hC.2.1 hd hL.has hn rfl (fun lsB hB => kk p l e s m args below meth c dC dI cA ad A H locs lsB hC hW (hL.set rfl hB))
theorem aj_iinc {i : Nat} {n : Int} {x v : Int32} {ls' : AL} (hd : decode k.2.1 pc = .ok (.iinc i n, 3)) (hq : pc + 3 = q) (hx : ls[i]? = some (some (.int x))) (hv : x + Int32.ofInt n = v) (hn : i < k.2.2.1) (hl : ls.set i (some (.int v)) = ls') (kk : AJ d k lay q ls' st S Q) : AJ d k lay pc ls st S Q := by
  subst hq; subst hl
  intro p l e s m args below meth c dC dI cA ad A H locs lsA hC hW hL
  obtain ⟨z, hz⟩ := List.mem_iff_getElem?.mp (LRl_mem.mpr ⟨.int x, hx, rfl⟩ : (i, cv ad (.int x)) ∈ LRl ad ls)
  exact lv_iinc hC.1 hC.2.1 hd hL.has (k := z) hz hv hn rfl (fun lsB hB => kk p l e s m args below meth c dC dI cA ad A H locs lsB hC hW (hL.set rfl hB))
theorem aj_iadd {x y : Int32} (hd : decode k.2.1 pc = .ok (.iadd, 1)) (hq : pc + 1 = q) (kk : AJ d k lay q ls (.int (x + y) :: st) S Q) : AJ d k lay pc ls (.int y :: .int x :: st) S Q := by
  subst hq
  intro p l e s m args below meth c dC dI cA ad A H locs lsA hC hW hL
  exact lv_iadd hC.1 hC.2.1 hd (kk p l e s m args below meth c dC dI cA ad A H locs lsA hC hW hL)
theorem aj_isub {x y : Int32} (hd : decode k.2.1 pc = .ok (.isub, 1)) (hq : pc + 1 = q) (kk : AJ d k lay q ls (.int (x - y) :: st) S Q) : AJ d k lay pc ls (.int y :: .int x :: st) S Q := by
  subst hq
  intro p l e s m args below meth c dC dI cA ad A H locs lsA hC hW hL
  exact lv_isub hC.1 hC.2.1 hd (kk p l e s m args below meth c dC dI cA ad A H locs lsA hC hW hL)
theorem aj_imul {x y : Int32} (hd : decode k.2.1 pc = .ok (.imul, 1)) (hq : pc + 1 = q) (kk : AJ d k lay q ls (.int (x * y) :: st) S Q) : AJ d k lay pc ls (.int y :: .int x :: st) S Q := by
  subst hq
  intro p l e s m args below meth c dC dI cA ad A H locs lsA hC hW hL
  exact lv_imul hC.1 hC.2.1 hd (kk p l e s m args below meth c dC dI cA ad A H locs lsA hC hW hL)
theorem aj_iand {x y : Int32} (hd : decode k.2.1 pc = .ok (.iand, 1)) (hq : pc + 1 = q) (kk : AJ d k lay q ls (.int (x &&& y) :: st) S Q) : AJ d k lay pc ls (.int y :: .int x :: st) S Q := by
  subst hq
  intro p l e s m args below meth c dC dI cA ad A H locs lsA hC hW hL
  exact lv_iand hC.1 hC.2.1 hd (kk p l e s m args below meth c dC dI cA ad A H locs lsA hC hW hL)
theorem aj_ishr {x y : Int32} (hd : decode k.2.1 pc = .ok (.ishr, 1)) (hq : pc + 1 = q) (kk : AJ d k lay q ls (.int (x >>> (y &&& 31)) :: st) S Q) : AJ d k lay pc ls (.int y :: .int x :: st) S Q := by
  subst hq
  intro p l e s m args below meth c dC dI cA ad A H locs lsA hC hW hL
  exact lv_ishr hC.1 hC.2.1 hd (kk p l e s m args below meth c dC dI cA ad A H locs lsA hC hW hL)
theorem aj_idiv {x y : Int32} (hd : decode k.2.1 pc = .ok (.idiv, 1)) (hq : pc + 1 = q) (hne : ¬ y = 0) (kk : AJ d k lay q ls (.int (x / y) :: st) S Q) : AJ d k lay pc ls (.int y :: .int x :: st) S Q := by
  subst hq
  intro p l e s m args below meth c dC dI cA ad A H locs lsA hC hW hL
  exact lv_idiv hC.1 hC.2.1 hd hne (kk p l e s m args below meth c dC dI cA ad A H locs lsA hC hW hL)
theorem aj_irem {x y : Int32} (hd : decode k.2.1 pc = .ok (.irem, 1)) (hq : pc + 1 = q) (hne : ¬ y = 0) (kk : AJ d k lay q ls (.int (x - x / y * y) :: st) S Q) : AJ d k lay pc ls (.int y :: .int x :: st) S Q := by
  subst hq
  intro p l e s m args below meth c dC dI cA ad A H locs lsA hC hW hL
  exact lv_irem hC.1 hC.2.1 hd hne (kk p l e s m args below meth c dC dI cA ad A H locs lsA hC hW hL)
theorem aj_icmp_eq {x y : Int32} {off : Int} {tgt : Nat} (hd : decode k.2.1 pc = .ok (.if_icmp .eq off, 3)) (hq : pc + 3 = q) (ht : (pc : Int) + off = (tgt : Int)) (kt : x = y → AJ d k lay tgt ls st S Q) (kf : ¬ x = y → AJ d k lay q ls st S Q) : AJ d k lay pc ls (.int y :: .int x :: st) S Q := by
  subst hq
  intro p l e s m args below meth c dC dI cA ad A H locs lsA hC hW hL
  exact lv_icmp_eq hC.1 hC.2.1 hd ht (fun hc => kt hc p l e s m args below meth c dC dI cA ad A H locs lsA hC hW hL) (fun hc => kf hc p l e s m args below meth c dC dI cA ad A H locs lsA hC hW hL)
theorem aj_if_eq {x : Int32} {off : Int} {tgt : Nat} (hd : decode k.2.1 pc = .ok (.ifCond .eq off, 3)) (hq : pc + 3 = q) (ht : (pc : Int) + off = (tgt : Int)) (kt : x = 0 → AJ d k lay tgt ls st S Q) (kf : ¬ x = 0 → AJ d k lay q ls st S Q) : AJ d k lay pc ls (.int x :: st) S Q := by
  subst hq
  intro p l e s m args below meth c dC dI cA ad A H locs lsA hC hW hL
  exact lv_if_eq hC.1 hC.2.1 hd ht (fun hc => kt hc p l e s m args below meth c dC dI cA ad A H locs lsA hC hW hL) (fun hc => kf hc p l e s m args below meth c dC dI cA ad A H locs lsA hC hW hL)
theorem aj_icmp_ne {x y : Int32} {off : Int} {tgt : Nat} (hd : decode k.2.1 pc = .ok (.if_icmp .ne off, 3)) (hq : pc + 3 = q) (ht : (pc : Int) + off = (tgt : Int)) (kt : ¬ x = y → AJ d k lay tgt ls st S Q) (kf : x = y → AJ d k lay q ls st S Q) : AJ d k lay pc ls (.int y :: .int x :: st) S Q := by
  subst hq
  intro p l e s m args below meth c dC dI cA ad A H locs lsA hC hW hL
  exact lv_icmp_ne hC.1 hC.2.1 hd ht (fun hc => kt hc p l e s m args below meth c dC dI cA ad A H locs lsA hC hW hL) (fun hc => kf hc p l e s m args below meth c dC dI cA ad A H locs lsA hC hW hL)
theorem aj_if_ne {x : Int32} {off : Int} {tgt : Nat} (hd : decode k.2.1 pc = .ok (.ifCond .ne off, 3)) (hq : pc + 3 = q) (ht : (pc : Int) + off = (tgt : Int)) (kt : ¬ x = 0 → AJ d k lay tgt ls st S Q) (kf : x = 0 → AJ d k lay q ls st S Q) : AJ d k lay pc ls (.int x :: st) S Q := by
  subst hq
  intro p l e s m args below meth c dC dI cA ad A H locs lsA hC hW hL
  exact lv_if_ne hC.1 hC.2.1 hd ht (fun hc => kt hc p l e s m args below meth c dC dI cA ad A H locs lsA hC hW hL) (fun hc => kf hc p l e s m args below meth c dC dI cA ad A H locs lsA hC hW hL)
theorem aj_icmp_lt {x y : Int32} {off : Int} {tgt : Nat} (hd : decode k.2.1 pc = .ok (.if_icmp .lt off, 3)) (hq : pc + 3 = q) (ht : (pc : Int) + off = (tgt : Int)) (kt : x < y → AJ d k lay tgt ls st S Q) (kf : ¬ x < y → AJ d k lay q ls st S Q) : AJ d k lay pc ls (.int y :: .int x :: st) S Q := by
  subst hq
  intro p l e s m args below meth c dC dI cA ad A H locs lsA hC hW hL
  exact lv_icmp_lt hC.1 hC.2.1 hd ht (fun hc => kt hc p l e s m args below meth c dC dI cA ad A H locs lsA hC hW hL) (fun hc => kf hc p l e s m args below meth c dC dI cA ad A H locs lsA hC hW hL)
theorem aj_if_lt {x : Int32} {off : Int} {tgt : Nat} (hd : decode k.2.1 pc = .ok (.ifCond .lt off, 3)) (hq : pc + 3 = q) (ht : (pc : Int) + off = (tgt : Int)) (kt : x < 0 → AJ d k lay tgt ls st S Q) (kf : ¬ x < 0 → AJ d k lay q ls st S Q) : AJ d k lay pc ls (.int x :: st) S Q := by
  subst hq
  intro p l e s m args below meth c dC dI cA ad A H locs lsA hC hW hL
  exact lv_if_lt hC.1 hC.2.1 hd ht (fun hc => kt hc p l e s m args below meth c dC dI cA ad A H locs lsA hC hW hL) (fun hc => kf hc p l e s m args below meth c dC dI cA ad A H locs lsA hC hW hL)
theorem aj_icmp_ge {x y : Int32} {off : Int} {tgt : Nat} (hd : decode k.2.1 pc = .ok (.if_icmp .ge off, 3)) (hq : pc + 3 = q) (ht : (pc : Int) + off = (tgt : Int)) (kt : y ≤ x → AJ d k lay tgt ls st S Q) (kf : ¬ y ≤ x → AJ d k lay q ls st S Q) : AJ d k lay pc ls (.int y :: .int x :: st) S Q := by
  subst hq
  intro p l e s m args below meth c dC dI cA ad A H locs lsA hC hW hL
  exact lv_icmp_ge hC.1 hC.2.1 hd ht (fun hc => kt hc p l e s m args below meth c dC dI cA ad A H locs lsA hC hW hL) (fun hc => kf hc p l e s m args below meth c dC dI cA ad A H locs lsA hC hW hL)
theorem aj_if_ge {x : Int32} {off : Int} {tgt : Nat} (hd : decode k.2.1 pc = .ok (.ifCond .ge off, 3)) (hq : pc + 3 = q) (ht : (pc : Int) + off = (tgt : Int)) (kt : 0 ≤ x → AJ d k lay tgt ls st S Q) (kf : ¬ 0 ≤ x → AJ d k lay q ls st S Q) : AJ d k lay pc ls (.int x :: st) S Q := by
  subst hq
  intro p l e s m args below meth c dC dI cA ad A H locs lsA hC hW hL
  exact lv_if_ge hC.1 hC.2.1 hd ht (fun hc => kt hc p l e s m args below meth c dC dI cA ad A H locs lsA hC hW hL) (fun hc => kf hc p l e s m args below meth c dC dI cA ad A H locs lsA hC hW hL)
theorem aj_icmp_gt {x y : Int32} {off : Int} {tgt : Nat} (hd : decode k.2.1 pc = .ok (.if_icmp .gt off, 3)) (hq : pc + 3 = q) (ht : (pc : Int) + off = (tgt : Int)) (kt : y < x → AJ d k lay tgt ls st S Q) (kf : ¬ y < x → AJ d k lay q ls st S Q) : AJ d k lay pc ls (.int y :: .int x :: st) S Q := by
  subst hq
  intro p l e s m args below meth c dC dI cA ad A H locs lsA hC hW hL
  exact lv_icmp_gt hC.1 hC.2.1 hd ht (fun hc => kt hc p l e s m args below meth c dC dI cA ad A H locs lsA hC hW hL) (fun hc => kf hc p l e s m args below meth c dC dI cA ad A H locs lsA hC hW hL)
theorem aj_if_gt {x : Int32} {off : Int} {tgt : Nat} (hd : decode k.2.1 pc = .ok (.ifCond .gt off, 3)) (hq : pc + 3 = q) (ht : (pc : Int) + off = (tgt : Int)) (kt : 0 < x → AJ d k lay tgt ls st S Q) (kf : ¬ 0 < x → AJ d k lay q ls st S Q) : AJ d k lay pc ls (.int x :: st) S Q := by
  subst hq
  intro p l e s m args below meth c dC dI cA ad A H locs lsA hC hW hL
  exact lv_if_gt hC.1 hC.2.1 hd ht (fun hc => kt hc p l e s m args below meth c dC dI cA ad A H locs lsA hC hW hL) (fun hc => kf hc p l e s m args below meth c dC dI cA ad A H locs lsA hC hW hL)
theorem aj_icmp_le {x y : Int32} {off : Int} {tgt : Nat} (hd : decode k.2.1 pc = .ok (.if_icmp .le off, 3)) (hq : pc + 3 = q) (ht : (pc : Int) + off = (tgt : Int)) (kt : x ≤ y → AJ d k lay tgt ls st S Q) (kf : ¬ x ≤ y → AJ d k lay q ls st S Q) : AJ d k lay pc ls (.int y :: .int x :: st) S Q := by
  subst hq
  intro p l e s m args below meth c dC dI cA ad A H locs lsA hC hW hL
  exact lv_icmp_le hC.1 hC.2.1 hd ht (fun hc => kt hc p l e s m args below meth c dC dI cA ad A H locs lsA hC hW hL) (fun hc => kf hc p l e s m args below meth c dC dI cA ad A H locs lsA hC hW hL)
theorem aj_if_le {x : Int32} {off : Int} {tgt : Nat} (hd : decode k.2.1 pc = .ok (.ifCond .le off, 3)) (hq : pc + 3 = q) (ht : (pc : Int) + off = (tgt : Int)) (kt : x ≤ 0 → AJ d k lay tgt ls st S Q) (kf : ¬ x ≤ 0 → AJ d k lay q ls st S Q) : AJ d k lay pc ls (.int x :: st) S Q := by
  subst hq
  intro p l e s m args below meth c dC dI cA ad A H locs lsA hC hW hL
  exact lv_if_le hC.1 hC.2.1 hd ht (fun hc => kt hc p l e s m args below meth c dC dI cA ad A H locs lsA hC hW hL) (fun hc => kf hc p l e s m args below meth c dC dI cA ad A H locs lsA hC hW hL)
theorem aj_goto {off : Int} {tgt : Nat} (hd : decode k.2.1 pc = .ok (.goto off, 3)) (ht : (pc : Int) + off = (tgt : Int)) (kk : AJ d k lay tgt ls st S Q) : AJ d k lay pc ls st S Q := by
  intro p l e s m args below meth c dC dI cA ad A H locs lsA hC hW hL
  exact lv_goto hC.1 hC.2.1 hd ht (kk p l e s m args below meth c dC dI cA ad A H locs lsA hC hW hL)
theorem aj_dup {v : Value} (hd : decode k.2.1 pc = .ok (.dup, 1)) (hq : pc + 1 = q) (hc : v.category = 1) (kk : AJ d k lay q ls (v :: v :: st) S Q) : AJ d k lay pc ls (v :: st) S Q := by
  subst hq
  intro p l e s m args below meth c dC dI cA ad A H locs lsA hC hW hL
  exact lv_dup hC.1 hC.2.1 hd ((cv_cat ad v).trans hc) (kk p l e s m args below meth c dC dI cA ad A H locs lsA hC hW hL)
theorem aj_dup2 {v w : Value} (hd : decode k.2.1 pc = .ok (.dup2, 1)) (hq : pc + 1 = q) (hc : v.category = 1) (hc2 : w.category = 1) (kk : AJ d k lay q ls (v :: w :: v :: w :: st) S Q) : AJ d k lay pc ls (v :: w :: st) S Q := by
  subst hq
  intro p l e s m args below meth c dC dI cA ad A H locs lsA hC hW hL
  exact lv_dup2_11 hC.1 hC.2.1 hd ((cv_cat ad v).trans hc) ((cv_cat ad w).trans hc2) (kk p l e s m args below meth c dC dI cA ad A H locs lsA hC hW hL)
theorem aj_pop {v : Value} (hd : decode k.2.1 pc = .ok (.pop, 1)) (hq : pc + 1 = q) (hc : v.category = 1) (kk : AJ d k lay q ls st S Q) : AJ d k lay pc ls (v :: st) S Q := by
  subst hq
  intro p l e s m args below meth c dC dI cA ad A H locs lsA hC hW hL
  exact lv_pop hC.1 hC.2.1 hd ((cv_cat ad v).trans hc) (kk p l e s m args below meth c dC dI cA ad A H locs lsA hC hW hL)
theorem aj_ldc {idx : Nat} {v : Int32} (hd : decode k.2.1 pc = .ok (.ldc idx, 2)) (hq : pc + 2 = q) (hw : Cond.constant k.1.cls idx v ∈ TT) (kk : AJ d k lay q ls (.int v :: st) S Q) : AJ d k lay pc ls st S Q := by
  subst hq
  intro p l e s m args below meth c dC dI cA ad A H locs lsA hC hW hL
  exact lv_ldc hC.1 hC.2.1 hC.2.2.2.2.1 (hC.2.2.2.2.2.1 _ hw) hd (kk p l e s m args below meth c dC dI cA ad A H locs lsA hC hW hL)
theorem aj_ifnull {b : Nat} {off : Int} (hd : decode k.2.1 pc = .ok (.ifnull off, 3)) (hq : pc + 3 = q) (kk : AJ d k lay q ls st S Q) : AJ d k lay pc ls (.ref b :: st) S Q := by
  subst hq
  intro p l e s m args below meth c dC dI cA ad A H locs lsA hC hW hL
  exact lv_ifnull hC.1 hC.2.1 hd (kk p l e s m args below meth c dC dI cA ad A H locs lsA hC hW hL)
theorem aj_ifnonnull {b : Nat} {off : Int} {tgt : Nat} (hd : decode k.2.1 pc = .ok (.ifnonnull off, 3)) (ht : (pc : Int) + off = (tgt : Int)) (kk : AJ d k lay tgt ls st S Q) : AJ d k lay pc ls (.ref b :: st) S Q := by
  intro p l e s m args below meth c dC dI cA ad A H locs lsA hC hW hL
  exact lv_ifnonnull hC.1 hC.2.1 hd ht (kk p l e s m args below meth c dC dI cA ad A H locs lsA hC hW hL)
theorem aj_tsOut {dflt lo hi : Int} {offs : Array Int} {len : Nat} {x : Int32} {tgt : Nat} (hd : decode k.2.1 pc = .ok (.tableswitch dflt lo hi offs, len)) (h : x.toInt < lo ∨ hi < x.toInt) (ht : (pc : Int) + dflt = (tgt : Int)) (kk : AJ d k lay tgt ls st S Q) : AJ d k lay pc ls (.int x :: st) S Q := by
  intro p l e s m args below meth c dC dI cA ad A H locs lsA hC hW hL
  exact lv_tableOut hC.1 hC.2.1 hd h ht (kk p l e s m args below meth c dC dI cA ad A H locs lsA hC hW hL)
theorem aj_tsIn {dflt lo hi : Int} {offs : Array Int} {len : Nat} {x : Int32} {off : Int} {tgt : Nat} (hd : decode k.2.1 pc = .ok (.tableswitch dflt lo hi offs, len)) (h1 : ¬ x.toInt < lo) (h2 : ¬ hi < x.toInt) (ho : offs[(x.toInt - lo).toNat]? = some off) (ht : (pc : Int) + off = (tgt : Int)) (kk : AJ d k lay tgt ls st S Q) : AJ d k lay pc ls (.int x :: st) S Q := by
  intro p l e s m args below meth c dC dI cA ad A H locs lsA hC hW hL
  exact lv_tableIn hC.1 hC.2.1 hd h1 h2 ho ht (kk p l e s m args below meth c dC dI cA ad A H locs lsA hC hW hL)
theorem QQ.of {dC : Nat → ClassId} {dI : Nat → Nat → Nat} {cA : ClassId} {ad : List Nat} {A : Nat → Prop} {s t : State} {args : Array Value} {H : Heap} {locs : List Loc} {r : Option Value} (hW : Wd dC dI cA ad A s lay S H locs) (hQ : Q r S) (ht : t.heap = H) (hw : s.WarmedH t.vm) : QQ dC dI cA ad A lay Q args s (.returned (r.map (cv ad))) t :=
  ⟨⟨r, S, rfl, hQ, by rw [ht]; exact hW.2.1, va_K.moved hw.alike hW.1, hW.2.2.1⟩, hW.2.2.2.1.F ht⟩
theorem aj_ireturn {v : Int32} (hd : decode k.2.1 pc = .ok (.ireturn, 1)) (hr : k.2.2.2 = some .int) (hQ : Q (some (.int v)) S) : AJ d k lay pc ls [.int v] S Q := by
  intro p l e s m args below meth c dC dI cA ad A H locs lsA hC hW hL
  exact W.iret hC.1 hC.2.1 (hC.2.2.1.trans hr) (fun t ht hw => QQ.of (r := some (.int v)) hW hQ ht hw) hW.2.2.2.1.2.2 hd hC.2.2.2.2.2.2
theorem aj_zreturn {v : Int32} (hd : decode k.2.1 pc = .ok (.ireturn, 1)) (hr : k.2.2.2 = some .boolean) (hn : narrow .boolean (.int v) = .int v) (hQ : Q (some (.int v)) S) : AJ d k lay pc ls [.int v] S Q := by
  intro p l e s m args below meth c dC dI cA ad A H locs lsA hC hW hL
  exact W.zret (ty := .boolean) hC.1 hC.2.1 (hC.2.2.1.trans hr) hn (fun t ht hw => QQ.of (r := some (.int v)) hW hQ ht hw) hW.2.2.2.1.2.2 hd hC.2.2.2.2.2.2
theorem aj_return (hd : decode k.2.1 pc = .ok (.return_, 1)) (hr : k.2.2.2 = none) (hQ : Q none S) : AJ d k lay pc ls [] S Q := by
  intro p l e s m args below meth c dC dI cA ad A H locs lsA hC hW hL
  exact W.vret hC.1 hC.2.1 (hC.2.2.1.trans hr) (fun t ht hw => QQ.of (r := none) hW hQ ht hw) hW.2.2.2.1.2.2 hd hC.2.2.2.2.2.2
end AJR
/-- a field's place: what the tables say of an access -/
def FL (own : String) (idx ci j : Nat) : Prop := ∃ (C : String) (T : u_T) (N : Nat), xcl[ci]? = some (C, T, N) ∧ j < N ∧ (∀ w ∈ u_ws C T N, w ∈ TT) ∧ (Cond.fieldLink own idx (T j).1 (T j).2.1 (T j).2.2.1 ∈ TT ∨ ∃ host, Cond.fieldLinkNest own idx (T j).1 (T j).2.1 (T j).2.2.1 host ∈ TT)
def FP (own : String) (idx ci j : Nat) (ty : FieldType) : Prop := ∃ (C : String) (T : u_T) (N : Nat) (ty0 : Nat → FieldType), xcl[ci]? = some (C, T, N) ∧ j < N ∧ (∀ w ∈ u_ws C T N, w ∈ TT) ∧ Cond.fieldLink own idx (T j).1 (T j).2.1 (T j).2.2.1 ∈ TT ∧ (∀ k, k < N → parseFieldDescriptor (T k).2.2.1 = some (ty0 k)) ∧ (∀ a, a < N → ∀ b, b < N → a ≠ b → (T a).2.1 ≠ (T b).2.1) ∧ (T j).2.2.2 = false ∧ parseFieldDescriptor (T j).2.2.1 = some ty
section AJF
variable {d : Nat} {k : MK} {lay : Lay} {pc q : Nat} {ls : AL} {st : List Value} {S : Sx} {Q : Option Value → Sx → Prop}
theorem aj_getf {idx b ci j : Nat} {sl : List Slt} {x : Slt} (F : FL k.1.cls idx ci j) (hd : decode k.2.1 pc = .ok (.getfield idx, 3)) (hq : pc + 3 = q) (hlay : lay[b]? = some (.inr (ci, sl))) (hj : sl[j]? = some x) (kk : AJ d k lay q ls (slv S (100 * b + j) x :: st) S Q) : AJ d k lay pc ls (.ref b :: st) S Q := by
  subst hq
  intro p l e s m args below meth c dC dI cA ad A H locs lsA hC hW hL
  obtain ⟨C, T, N, h1, h2, h3, h4⟩ := F
  have he : (cw cA ad lay S)[b]? = some (ad.getD b 0, .inr (ci, sl.mapIdx (fun j x => cv ad (slv S (100 * b + j) x)))) := cw_get hlay
  have hv : (sl.mapIdx (fun j x => cv ad (slv S (100 * b + j) x)))[j]? = some (cv ad (slv S (100 * b + j) x)) := by rw [List.getElem?_mapIdx, hj]; rfl
  rcases h4 with h4 | ⟨host, h4⟩
  · exact va_get (D := (dC, dI)) hC.1 hC.2.1 hC.2.2.2.2.2.1 h3 hC.2.2.2.2.1 hW.1 hW.2.1 b he h1 j h2 (hC.2.2.2.2.2.1 _ h4) (fun _ h9 => h9) hv hd (kk p l e s m args below meth c dC dI cA ad A H locs lsA hC hW hL)
  · exact va_getN (D := (dC, dI)) hC.1 hC.2.1 hC.2.2.2.2.2.1 h3 hC.2.2.2.2.1 hW.1 hW.2.1 b he h1 j h2 (hC.2.2.2.2.2.1 _ h4) (fun _ h9 => h9) hv hd (kk p l e s m args below meth c dC dI cA ad A H locs lsA hC hW hL)
theorem aj_getI {idx b ci j f : Nat} {sl : List Slt} (F : FL k.1.cls idx ci j) (hd : decode k.2.1 pc = .ok (.getfield idx, 3)) (hq : pc + 3 = q) (hlay : lay[b]? = some (.inr (ci, sl))) (hj : sl[j]? = some none) (hf : 100 * b + j = f) (kk : AJ d k lay q ls (.int (S f 0) :: st) S Q) : AJ d k lay pc ls (.ref b :: st) S Q := by
  subst hf
  exact aj_getf F hd hq hlay hj kk
theorem aj_getR {idx b ci j r : Nat} {sl : List Slt} (F : FL k.1.cls idx ci j) (hd : decode k.2.1 pc = .ok (.getfield idx, 3)) (hq : pc + 3 = q) (hlay : lay[b]? = some (.inr (ci, sl))) (hj : sl[j]? = some (some (some r))) (kk : AJ d k lay q ls (.ref r :: st) S Q) : AJ d k lay pc ls (.ref b :: st) S Q := aj_getf F hd hq hlay hj kk
theorem aj_getD {idx b ci j f : Nat} {sl : List Slt} (F : FL k.1.cls idx ci j) (hd : decode k.2.1 pc = .ok (.getfield idx, 3)) (hq : pc + 3 = q) (hlay : lay[b]? = some (.inr (ci, sl))) (hj : sl[j]? = some (some none)) (hf : 100 * b + j = f) (kk : AJ d k lay q ls (.ref (S f 0).toNatClampNeg :: st) S Q) : AJ d k lay pc ls (.ref b :: st) S Q := by
  subst hf
  exact aj_getf F hd hq hlay hj kk
theorem sl_set {S : Sx} {ad : List Nat} {b j : Nat} {sl : List Slt} {x : Slt} {v : Int32} {w : Value} (hj : sl[j]? = some x) (hw : w = cv ad (slv (sw S (100 * b + j) 0 v) (100 * b + j) x)) : (sl.mapIdx (fun j x => cv ad (slv S (100 * b + j) x))).set j w = sl.mapIdx (fun i x => cv ad (slv (sw S (100 * b + j) 0 v) (100 * b + i) x)) := by
  apply List.ext_getElem?
  intro i
  rw [List.getElem?_set, List.getElem?_mapIdx, List.getElem?_mapIdx]
  by_cases hij : j = i
  · subst hij
    rw [if_pos rfl, if_pos (by rw [List.length_mapIdx]; exact (List.getElem?_eq_some_iff.mp hj).1), hj, hw]
    rfl
  · rw [if_neg hij]
    cases hs : sl[i]? with
    | none => rfl
    | some y =>
      have e : slv (sw S (100 * b + j) 0 v) (100 * b + i) y = slv S (100 * b + i) y := by
        unfold slv sw
        rw [if_neg (by omega)]
      show some (cv ad (slv S (100 * b + i) y)) = some (cv ad (slv (sw S (100 * b + j) 0 v) (100 * b + i) y))
      rw [e]
theorem aj_putf {idx b ci j : Nat} {sl : List Slt} {x : Slt} {ty : FieldType} {v : Int32} {w : Value} (hok : okL lay = true) (F : FP k.1.cls idx ci j ty) (hd : decode k.2.1 pc = .ok (.putfield idx, 3)) (hq : pc + 3 = q) (hlay : lay[b]? = some (.inr (ci, sl))) (hj : sl[j]? = some x) (hw : w = slv (sw S (100 * b + j) 0 v) (100 * b + j) x) (hn : ∀ ad, narrow ty (cv ad w) = cv ad w) (hfit : ∀ ad, fits ty (cv ad w) = true) (kk : AJ d k lay q ls st (sw S (100 * b + j) 0 v) Q) : AJ d k lay pc ls (w :: .ref b :: st) S Q := by
  subst hq
  intro p l e s m args below meth c dC dI cA ad A H locs lsA hC hW hL
  obtain ⟨C, T, N, ty0, h1, h2, h3, h4, h5, h6, h7, h8⟩ := F
  have hlt : sl.length < 100 := by
    have := List.all_eq_true.mp hok _ (List.mem_of_getElem? hlay)
    simpa using this
  have hjl : j < sl.length := (List.getElem?_eq_some_iff.mp hj).1
  have he : (cw cA ad lay S)[b]? = some (ad.getD b 0, .inr (ci, sl.mapIdx (fun j x => cv ad (slv S (100 * b + j) x)))) := cw_get hlay
  have hset := cw_set (cA := cA) (ad := ad) (S := S) (i := 0) (v := v) (E := .inr (ci, (sl.mapIdx (fun j x => cv ad (slv S (100 * b + j) x))).set j (cv ad w))) hok (show j < 100 by omega) hlay (by rw [sl_set (v := v) hj (by rw [hw])]; rfl)
  refine va_put (D := (dC, dI)) hC.1 hC.2.1 hC.2.2.2.2.2.1 h3 ty0 h5 h6 hC.2.2.2.2.1 hW.1 hW.2.1 hW.2.2.1 hW.2.2.2.1 b he h1 j h2 (hC.2.2.2.2.2.1 _ h4) (fun _ h9 => h9) h7 h8 (hn ad) (hfit ad) (by rw [List.length_mapIdx]; exact hjl) hd (fun H1 locs1 hP1 hD1 hS1 => ?_)
  rw [hset] at hP1 hD1
  exact kk p l e s m args below meth c dC dI cA ad A H1 locs1 lsA hC ⟨hW.1, hP1, hD1, hS1, hW.2.2.2.2⟩ hL
theorem aj_putI {idx b ci j f : Nat} {sl : List Slt} {v : Int32} (hok : okL lay = true) (F : FP k.1.cls idx ci j .int) (hd : decode k.2.1 pc = .ok (.putfield idx, 3)) (hq : pc + 3 = q) (hlay : lay[b]? = some (.inr (ci, sl))) (hj : sl[j]? = some none) (hf : 100 * b + j = f) (kk : AJ d k lay q ls st (sw S f 0 v) Q) : AJ d k lay pc ls (.int v :: .ref b :: st) S Q := by
  subst hf
  exact aj_putf (v := v) hok F hd hq hlay hj (by simp [slv, sw]) (fun _ => rfl) (fun _ => rfl) kk
theorem aj_putZ {idx b ci j f : Nat} {sl : List Slt} {v : Int32} (hok : okL lay = true) (F : FP k.1.cls idx ci j .boolean) (hd : decode k.2.1 pc = .ok (.putfield idx, 3)) (hq : pc + 3 = q) (hlay : lay[b]? = some (.inr (ci, sl))) (hj : sl[j]? = some none) (hf : 100 * b + j = f) (hn : narrow .boolean (.int v) = .int v) (hfit : fits .boolean (.int v) = true) (kk : AJ d k lay q ls st (sw S f 0 v) Q) : AJ d k lay pc ls (.int v :: .ref b :: st) S Q := by
  subst hf
  exact aj_putf (v := v) hok F hd hq hlay hj (by simp [slv, sw]) (fun _ => hn) (fun _ => hfit) kk
theorem aj_putD {idx b ci j f r : Nat} {C : String} {sl : List Slt} (hok : okL lay = true) (F : FP k.1.cls idx ci j (.object C)) (hd : decode k.2.1 pc = .ok (.putfield idx, 3)) (hq : pc + 3 = q) (hlay : lay[b]? = some (.inr (ci, sl))) (hj : sl[j]? = some (some none)) (hf : 100 * b + j = f) (hr : r < 2 ^ 31) (kk : AJ d k lay q ls st (sw S f 0 (nI r)) Q) : AJ d k lay pc ls (.ref r :: .ref b :: st) S Q := by
  subst hf
  exact aj_putf (v := nI r) hok F hd hq hlay hj (by simp [slv, sw, nI_clamp hr]) (fun _ => rfl) (fun _ => rfl) kk
theorem aj_iaload {b n f : Nat} {i : Int32} (hd : decode k.2.1 pc = .ok (.iaload, 1)) (hq : pc + 1 = q) (hlay : lay[b]? = some (.inl n)) (hf : 100 * b = f) (hin : vp_in i n) (kk : AJ d k lay q ls (.int (S f i.toNatClampNeg) :: st) S Q) : AJ d k lay pc ls (.int i :: .ref b :: st) S Q := by
  subst hq; subst hf
  intro p l e s m args below meth c dC dI cA ad A H locs lsA hC hW hL
  exact va_iald (D := (dC, dI)) hC.1 hC.2.1 hW.1 hW.2.1 b 0 (cw_get hlay) rfl hin hd (kk p l e s m args below meth c dC dI cA ad A H locs lsA hC hW hL)
theorem aj_alen {b n : Nat} {v : Int32} (hd : decode k.2.1 pc = .ok (.arraylength, 1)) (hq : pc + 1 = q) (hlay : lay[b]? = some (.inl n)) (hv : Int32.ofNat n = v) (kk : AJ d k lay q ls (.int v :: st) S Q) : AJ d k lay pc ls (.ref b :: st) S Q := by
  subst hq
  intro p l e s m args below meth c dC dI cA ad A H locs lsA hC hW hL
  exact va_alen (D := (dC, dI)) hC.1 hC.2.1 hW.1 hW.2.1 b 0 (cw_get hlay) (ty := .int) rfl hv hd (kk p l e s m args below meth c dC dI cA ad A H locs lsA hC hW hL)
theorem aj_iastore {b n f : Nat} {i x : Int32} (hok : okL lay = true) (hd : decode k.2.1 pc = .ok (.iastore, 1)) (hq : pc + 1 = q) (hlay : lay[b]? = some (.inl n)) (hf : 100 * b = f) (hin : vp_in i n) (kk : AJ d k lay q ls st (sw S f i.toNatClampNeg x) Q) : AJ d k lay pc ls (.int x :: .int i :: .ref b :: st) S Q := by
  subst hq; subst hf
  intro p l e s m args below meth c dC dI cA ad A H locs lsA hC hW hL
  have hset := cw_set (cA := cA) (ad := ad) (S := S) (j := 0) (i := i.toNatClampNeg) (v := x) (E := .inl (cA, n, .inl (upd (S (100 * b)) i.toNatClampNeg x))) hok (by omega) hlay (by
    simp only [ce]
    congr 4
    funext z
    simp [upd, sw])
  refine va_iast (D := (dC, dI)) hC.1 hC.2.1 hW.1 hW.2.1 hW.2.2.1 hW.2.2.2.1 b 0 (cw_get hlay) rfl hin hd (fun H1 locs1 hP1 hD1 hS1 => ?_)
  rw [hset] at hP1 hD1
  exact kk p l e s m args below meth c dC dI cA ad A H1 locs1 lsA hC ⟨hW.1, hP1, hD1, hS1, hW.2.2.2.2⟩ hL
theorem aj_weaken {ls' : AL} (hs : ∀ (i : Nat) (v : Value), ls'[i]? = some (some v) → ls[i]? = some (some v)) (kk : AJ d k lay pc ls' st S Q) : AJ d k lay pc ls st S Q := by
  intro p l e s m args below meth c dC dI cA ad A H locs lsA hC hW hL
  exact kk p l e s m args below meth c dC dI cA ad A H locs lsA hC hW (hL.weaken hs)
end AJF
/-! calls -/
def MKok (k' : MK) (n : Nat) : Prop := Cond.initialized k'.1.cls ∈ TT ∧ Cond.code k'.1 k'.2.1 k'.2.2.1 k'.2.2.2 ∈ TT ∧ (k'.1.cls ≠ "java/lang/invoke/MethodHandle" ∧ k'.1.cls ≠ "java/lang/invoke/VarHandle" ∧ (parseMethodDescriptor k'.1.desc).map (fun d => d.parameters.length) = some n) ∧ k'.2.2.1 ≤ 21
def CVok (own : String) (idx : Nat) (k' : MK) : Prop := Cond.methodLink own idx k'.1 ∈ TT ∧ Cond.instanceMethod k'.1 ∈ TT ∧ Cond.selects k'.1.cls k'.1 k'.1 ∈ TT
def CSok (own : String) (idx : Nat) (k' : MK) : Prop := (Cond.methodLink own idx k'.1 ∈ TT ∨ ∃ host, Cond.methodLinkNest own idx k'.1 host ∈ TT) ∧ Cond.static k'.1 ∈ TT
theorem wsK_good {k' : MK} (h : Cond.code k'.1 k'.2.1 k'.2.2.1 k'.2.2.2 ∈ TT) : GoodIn TT (wsK k') := by
  intro w hw
  have hm : w ∈ TT := by
    rcases List.mem_cons.mp hw with rfl | h1
    · exact h
    · exact h1
  exact ⟨hm, good_of_word (List.mem_filter.mp hm).2⟩
section AJC
variable {d : Nat} {k k' : MK} {lay : Lay} {pc q : Nat} {ls : AL} {st : List Value} {S : Sx} {Q : Option Value → Sx → Prop}
theorem PP.blind {dC : Nat → ClassId} {dI : Nat → Nat → Nat} {cA : ClassId} {ad : List Nat} {sz : Nat} {av : List Value} : FrameBlind (va_Pc av (PP dC dI cA ad lay S sz)) := fun a U g mk q => by
  obtain ⟨q0, q1, qP, qK, qD⟩ := q
  exact ⟨q0, q1, qP, va_K.moved (u := U) (U := U.calling g mk a) (Vm.Alike.refl U.vm) qK, qD⟩
theorem PP.at {dC : Nat → ClassId} {dI : Nat → Nat → Nat} {cA : ClassId} {ad : List Nat} {A : Nat → Prop} {s U : State} {H : Heap} {locs : List Loc} (hW : Wd dC dI cA ad A s lay S H locs) (hU : U.heap = H) (hw : s.WarmedH U.vm) : PP dC dI cA ad lay S H.size U :=
  ⟨by rw [hU], by rw [hU]; exact hW.2.1, va_K.moved hw.alike hW.1, hW.2.2.1.weaken (fun _ _ _ _ => trivial)⟩
theorem Wd.free {dC : Nat → ClassId} {dI : Nat → Nat → Nat} {cA : ClassId} {ad : List Nat} {A : Nat → Prop} {s : State} {H : Heap} {locs : List Loc} (hW : Wd dC dI cA ad A s lay S H locs) : ∀ q, va_A (cw cA ad lay S) H.size q → A q := by
  intro q hq
  rcases hq with ⟨k, e, hk⟩ | hq
  · exact hW.2.2.1.2 k _ hk
  · exact hW.2.2.2.2 q (Nat.le_trans hW.2.2.2.1.1 hq)
/-- behind a call -/
theorem aj_back {p : Program} {l : Launch} {e : Env} {s : State} {m : MethodId} {args : Array Value} {below : List Frame} {meth : Method} {c : Code} {dC : Nat → ClassId} {dI : Nat → Nat → Nat} {cA : ClassId} {ad : List Nat} {A : Nat → Prop} {H : Heap} {locs : List Loc} {lsA : Array Slot} {st0 rest : List Value} {a : Array Value}
    (hC : Cx k p s m args meth c) (hW : Wd dC dI cA ad A s lay S H locs) (hL : LR ad ls k.2.2.1 lsA) (hq : pc + 3 = q)
    (hr : va_Run p l e (rmD d) s m args below meth c H locs 0 0 0 0 (F0 m pc lsA st0) (rest.map (cv ad)) (QQ dC dI cA ad (va_A (cw cA ad lay S) H.size) lay (fun r S' => AJ d k lay q ls (r.toList ++ rest) S' Q) a) (va_A (cw cA ad lay S) H.size)) :
    W p l e (rmD d) s m args below meth c H locs 0 0 (MQ below (QQ dC dI cA ad A lay Q) args s 0 0 A) (F0 m pc lsA st0) := by
  subst hq
  intro T hT X
  obtain ⟨v, st₀, t, T', L, h0, X', hLf, e1, e2, ⟨⟨r, S', ho, hQ, hP', hK', hD'⟩, hF⟩, st⟩ := hr T hT X
  have hv : v = r.map (cv ad) := by
    injection ho
  subst hv
  have hz : H.size ≤ t.heap.size := by rw [← h0]; exact hF.1
  have hkeep : ∀ z : Nat, z < H.size → ¬ va_A (cw cA ad lay S) H.size z → t.heap[z]? = H[z]? := fun z h1 h2 => by rw [hF.2 z (by rw [h0]; exact h1) h2, h0]
  have hS := hW.2.2.2.1
  have hW' : Wd dC dI cA ad A s lay S' T'.heap (locs ++ L) := by
    refine ⟨hW.1, by rw [e1]; exact hP', hD'.weaken (fun _ z _ hz => hW.free _ hz), ⟨Nat.le_trans hS.1 (by rw [e1]; exact hz), fun z h1 h2 => ?_, fun z hz => ?_⟩, hW.2.2.2.2⟩
    · rw [e1, hkeep z (Nat.lt_of_lt_of_le h1 hS.1) (fun h => h2 (hW.free _ h))]
      exact hS.2.1 z h1 h2
    · rcases List.mem_append.mp hz with h | h
      · exact hS.2.2 z h
      · exact hW.free _ (hLf z h)
  obtain ⟨t2, a1, b1⟩ := hQ p l e s m args below meth c dC dI cA ad A T'.heap (locs ++ L) lsA hC hW' hL T' rfl X'
  refine ⟨t2, st t2 ?_, b1⟩
  have : (r.toList ++ rest).map (cv ad) = (r.map (cv ad)).toList ++ rest.map (cv ad) := by cases r <;> simp
  rw [this] at a1
  exact a1
theorem aj_callV {idx b ci n : Nat} {sl : List Slt} {As rest : List Value} (F : CVok k.1.cls idx k') (G : MKok k' n) (hd : decode k.2.1 pc = .ok (.invokevirtual idx, 3)) (hq : pc + 3 = q) (hlay : lay[b]? = some (.inr (ci, sl))) (hci : (xcl[ci]?).map (fun z => z.1) = some k'.1.cls) (hn : As.length = n) (hr : (rest.map (fun v => v.category)).sum ≤ 8)
    (kk : CC d k' lay (.ref b :: As) S (fun r S' => AJ (d + 1) k lay q ls (r.toList ++ rest) S' Q)) : AJ (d + 1) k lay pc ls (As.reverse ++ .ref b :: rest) S Q := by
  intro p l e s m args below meth c dC dI cA ad A H locs lsA hC hW hL
  obtain ⟨hx, hb, hret, hml, hown, hts, hlk⟩ := id hC
  obtain ⟨f1, f2, f3⟩ := F
  obtain ⟨g1, g2, g3, g4⟩ := G
  have hM := kk l dC dI cA ad H.size
  obtain ⟨⟨C, T, N⟩, hcl, hC9⟩ : ∃ z, xcl[ci]? = some z ∧ z.1 = k'.1.cls := by
    cases hz : xcl[ci]? with
    | none => rw [hz] at hci; cases hci
    | some z => rw [hz] at hci; exact ⟨z, rfl, by simpa using hci⟩
  refine aj_back hC hW hL hq (va_runV (As := As.map (cv ad)) (b := ad.getD b 0) (n := n) (C := k'.1.cls) ⟨hx, hb, hml, hown, hts⟩ hM ⟨callB_of n hts (wsK_good g2) rfl rfl rfl (hts _ g1) (hts _ f1) g3 ⟨Nat.le_refl _, ?_⟩, hts _ f2, hts _ f3⟩ ⟨PP.blind, ?_, fun U hU hw => ⟨?_, PP.at hW hU hw⟩⟩ rfl (by rw [List.length_map]; exact hn) hL.1 ?_ (lv_room ?_) hd ⟨Nat.le_refl _, Nat.le_refl _⟩)
  · show 8 + (k'.2.2.1 + 11) + 40 * d ≤ 40 * (d + 1)
    omega
  · have := va_recv hW.1 hW.2.1 (ci := ci) (q0 := b) hcl (cw_get hlay)
    simp only at hC9
    rw [← hC9]
    exact this
  · rfl
  · show (As.reverse ++ .ref b :: rest).map (cv ad) = _
    simp [cv]
  · rw [List.map_map]
    have : ((fun v => v.category) ∘ cv ad) = (fun v : Value => v.category) := by funext v; exact cv_cat ad v
    rw [this]
    exact hr
theorem aj_callS {idx n : Nat} {As rest : List Value} (F : CSok k.1.cls idx k') (G : MKok k' n) (hd : decode k.2.1 pc = .ok (.invokestatic idx, 3)) (hq : pc + 3 = q) (hn : As.length = n) (hr : (rest.map (fun v => v.category)).sum ≤ 8)
    (kk : CC d k' lay As S (fun r S' => AJ (d + 1) k lay q ls (r.toList ++ rest) S' Q)) : AJ (d + 1) k lay pc ls (As.reverse ++ rest) S Q := by
  intro p l e s m args below meth c dC dI cA ad A H locs lsA hC hW hL
  obtain ⟨hx, hb, hret, hml, hown, hts, hlk⟩ := id hC
  obtain ⟨f1, f2⟩ := F
  obtain ⟨g1, g2, g3, g4⟩ := G
  have hM := kk l dC dI cA ad H.size
  have hroom : 8 + (k'.2.2.1 + 11) + 40 * d ≤ 40 * (d + 1) := by omega
  have hst : (As.reverse ++ rest).map (cv ad) = (As.map (cv ad)).reverse ++ rest.map (cv ad) := by simp
  have hcat : ((rest.map (cv ad)).map fun v => v.category).sum ≤ 8 := by
    rw [List.map_map]
    have : ((fun v => v.category) ∘ cv ad) = (fun v : Value => v.category) := by funext v; exact cv_cat ad v
    rw [this]
    exact hr
  rcases f1 with f1 | ⟨host, f1⟩
  · exact aj_back hC hW hL hq (va_runS (As := As.map (cv ad)) (n := n) ⟨hx, hb, hml, hown, hts⟩ hM ⟨callB_of n hts (wsK_good g2) rfl rfl rfl (hts _ g1) (hts _ f1) g3 ⟨Nat.le_refl _, hroom⟩, hts _ f2⟩ ⟨PP.blind, fun U hU hw => ⟨rfl, PP.at hW hU hw⟩⟩ rfl (by rw [List.length_map]; exact hn) hL.1 hst (lv_room hcat) hd ⟨Nat.le_refl _, Nat.le_refl _⟩)
  · exact aj_back hC hW hL hq (va_runSN (As := As.map (cv ad)) (n := n) ⟨hx, hb, hml, hown, hts⟩ hM ⟨va_cnB n hts (wsK_good g2) rfl rfl rfl (va_tabs rfl rfl (hts _ f1)) (hts _ g1) g3 ⟨Nat.le_refl _, hroom⟩, hts _ f2, trivial⟩ ⟨PP.blind, fun U hU hw => ⟨rfl, PP.at hW hU hw⟩⟩ rfl (by rw [List.length_map]; exact hn) hL.1 hst (lv_room hcat) hd ⟨Nat.le_refl _, Nat.le_refl _⟩)
end AJC
end
