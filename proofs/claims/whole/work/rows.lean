section
-- ===== PART A: goes FIRST, ahead of the names: the tables' words, and 'selects' of the private methods out of them =====
/-- a private method of a class that the tables say can be made, by its rows of tables_1 -/
def lw_okq (q : MethodName × Nat) : Prop := (q.1.cls ≠ "java/lang/invoke/MethodHandle" ∧ q.1.cls ≠ "java/lang/invoke/VarHandle") ∧ Cond.instantiable q.1.cls q.2 ∈ tables_1 ∧ Cond.privateMethod q.1 ∈ tables_1 ∧ Cond.instanceMethod q.1 ∈ tables_1
theorem lw_p0 : lw_okq (⟨"MarkedRuns$Program", "operandsFit", "(IIII)Z"⟩, 7) := ⟨⟨by decide +kernel, by decide +kernel⟩, List.mem_of_getElem? (i := 28) (by decide +kernel), List.mem_of_getElem? (i := 218) (by decide +kernel), List.mem_of_getElem? (i := 219) (by decide +kernel)⟩
theorem lw_p1 : lw_okq (⟨"MarkedRuns$Program", "heightWith", "(IIII)I"⟩, 7) := ⟨⟨by decide +kernel, by decide +kernel⟩, List.mem_of_getElem? (i := 28) (by decide +kernel), List.mem_of_getElem? (i := 235) (by decide +kernel), List.mem_of_getElem? (i := 236) (by decide +kernel)⟩
theorem lw_p2 : lw_okq (⟨"MarkedRuns$Program", "heightOf", "(I)I"⟩, 7) := ⟨⟨by decide +kernel, by decide +kernel⟩, List.mem_of_getElem? (i := 28) (by decide +kernel), List.mem_of_getElem? (i := 239) (by decide +kernel), List.mem_of_getElem? (i := 240) (by decide +kernel)⟩
theorem lw_p3 : lw_okq (⟨"MarkedRuns$Run", "clear", "(II)V"⟩, 11) := ⟨⟨by decide +kernel, by decide +kernel⟩, List.mem_of_getElem? (i := 60) (by decide +kernel), List.mem_of_getElem? (i := 292) (by decide +kernel), List.mem_of_getElem? (i := 293) (by decide +kernel)⟩
theorem lw_p4 : lw_okq (⟨"MarkedRuns$Run", "enter", "(I)V"⟩, 11) := ⟨⟨by decide +kernel, by decide +kernel⟩, List.mem_of_getElem? (i := 60) (by decide +kernel), List.mem_of_getElem? (i := 324) (by decide +kernel), List.mem_of_getElem? (i := 325) (by decide +kernel)⟩
theorem lw_p5 : lw_okq (⟨"MarkedRuns$Run", "begin", "(I)V"⟩, 11) := ⟨⟨by decide +kernel, by decide +kernel⟩, List.mem_of_getElem? (i := 60) (by decide +kernel), List.mem_of_getElem? (i := 346) (by decide +kernel), List.mem_of_getElem? (i := 347) (by decide +kernel)⟩
theorem lw_p6 : lw_okq (⟨"MarkedRuns$Run", "doPart", "(II)V"⟩, 11) := ⟨⟨by decide +kernel, by decide +kernel⟩, List.mem_of_getElem? (i := 60) (by decide +kernel), List.mem_of_getElem? (i := 366) (by decide +kernel), List.mem_of_getElem? (i := 367) (by decide +kernel)⟩
theorem lw_p7 : lw_okq (⟨"MarkedRuns$Run", "loopOrEnd", "(II)V"⟩, 11) := ⟨⟨by decide +kernel, by decide +kernel⟩, List.mem_of_getElem? (i := 60) (by decide +kernel), List.mem_of_getElem? (i := 378) (by decide +kernel), List.mem_of_getElem? (i := 379) (by decide +kernel)⟩
theorem lw_p8 : lw_okq (⟨"MarkedRuns$Run", "call", "(I)V"⟩, 11) := ⟨⟨by decide +kernel, by decide +kernel⟩, List.mem_of_getElem? (i := 60) (by decide +kernel), List.mem_of_getElem? (i := 386) (by decide +kernel), List.mem_of_getElem? (i := 387) (by decide +kernel)⟩
theorem lw_p9 : lw_okq (⟨"MarkedRuns$Run", "raise", "(II)V"⟩, 11) := ⟨⟨by decide +kernel, by decide +kernel⟩, List.mem_of_getElem? (i := 60) (by decide +kernel), List.mem_of_getElem? (i := 391) (by decide +kernel), List.mem_of_getElem? (i := 392) (by decide +kernel)⟩
theorem lw_p10 : lw_okq (⟨"MarkedRuns$Run", "end", "(I)V"⟩, 11) := ⟨⟨by decide +kernel, by decide +kernel⟩, List.mem_of_getElem? (i := 60) (by decide +kernel), List.mem_of_getElem? (i := 395) (by decide +kernel), List.mem_of_getElem? (i := 396) (by decide +kernel)⟩
theorem lw_p11 : lw_okq (⟨"MarkedRuns$Run", "doAtOnce", "(IIII)V"⟩, 11) := ⟨⟨by decide +kernel, by decide +kernel⟩, List.mem_of_getElem? (i := 60) (by decide +kernel), List.mem_of_getElem? (i := 405) (by decide +kernel), List.mem_of_getElem? (i := 406) (by decide +kernel)⟩
theorem lw_p12 : lw_okq (⟨"MarkedRuns$Run", "calculate", "(IIII)V"⟩, 11) := ⟨⟨by decide +kernel, by decide +kernel⟩, List.mem_of_getElem? (i := 60) (by decide +kernel), List.mem_of_getElem? (i := 409) (by decide +kernel), List.mem_of_getElem? (i := 410) (by decide +kernel)⟩
theorem lw_p13 : lw_okq (⟨"MarkedRuns$Run", "divide", "(IIII)V"⟩, 11) := ⟨⟨by decide +kernel, by decide +kernel⟩, List.mem_of_getElem? (i := 60) (by decide +kernel), List.mem_of_getElem? (i := 413) (by decide +kernel), List.mem_of_getElem? (i := 414) (by decide +kernel)⟩
theorem lw_p14 : lw_okq (⟨"MarkedRuns$Run", "doWithRow", "(IIII)V"⟩, 11) := ⟨⟨by decide +kernel, by decide +kernel⟩, List.mem_of_getElem? (i := 60) (by decide +kernel), List.mem_of_getElem? (i := 417) (by decide +kernel), List.mem_of_getElem? (i := 418) (by decide +kernel)⟩
theorem lw_p15 : lw_okq (⟨"MarkedRuns$Run", "makeRow", "(II)V"⟩, 11) := ⟨⟨by decide +kernel, by decide +kernel⟩, List.mem_of_getElem? (i := 60) (by decide +kernel), List.mem_of_getElem? (i := 421) (by decide +kernel), List.mem_of_getElem? (i := 422) (by decide +kernel)⟩
def lw_privs_1 : List (MethodName × Nat) := [(⟨"MarkedRuns$Program", "operandsFit", "(IIII)Z"⟩, 7), (⟨"MarkedRuns$Program", "heightWith", "(IIII)I"⟩, 7), (⟨"MarkedRuns$Program", "heightOf", "(I)I"⟩, 7), (⟨"MarkedRuns$Run", "clear", "(II)V"⟩, 11), (⟨"MarkedRuns$Run", "enter", "(I)V"⟩, 11), (⟨"MarkedRuns$Run", "begin", "(I)V"⟩, 11), (⟨"MarkedRuns$Run", "doPart", "(II)V"⟩, 11), (⟨"MarkedRuns$Run", "loopOrEnd", "(II)V"⟩, 11), (⟨"MarkedRuns$Run", "call", "(I)V"⟩, 11), (⟨"MarkedRuns$Run", "raise", "(II)V"⟩, 11), (⟨"MarkedRuns$Run", "end", "(I)V"⟩, 11), (⟨"MarkedRuns$Run", "doAtOnce", "(IIII)V"⟩, 11), (⟨"MarkedRuns$Run", "calculate", "(IIII)V"⟩, 11), (⟨"MarkedRuns$Run", "divide", "(IIII)V"⟩, 11), (⟨"MarkedRuns$Run", "doWithRow", "(IIII)V"⟩, 11), (⟨"MarkedRuns$Run", "makeRow", "(II)V"⟩, 11)]
theorem lw_r1 : ∀ q ∈ lw_privs_1, lw_okq q := List.forall_mem_cons.mpr ⟨lw_p0, List.forall_mem_cons.mpr ⟨lw_p1, List.forall_mem_cons.mpr ⟨lw_p2, List.forall_mem_cons.mpr ⟨lw_p3, List.forall_mem_cons.mpr ⟨lw_p4, List.forall_mem_cons.mpr ⟨lw_p5, List.forall_mem_cons.mpr ⟨lw_p6, List.forall_mem_cons.mpr ⟨lw_p7, List.forall_mem_cons.mpr ⟨lw_p8, List.forall_mem_cons.mpr ⟨lw_p9, List.forall_mem_cons.mpr ⟨lw_p10, List.forall_mem_cons.mpr ⟨lw_p11, List.forall_mem_cons.mpr ⟨lw_p12, List.forall_mem_cons.mpr ⟨lw_p13, List.forall_mem_cons.mpr ⟨lw_p14, List.forall_mem_cons.mpr ⟨lw_p15, fun _ h => absurd h List.not_mem_nil⟩⟩⟩⟩⟩⟩⟩⟩⟩⟩⟩⟩⟩⟩⟩⟩
theorem lw_p16 : lw_okq (⟨"MarkedRuns$Run", "reaches", "(II)Z"⟩, 11) := ⟨⟨by decide +kernel, by decide +kernel⟩, List.mem_of_getElem? (i := 60) (by decide +kernel), List.mem_of_getElem? (i := 432) (by decide +kernel), List.mem_of_getElem? (i := 433) (by decide +kernel)⟩
theorem lw_p17 : lw_okq (⟨"MarkedRuns$Run", "measureRow", "(II)V"⟩, 11) := ⟨⟨by decide +kernel, by decide +kernel⟩, List.mem_of_getElem? (i := 60) (by decide +kernel), List.mem_of_getElem? (i := 450) (by decide +kernel), List.mem_of_getElem? (i := 451) (by decide +kernel)⟩
theorem lw_p18 : lw_okq (⟨"MarkedRuns$Run", "goOn", "(I)V"⟩, 11) := ⟨⟨by decide +kernel, by decide +kernel⟩, List.mem_of_getElem? (i := 60) (by decide +kernel), List.mem_of_getElem? (i := 470) (by decide +kernel), List.mem_of_getElem? (i := 471) (by decide +kernel)⟩
theorem lw_p19 : lw_okq (⟨"MarkedRuns$Run", "goOnWithBoth", "(I)V"⟩, 11) := ⟨⟨by decide +kernel, by decide +kernel⟩, List.mem_of_getElem? (i := 60) (by decide +kernel), List.mem_of_getElem? (i := 474) (by decide +kernel), List.mem_of_getElem? (i := 475) (by decide +kernel)⟩
theorem lw_p20 : lw_okq (⟨"MarkedRuns$Run", "goOnWithLoop", "(I)V"⟩, 11) := ⟨⟨by decide +kernel, by decide +kernel⟩, List.mem_of_getElem? (i := 60) (by decide +kernel), List.mem_of_getElem? (i := 478) (by decide +kernel), List.mem_of_getElem? (i := 479) (by decide +kernel)⟩
theorem lw_p21 : lw_okq (⟨"MarkedRuns$Run", "goOnWithTry", "(I)V"⟩, 11) := ⟨⟨by decide +kernel, by decide +kernel⟩, List.mem_of_getElem? (i := 60) (by decide +kernel), List.mem_of_getElem? (i := 482) (by decide +kernel), List.mem_of_getElem? (i := 483) (by decide +kernel)⟩
theorem lw_p22 : lw_okq (⟨"MarkedRuns$Run", "beginLastPart", "(I)V"⟩, 11) := ⟨⟨by decide +kernel, by decide +kernel⟩, List.mem_of_getElem? (i := 60) (by decide +kernel), List.mem_of_getElem? (i := 490) (by decide +kernel), List.mem_of_getElem? (i := 491) (by decide +kernel)⟩
theorem lw_p23 : lw_okq (⟨"MarkedRuns$Run", "payForLastPart", "()I"⟩, 11) := ⟨⟨by decide +kernel, by decide +kernel⟩, List.mem_of_getElem? (i := 60) (by decide +kernel), List.mem_of_getElem? (i := 494) (by decide +kernel), List.mem_of_getElem? (i := 495) (by decide +kernel)⟩
theorem lw_p24 : lw_okq (⟨"MarkedRuns$Run", "endLastPart", "()V"⟩, 11) := ⟨⟨by decide +kernel, by decide +kernel⟩, List.mem_of_getElem? (i := 60) (by decide +kernel), List.mem_of_getElem? (i := 510) (by decide +kernel), List.mem_of_getElem? (i := 511) (by decide +kernel)⟩
theorem lw_p25 : lw_okq (⟨"MarkedRuns", "counted", "(I)I"⟩, 4) := ⟨⟨by decide +kernel, by decide +kernel⟩, List.mem_of_getElem? (i := 20) (by decide +kernel), List.mem_of_getElem? (i := 530) (by decide +kernel), List.mem_of_getElem? (i := 531) (by decide +kernel)⟩
theorem lw_p26 : lw_okq (⟨"MarkedRuns$Memory", "rowEqualTo", "(LMarkedRuns$Memory;I)Z"⟩, 6) := ⟨⟨by decide +kernel, by decide +kernel⟩, List.mem_of_getElem? (i := 66) (by decide +kernel), List.mem_of_getElem? (i := 597) (by decide +kernel), List.mem_of_getElem? (i := 598) (by decide +kernel)⟩
theorem lw_p27 : lw_okq (⟨"java/lang/NullPointerException", "getExtendedNPEMessage", "()Ljava/lang/String;"⟩, 8) := ⟨⟨by decide +kernel, by decide +kernel⟩, List.mem_of_getElem? (i := 617) (by decide +kernel), List.mem_of_getElem? (i := 642) (by decide +kernel), List.mem_of_getElem? (i := 643) (by decide +kernel)⟩
theorem lw_p28 : lw_okq (⟨"java/lang/Throwable", "fillInStackTrace", "(I)Ljava/lang/Throwable;"⟩, 6) := ⟨⟨by decide +kernel, by decide +kernel⟩, List.mem_of_getElem? (i := 652) (by decide +kernel), List.mem_of_getElem? (i := 650) (by decide +kernel), List.mem_of_getElem? (i := 651) (by decide +kernel)⟩
theorem lw_p29 : lw_okq (⟨"MarkedRunsModel", "isRight", "(IIII)Z"⟩, 41) := ⟨⟨by decide +kernel, by decide +kernel⟩, List.mem_of_getElem? (i := 747) (by decide +kernel), List.mem_of_getElem? (i := 881) (by decide +kernel), List.mem_of_getElem? (i := 882) (by decide +kernel)⟩
theorem lw_p30 : lw_okq (⟨"MarkedRunsModel", "isStatement", "(I)Z"⟩, 41) := ⟨⟨by decide +kernel, by decide +kernel⟩, List.mem_of_getElem? (i := 747) (by decide +kernel), List.mem_of_getElem? (i := 888) (by decide +kernel), List.mem_of_getElem? (i := 889) (by decide +kernel)⟩
theorem lw_p31 : lw_okq (⟨"MarkedRunsModel", "heightOf", "(IIII)I"⟩, 41) := ⟨⟨by decide +kernel, by decide +kernel⟩, List.mem_of_getElem? (i := 747) (by decide +kernel), List.mem_of_getElem? (i := 892) (by decide +kernel), List.mem_of_getElem? (i := 893) (by decide +kernel)⟩
def lw_privs_2 : List (MethodName × Nat) := [(⟨"MarkedRuns$Run", "reaches", "(II)Z"⟩, 11), (⟨"MarkedRuns$Run", "measureRow", "(II)V"⟩, 11), (⟨"MarkedRuns$Run", "goOn", "(I)V"⟩, 11), (⟨"MarkedRuns$Run", "goOnWithBoth", "(I)V"⟩, 11), (⟨"MarkedRuns$Run", "goOnWithLoop", "(I)V"⟩, 11), (⟨"MarkedRuns$Run", "goOnWithTry", "(I)V"⟩, 11), (⟨"MarkedRuns$Run", "beginLastPart", "(I)V"⟩, 11), (⟨"MarkedRuns$Run", "payForLastPart", "()I"⟩, 11), (⟨"MarkedRuns$Run", "endLastPart", "()V"⟩, 11), (⟨"MarkedRuns", "counted", "(I)I"⟩, 4), (⟨"MarkedRuns$Memory", "rowEqualTo", "(LMarkedRuns$Memory;I)Z"⟩, 6), (⟨"java/lang/NullPointerException", "getExtendedNPEMessage", "()Ljava/lang/String;"⟩, 8), (⟨"java/lang/Throwable", "fillInStackTrace", "(I)Ljava/lang/Throwable;"⟩, 6), (⟨"MarkedRunsModel", "isRight", "(IIII)Z"⟩, 41), (⟨"MarkedRunsModel", "isStatement", "(I)Z"⟩, 41), (⟨"MarkedRunsModel", "heightOf", "(IIII)I"⟩, 41)]
theorem lw_r2 : ∀ q ∈ lw_privs_2, lw_okq q := List.forall_mem_cons.mpr ⟨lw_p16, List.forall_mem_cons.mpr ⟨lw_p17, List.forall_mem_cons.mpr ⟨lw_p18, List.forall_mem_cons.mpr ⟨lw_p19, List.forall_mem_cons.mpr ⟨lw_p20, List.forall_mem_cons.mpr ⟨lw_p21, List.forall_mem_cons.mpr ⟨lw_p22, List.forall_mem_cons.mpr ⟨lw_p23, List.forall_mem_cons.mpr ⟨lw_p24, List.forall_mem_cons.mpr ⟨lw_p25, List.forall_mem_cons.mpr ⟨lw_p26, List.forall_mem_cons.mpr ⟨lw_p27, List.forall_mem_cons.mpr ⟨lw_p28, List.forall_mem_cons.mpr ⟨lw_p29, List.forall_mem_cons.mpr ⟨lw_p30, List.forall_mem_cons.mpr ⟨lw_p31, fun _ h => absurd h List.not_mem_nil⟩⟩⟩⟩⟩⟩⟩⟩⟩⟩⟩⟩⟩⟩⟩⟩
theorem lw_p32 : lw_okq (⟨"MarkedRunsModel", "highest", "(II)I"⟩, 41) := ⟨⟨by decide +kernel, by decide +kernel⟩, List.mem_of_getElem? (i := 747) (by decide +kernel), List.mem_of_getElem? (i := 896) (by decide +kernel), List.mem_of_getElem? (i := 897) (by decide +kernel)⟩
theorem lw_p33 : lw_okq (⟨"MarkedRunsModel", "isRun", "(II)Z"⟩, 41) := ⟨⟨by decide +kernel, by decide +kernel⟩, List.mem_of_getElem? (i := 747) (by decide +kernel), List.mem_of_getElem? (i := 912) (by decide +kernel), List.mem_of_getElem? (i := 913) (by decide +kernel)⟩
theorem lw_p34 : lw_okq (⟨"MarkedRunsModel", "runs", "(III)I"⟩, 41) := ⟨⟨by decide +kernel, by decide +kernel⟩, List.mem_of_getElem? (i := 747) (by decide +kernel), List.mem_of_getElem? (i := 916) (by decide +kernel), List.mem_of_getElem? (i := 917) (by decide +kernel)⟩
theorem lw_p35 : lw_okq (⟨"MarkedRunsModel", "reset", "(II)V"⟩, 41) := ⟨⟨by decide +kernel, by decide +kernel⟩, List.mem_of_getElem? (i := 747) (by decide +kernel), List.mem_of_getElem? (i := 920) (by decide +kernel), List.mem_of_getElem? (i := 921) (by decide +kernel)⟩
theorem lw_p36 : lw_okq (⟨"MarkedRunsModel", "pays", "(II)Z"⟩, 41) := ⟨⟨by decide +kernel, by decide +kernel⟩, List.mem_of_getElem? (i := 747) (by decide +kernel), List.mem_of_getElem? (i := 924) (by decide +kernel), List.mem_of_getElem? (i := 925) (by decide +kernel)⟩
theorem lw_p37 : lw_okq (⟨"MarkedRunsModel", "endReserve", "()V"⟩, 41) := ⟨⟨by decide +kernel, by decide +kernel⟩, List.mem_of_getElem? (i := 747) (by decide +kernel), List.mem_of_getElem? (i := 928) (by decide +kernel), List.mem_of_getElem? (i := 929) (by decide +kernel)⟩
theorem lw_p38 : lw_okq (⟨"MarkedRunsModel", "leave", "(I)V"⟩, 41) := ⟨⟨by decide +kernel, by decide +kernel⟩, List.mem_of_getElem? (i := 747) (by decide +kernel), List.mem_of_getElem? (i := 932) (by decide +kernel), List.mem_of_getElem? (i := 933) (by decide +kernel)⟩
theorem lw_p39 : lw_okq (⟨"MarkedRunsModel", "push", "(I)V"⟩, 41) := ⟨⟨by decide +kernel, by decide +kernel⟩, List.mem_of_getElem? (i := 747) (by decide +kernel), List.mem_of_getElem? (i := 936) (by decide +kernel), List.mem_of_getElem? (i := 937) (by decide +kernel)⟩
theorem lw_p40 : lw_okq (⟨"MarkedRunsModel", "begin", "()V"⟩, 41) := ⟨⟨by decide +kernel, by decide +kernel⟩, List.mem_of_getElem? (i := 747) (by decide +kernel), List.mem_of_getElem? (i := 940) (by decide +kernel), List.mem_of_getElem? (i := 941) (by decide +kernel)⟩
theorem lw_p41 : lw_okq (⟨"MarkedRunsModel", "comes", "(I)V"⟩, 41) := ⟨⟨by decide +kernel, by decide +kernel⟩, List.mem_of_getElem? (i := 747) (by decide +kernel), List.mem_of_getElem? (i := 944) (by decide +kernel), List.mem_of_getElem? (i := 945) (by decide +kernel)⟩
theorem lw_p42 : lw_okq (⟨"MarkedRunsModel", "calls", "(I)V"⟩, 41) := ⟨⟨by decide +kernel, by decide +kernel⟩, List.mem_of_getElem? (i := 747) (by decide +kernel), List.mem_of_getElem? (i := 948) (by decide +kernel), List.mem_of_getElem? (i := 949) (by decide +kernel)⟩
theorem lw_p43 : lw_okq (⟨"MarkedRunsModel", "throwing", "(II)V"⟩, 41) := ⟨⟨by decide +kernel, by decide +kernel⟩, List.mem_of_getElem? (i := 747) (by decide +kernel), List.mem_of_getElem? (i := 952) (by decide +kernel), List.mem_of_getElem? (i := 953) (by decide +kernel)⟩
theorem lw_p44 : lw_okq (⟨"MarkedRunsModel", "enter", "(I)V"⟩, 41) := ⟨⟨by decide +kernel, by decide +kernel⟩, List.mem_of_getElem? (i := 747) (by decide +kernel), List.mem_of_getElem? (i := 956) (by decide +kernel), List.mem_of_getElem? (i := 957) (by decide +kernel)⟩
theorem lw_p45 : lw_okq (⟨"MarkedRunsModel", "locks", "(I)V"⟩, 41) := ⟨⟨by decide +kernel, by decide +kernel⟩, List.mem_of_getElem? (i := 747) (by decide +kernel), List.mem_of_getElem? (i := 960) (by decide +kernel), List.mem_of_getElem? (i := 961) (by decide +kernel)⟩
theorem lw_p46 : lw_okq (⟨"MarkedRunsModel", "simple", "(I)V"⟩, 41) := ⟨⟨by decide +kernel, by decide +kernel⟩, List.mem_of_getElem? (i := 747) (by decide +kernel), List.mem_of_getElem? (i := 964) (by decide +kernel), List.mem_of_getElem? (i := 965) (by decide +kernel)⟩
theorem lw_p47 : lw_okq (⟨"MarkedRunsModel", "making", "(I)V"⟩, 41) := ⟨⟨by decide +kernel, by decide +kernel⟩, List.mem_of_getElem? (i := 747) (by decide +kernel), List.mem_of_getElem? (i := 968) (by decide +kernel), List.mem_of_getElem? (i := 969) (by decide +kernel)⟩
def lw_privs_3 : List (MethodName × Nat) := [(⟨"MarkedRunsModel", "highest", "(II)I"⟩, 41), (⟨"MarkedRunsModel", "isRun", "(II)Z"⟩, 41), (⟨"MarkedRunsModel", "runs", "(III)I"⟩, 41), (⟨"MarkedRunsModel", "reset", "(II)V"⟩, 41), (⟨"MarkedRunsModel", "pays", "(II)Z"⟩, 41), (⟨"MarkedRunsModel", "endReserve", "()V"⟩, 41), (⟨"MarkedRunsModel", "leave", "(I)V"⟩, 41), (⟨"MarkedRunsModel", "push", "(I)V"⟩, 41), (⟨"MarkedRunsModel", "begin", "()V"⟩, 41), (⟨"MarkedRunsModel", "comes", "(I)V"⟩, 41), (⟨"MarkedRunsModel", "calls", "(I)V"⟩, 41), (⟨"MarkedRunsModel", "throwing", "(II)V"⟩, 41), (⟨"MarkedRunsModel", "enter", "(I)V"⟩, 41), (⟨"MarkedRunsModel", "locks", "(I)V"⟩, 41), (⟨"MarkedRunsModel", "simple", "(I)V"⟩, 41), (⟨"MarkedRunsModel", "making", "(I)V"⟩, 41)]
theorem lw_r3 : ∀ q ∈ lw_privs_3, lw_okq q := List.forall_mem_cons.mpr ⟨lw_p32, List.forall_mem_cons.mpr ⟨lw_p33, List.forall_mem_cons.mpr ⟨lw_p34, List.forall_mem_cons.mpr ⟨lw_p35, List.forall_mem_cons.mpr ⟨lw_p36, List.forall_mem_cons.mpr ⟨lw_p37, List.forall_mem_cons.mpr ⟨lw_p38, List.forall_mem_cons.mpr ⟨lw_p39, List.forall_mem_cons.mpr ⟨lw_p40, List.forall_mem_cons.mpr ⟨lw_p41, List.forall_mem_cons.mpr ⟨lw_p42, List.forall_mem_cons.mpr ⟨lw_p43, List.forall_mem_cons.mpr ⟨lw_p44, List.forall_mem_cons.mpr ⟨lw_p45, List.forall_mem_cons.mpr ⟨lw_p46, List.forall_mem_cons.mpr ⟨lw_p47, fun _ h => absurd h List.not_mem_nil⟩⟩⟩⟩⟩⟩⟩⟩⟩⟩⟩⟩⟩⟩⟩⟩
theorem lw_p48 : lw_okq (⟨"MarkedRunsModel", "has", "(II)Z"⟩, 41) := ⟨⟨by decide +kernel, by decide +kernel⟩, List.mem_of_getElem? (i := 747) (by decide +kernel), List.mem_of_getElem? (i := 972) (by decide +kernel), List.mem_of_getElem? (i := 973) (by decide +kernel)⟩
theorem lw_p49 : lw_okq (⟨"MarkedRunsModel", "reckon", "(I)V"⟩, 41) := ⟨⟨by decide +kernel, by decide +kernel⟩, List.mem_of_getElem? (i := 747) (by decide +kernel), List.mem_of_getElem? (i := 976) (by decide +kernel), List.mem_of_getElem? (i := 977) (by decide +kernel)⟩
theorem lw_p50 : lw_okq (⟨"MarkedRunsModel", "tell", "()V"⟩, 41) := ⟨⟨by decide +kernel, by decide +kernel⟩, List.mem_of_getElem? (i := 747) (by decide +kernel), List.mem_of_getElem? (i := 980) (by decide +kernel), List.mem_of_getElem? (i := 981) (by decide +kernel)⟩
theorem lw_p51 : lw_okq (⟨"MarkedRunsModel", "second", "(I)V"⟩, 41) := ⟨⟨by decide +kernel, by decide +kernel⟩, List.mem_of_getElem? (i := 747) (by decide +kernel), List.mem_of_getElem? (i := 984) (by decide +kernel), List.mem_of_getElem? (i := 985) (by decide +kernel)⟩
theorem lw_p52 : lw_okq (⟨"MarkedRunsModel", "handles", "(I)V"⟩, 41) := ⟨⟨by decide +kernel, by decide +kernel⟩, List.mem_of_getElem? (i := 747) (by decide +kernel), List.mem_of_getElem? (i := 988) (by decide +kernel), List.mem_of_getElem? (i := 989) (by decide +kernel)⟩
theorem lw_p53 : lw_okq (⟨"MarkedRunsModel", "note", "(I)V"⟩, 41) := ⟨⟨by decide +kernel, by decide +kernel⟩, List.mem_of_getElem? (i := 747) (by decide +kernel), List.mem_of_getElem? (i := 992) (by decide +kernel), List.mem_of_getElem? (i := 993) (by decide +kernel)⟩
theorem lw_p54 : lw_okq (⟨"MarkedRunsModel", "finalOf", "(I)V"⟩, 41) := ⟨⟨by decide +kernel, by decide +kernel⟩, List.mem_of_getElem? (i := 747) (by decide +kernel), List.mem_of_getElem? (i := 996) (by decide +kernel), List.mem_of_getElem? (i := 997) (by decide +kernel)⟩
theorem lw_p55 : lw_okq (⟨"MarkedRunsModel", "lastDone", "()V"⟩, 41) := ⟨⟨by decide +kernel, by decide +kernel⟩, List.mem_of_getElem? (i := 747) (by decide +kernel), List.mem_of_getElem? (i := 1000) (by decide +kernel), List.mem_of_getElem? (i := 1001) (by decide +kernel)⟩
theorem lw_p56 : lw_okq (⟨"MarkedRunsModel", "fail", "(I)I"⟩, 41) := ⟨⟨by decide +kernel, by decide +kernel⟩, List.mem_of_getElem? (i := 747) (by decide +kernel), List.mem_of_getElem? (i := 1028) (by decide +kernel), List.mem_of_getElem? (i := 1029) (by decide +kernel)⟩
def lw_privs_4 : List (MethodName × Nat) := [(⟨"MarkedRunsModel", "has", "(II)Z"⟩, 41), (⟨"MarkedRunsModel", "reckon", "(I)V"⟩, 41), (⟨"MarkedRunsModel", "tell", "()V"⟩, 41), (⟨"MarkedRunsModel", "second", "(I)V"⟩, 41), (⟨"MarkedRunsModel", "handles", "(I)V"⟩, 41), (⟨"MarkedRunsModel", "note", "(I)V"⟩, 41), (⟨"MarkedRunsModel", "finalOf", "(I)V"⟩, 41), (⟨"MarkedRunsModel", "lastDone", "()V"⟩, 41), (⟨"MarkedRunsModel", "fail", "(I)I"⟩, 41)]
theorem lw_r4 : ∀ q ∈ lw_privs_4, lw_okq q := List.forall_mem_cons.mpr ⟨lw_p48, List.forall_mem_cons.mpr ⟨lw_p49, List.forall_mem_cons.mpr ⟨lw_p50, List.forall_mem_cons.mpr ⟨lw_p51, List.forall_mem_cons.mpr ⟨lw_p52, List.forall_mem_cons.mpr ⟨lw_p53, List.forall_mem_cons.mpr ⟨lw_p54, List.forall_mem_cons.mpr ⟨lw_p55, List.forall_mem_cons.mpr ⟨lw_p56, fun _ h => absurd h List.not_mem_nil⟩⟩⟩⟩⟩⟩⟩⟩⟩
def lw_privs : List (MethodName × Nat) := lw_privs_1 ++ (lw_privs_2 ++ (lw_privs_3 ++ (lw_privs_4)))
def lw_tbl : List Cond := k2_sels lw_privs ++ tables_1
theorem lw_privs_ok : ∀ q ∈ lw_privs, lw_okq q := by
  show ∀ q ∈ lw_privs_1 ++ (lw_privs_2 ++ (lw_privs_3 ++ (lw_privs_4))), lw_okq q
  exact List.forall_mem_append.mpr ⟨lw_r1, List.forall_mem_append.mpr ⟨lw_r2, List.forall_mem_append.mpr ⟨lw_r3, lw_r4⟩⟩⟩
-- ===== end of PART A; then your names; then what follows =====
def RX0 : String := "MarkedRuns$Frames"
def TX0 : u_T := fun k => match k with
  | 0 => ("MarkedRuns$Frames", "statements", "[I", true)
  | 1 => ("MarkedRuns$Frames", "stages", "[I", true)
  | 2 => ("MarkedRuns$Frames", "keptEndings", "[I", true)
  | 3 => ("MarkedRuns$Frames", "keptKinds", "[I", true)
  | 4 => ("MarkedRuns$Frames", "keptNumbers", "[I", true)
  | _ => ("MarkedRuns$Frames", "depth", "I", false)
def tyX0 : Nat → FieldType := fun k => match k with
  | 0 => .array .int
  | 1 => .array .int
  | 2 => .array .int
  | 3 => .array .int
  | 4 => .array .int
  | _ => .int
abbrev wsX00 : List Cond := u_ws RX0 TX0 6
theorem nmX0 : ∀ a, a < 6 → ∀ b, b < 6 → a ≠ b → (TX0 a).2.1 ≠ (TX0 b).2.1 := by decide +kernel
theorem tyX0_ok : ∀ k, k < 6 → parseFieldDescriptor (TX0 k).2.2.1 = some (tyX0 k) := by decide +kernel
abbrev cX0_init : ByteArray := prog_2_method_1_code
def yX0_init : MethodName := ⟨RX0, "<init>", "()V"⟩
abbrev cX0_clear : ByteArray := prog_2_method_2_code
def yX0_clear : MethodName := ⟨RX0, "clear", "()V"⟩
abbrev cX0_isEmpty : ByteArray := prog_2_method_3_code
def yX0_isEmpty : MethodName := ⟨RX0, "isEmpty", "()Z"⟩
abbrev cX0_open : ByteArray := prog_2_method_4_code
def yX0_open : MethodName := ⟨RX0, "open", "(I)V"⟩
abbrev cX0_close : ByteArray := prog_2_method_5_code
def yX0_close : MethodName := ⟨RX0, "close", "()V"⟩
abbrev cX0_statement : ByteArray := prog_2_method_6_code
def yX0_statement : MethodName := ⟨RX0, "statement", "()I"⟩
abbrev cX0_stage : ByteArray := prog_2_method_7_code
def yX0_stage : MethodName := ⟨RX0, "stage", "()I"⟩
abbrev cX0_setStage : ByteArray := prog_2_method_8_code
def yX0_setStage : MethodName := ⟨RX0, "setStage", "(I)V"⟩
abbrev cX0_keep : ByteArray := prog_2_method_9_code
def yX0_keep : MethodName := ⟨RX0, "keep", "(III)V"⟩
abbrev cX0_keptEnding : ByteArray := prog_2_method_10_code
def yX0_keptEnding : MethodName := ⟨RX0, "keptEnding", "()I"⟩
abbrev cX0_keptKind : ByteArray := prog_2_method_11_code
def yX0_keptKind : MethodName := ⟨RX0, "keptKind", "()I"⟩
abbrev cX0_keptNumber : ByteArray := prog_2_method_12_code
def yX0_keptNumber : MethodName := ⟨RX0, "keptNumber", "()I"⟩
def RX1 : String := "MarkedRuns$Kind"
def TX1 : u_T := fun k => match k with
  | _ => ("", "", "", false)
def tyX1 : Nat → FieldType := fun k => match k with
  | _ => .int
abbrev wsX10 : List Cond := u_ws RX1 TX1 0
theorem nmX1 : ∀ a, a < 0 → ∀ b, b < 0 → a ≠ b → (TX1 a).2.1 ≠ (TX1 b).2.1 := by decide +kernel
theorem tyX1_ok : ∀ k, k < 0 → parseFieldDescriptor (TX1 k).2.2.1 = some (tyX1 k) := by decide +kernel
def RX2 : String := "MarkedRuns$Locks"
def TX2 : u_T := fun k => match k with
  | 0 => ("MarkedRuns$Locks", "held", "[I", true)
  | _ => ("MarkedRuns$Locks", "most", "I", false)
def tyX2 : Nat → FieldType := fun k => match k with
  | 0 => .array .int
  | _ => .int
abbrev wsX20 : List Cond := u_ws RX2 TX2 2
theorem nmX2 : ∀ a, a < 2 → ∀ b, b < 2 → a ≠ b → (TX2 a).2.1 ≠ (TX2 b).2.1 := by decide +kernel
theorem tyX2_ok : ∀ k, k < 2 → parseFieldDescriptor (TX2 k).2.2.1 = some (tyX2 k) := by decide +kernel
abbrev cX2_init : ByteArray := prog_4_method_1_code
def yX2_init : MethodName := ⟨RX2, "<init>", "()V"⟩
abbrev cX2_clear : ByteArray := prog_4_method_2_code
def yX2_clear : MethodName := ⟨RX2, "clear", "()V"⟩
abbrev cX2_take : ByteArray := prog_4_method_3_code
def yX2_take : MethodName := ⟨RX2, "take", "(I)V"⟩
abbrev cX2_free : ByteArray := prog_4_method_4_code
def yX2_free : MethodName := ⟨RX2, "free", "(I)V"⟩
abbrev cX2_most : ByteArray := prog_4_method_5_code
def yX2_most : MethodName := ⟨RX2, "most", "()I"⟩
abbrev cX2_sum : ByteArray := prog_4_method_6_code
def yX2_sum : MethodName := ⟨RX2, "sum", "()I"⟩
def RX3 : String := "MarkedRuns$Mark"
def TX3 : u_T := fun k => match k with
  | _ => ("", "", "", false)
def tyX3 : Nat → FieldType := fun k => match k with
  | _ => .int
abbrev wsX30 : List Cond := u_ws RX3 TX3 0
theorem nmX3 : ∀ a, a < 0 → ∀ b, b < 0 → a ≠ b → (TX3 a).2.1 ≠ (TX3 b).2.1 := by decide +kernel
theorem tyX3_ok : ∀ k, k < 0 → parseFieldDescriptor (TX3 k).2.2.1 = some (tyX3 k) := by decide +kernel
abbrev cX3_makingPrice : ByteArray := prog_5_method_2_code
def yX3_makingPrice : MethodName := ⟨RX3, "makingPrice", "(I)I"⟩
def RX4 : String := "MarkedRuns$Memory"
def TX4 : u_T := fun k => match k with
  | 0 => ("MarkedRuns$Memory", "variables", "[I", true)
  | 1 => ("MarkedRuns$Memory", "starts", "[I", true)
  | 2 => ("MarkedRuns$Memory", "lengths", "[I", true)
  | 3 => ("MarkedRuns$Memory", "cells", "[I", true)
  | 4 => ("MarkedRuns$Memory", "used", "I", false)
  | _ => ("MarkedRuns$Memory", "result", "I", false)
def tyX4 : Nat → FieldType := fun k => match k with
  | 0 => .array .int
  | 1 => .array .int
  | 2 => .array .int
  | 3 => .array .int
  | 4 => .int
  | _ => .int
abbrev wsX40 : List Cond := u_ws RX4 TX4 6
theorem nmX4 : ∀ a, a < 6 → ∀ b, b < 6 → a ≠ b → (TX4 a).2.1 ≠ (TX4 b).2.1 := by decide +kernel
theorem tyX4_ok : ∀ k, k < 6 → parseFieldDescriptor (TX4 k).2.2.1 = some (tyX4 k) := by decide +kernel
abbrev cX4_init : ByteArray := prog_6_method_1_code
def yX4_init : MethodName := ⟨RX4, "<init>", "()V"⟩
abbrev cX4_clear : ByteArray := prog_6_method_2_code
def yX4_clear : MethodName := ⟨RX4, "clear", "()V"⟩
abbrev cX4_read : ByteArray := prog_6_method_3_code
def yX4_read : MethodName := ⟨RX4, "read", "(I)I"⟩
abbrev cX4_write : ByteArray := prog_6_method_4_code
def yX4_write : MethodName := ⟨RX4, "write", "(II)V"⟩
abbrev cX4_result : ByteArray := prog_6_method_5_code
def yX4_result : MethodName := ⟨RX4, "result", "()I"⟩
abbrev cX4_setResult : ByteArray := prog_6_method_6_code
def yX4_setResult : MethodName := ⟨RX4, "setResult", "(I)V"⟩
abbrev cX4_lengthOf : ByteArray := prog_6_method_7_code
def yX4_lengthOf : MethodName := ⟨RX4, "lengthOf", "(I)I"⟩
abbrev cX4_makeRow : ByteArray := prog_6_method_8_code
def yX4_makeRow : MethodName := ⟨RX4, "makeRow", "(II)V"⟩
abbrev cX4_forgetRow : ByteArray := prog_6_method_9_code
def yX4_forgetRow : MethodName := ⟨RX4, "forgetRow", "(I)V"⟩
abbrev cX4_shareRow : ByteArray := prog_6_method_10_code
def yX4_shareRow : MethodName := ⟨RX4, "shareRow", "(II)V"⟩
abbrev cX4_load : ByteArray := prog_6_method_11_code
def yX4_load : MethodName := ⟨RX4, "load", "(II)I"⟩
abbrev cX4_store : ByteArray := prog_6_method_12_code
def yX4_store : MethodName := ⟨RX4, "store", "(III)V"⟩
abbrev cX4_equalTo : ByteArray := prog_6_method_13_code
def yX4_equalTo : MethodName := ⟨RX4, "equalTo", "(LMarkedRuns$Memory;)Z"⟩
abbrev cX4_rowEqualTo : ByteArray := prog_6_method_14_code
def yX4_rowEqualTo : MethodName := ⟨RX4, "rowEqualTo", "(LMarkedRuns$Memory;I)Z"⟩
def RX5 : String := "MarkedRuns$Program"
def TX5 : u_T := fun k => match k with
  | 0 => ("MarkedRuns$Program", "sorts", "[I", true)
  | 1 => ("MarkedRuns$Program", "firsts", "[I", true)
  | 2 => ("MarkedRuns$Program", "seconds", "[I", true)
  | 3 => ("MarkedRuns$Program", "thirds", "[I", true)
  | 4 => ("MarkedRuns$Program", "heights", "[I", true)
  | 5 => ("MarkedRuns$Program", "bodyByMethod", "[I", true)
  | _ => ("MarkedRuns$Program", "many", "I", false)
def tyX5 : Nat → FieldType := fun k => match k with
  | 0 => .array .int
  | 1 => .array .int
  | 2 => .array .int
  | 3 => .array .int
  | 4 => .array .int
  | 5 => .array .int
  | _ => .int
abbrev wsX50 : List Cond := u_ws RX5 TX5 7
theorem nmX5 : ∀ a, a < 7 → ∀ b, b < 7 → a ≠ b → (TX5 a).2.1 ≠ (TX5 b).2.1 := by decide +kernel
theorem tyX5_ok : ∀ k, k < 7 → parseFieldDescriptor (TX5 k).2.2.1 = some (tyX5 k) := by decide +kernel
abbrev cX5_init : ByteArray := prog_7_method_1_code
def yX5_init : MethodName := ⟨RX5, "<init>", "()V"⟩
abbrev cX5_statements : ByteArray := prog_7_method_2_code
def yX5_statements : MethodName := ⟨RX5, "statements", "()I"⟩
abbrev cX5_bodies : ByteArray := prog_7_method_3_code
def yX5_bodies : MethodName := ⟨RX5, "bodies", "()I"⟩
abbrev cX5_isFull : ByteArray := prog_7_method_4_code
def yX5_isFull : MethodName := ⟨RX5, "isFull", "()Z"⟩
abbrev cX5_has : ByteArray := prog_7_method_5_code
def yX5_has : MethodName := ⟨RX5, "has", "(I)Z"⟩
abbrev cX5_sortOf : ByteArray := prog_7_method_6_code
def yX5_sortOf : MethodName := ⟨RX5, "sortOf", "(I)I"⟩
abbrev cX5_firstOf : ByteArray := prog_7_method_7_code
def yX5_firstOf : MethodName := ⟨RX5, "firstOf", "(I)I"⟩
abbrev cX5_secondOf : ByteArray := prog_7_method_8_code
def yX5_secondOf : MethodName := ⟨RX5, "secondOf", "(I)I"⟩
abbrev cX5_thirdOf : ByteArray := prog_7_method_9_code
def yX5_thirdOf : MethodName := ⟨RX5, "thirdOf", "(I)I"⟩
abbrev cX5_bodyOf : ByteArray := prog_7_method_10_code
def yX5_bodyOf : MethodName := ⟨RX5, "bodyOf", "(I)I"⟩
abbrev cX5_setBody : ByteArray := prog_7_method_11_code
def yX5_setBody : MethodName := ⟨RX5, "setBody", "(II)V"⟩
abbrev cX5_takes : ByteArray := prog_7_method_12_code
def yX5_takes : MethodName := ⟨RX5, "takes", "(IIII)Z"⟩
abbrev cX5_add : ByteArray := prog_7_method_13_code
def yX5_add : MethodName := ⟨RX5, "add", "(IIII)I"⟩
abbrev cX5_canLoseLast : ByteArray := prog_7_method_14_code
def yX5_canLoseLast : MethodName := ⟨RX5, "canLoseLast", "()Z"⟩
abbrev cX5_loseLast : ByteArray := prog_7_method_15_code
def yX5_loseLast : MethodName := ⟨RX5, "loseLast", "()I"⟩
abbrev cX5_operandsFit : ByteArray := prog_7_method_16_code
def yX5_operandsFit : MethodName := ⟨RX5, "operandsFit", "(IIII)Z"⟩
abbrev cX5_heightWith : ByteArray := prog_7_method_17_code
def yX5_heightWith : MethodName := ⟨RX5, "heightWith", "(IIII)I"⟩
abbrev cX5_heightOf : ByteArray := prog_7_method_18_code
def yX5_heightOf : MethodName := ⟨RX5, "heightOf", "(I)I"⟩
abbrev cX5_isVariable : ByteArray := prog_7_method_19_code
def yX5_isVariable : MethodName := ⟨RX5, "isVariable", "(I)Z"⟩
abbrev cX5_isRow : ByteArray := prog_7_method_20_code
def yX5_isRow : MethodName := ⟨RX5, "isRow", "(I)Z"⟩
def RX6 : String := "MarkedRuns$Purse"
def TX6 : u_T := fun k => match k with
  | 0 => ("MarkedRuns$Purse", "countByMark", "[I", true)
  | 1 => ("MarkedRuns$Purse", "begun", "[I", true)
  | 2 => ("MarkedRuns$Purse", "manyBegun", "I", false)
  | 3 => ("MarkedRuns$Purse", "budget", "I", false)
  | 4 => ("MarkedRuns$Purse", "reserve", "I", false)
  | 5 => ("MarkedRuns$Purse", "spentOfBudget", "I", false)
  | 6 => ("MarkedRuns$Purse", "spentOfReserve", "I", false)
  | _ => ("MarkedRuns$Purse", "byReserve", "Z", false)
def tyX6 : Nat → FieldType := fun k => match k with
  | 0 => .array .int
  | 1 => .array .int
  | 2 => .int
  | 3 => .int
  | 4 => .int
  | 5 => .int
  | 6 => .int
  | _ => .boolean
abbrev wsX60 : List Cond := u_ws RX6 TX6 8
theorem nmX6 : ∀ a, a < 8 → ∀ b, b < 8 → a ≠ b → (TX6 a).2.1 ≠ (TX6 b).2.1 := by decide +kernel
theorem tyX6_ok : ∀ k, k < 8 → parseFieldDescriptor (TX6 k).2.2.1 = some (tyX6 k) := by decide +kernel
abbrev cX6_init : ByteArray := prog_8_method_1_code
def yX6_init : MethodName := ⟨RX6, "<init>", "()V"⟩
abbrev cX6_fill : ByteArray := prog_8_method_2_code
def yX6_fill : MethodName := ⟨RX6, "fill", "(I)V"⟩
abbrev cX6_isByReserve : ByteArray := prog_8_method_3_code
def yX6_isByReserve : MethodName := ⟨RX6, "isByReserve", "()Z"⟩
abbrev cX6_setByReserve : ByteArray := prog_8_method_4_code
def yX6_setByReserve : MethodName := ⟨RX6, "setByReserve", "(Z)V"⟩
abbrev cX6_pays : ByteArray := prog_8_method_5_code
def yX6_pays : MethodName := ⟨RX6, "pays", "(II)Z"⟩
abbrev cX6_noteBegun : ByteArray := prog_8_method_6_code
def yX6_noteBegun : MethodName := ⟨RX6, "noteBegun", "(I)V"⟩
abbrev cX6_begunAt : ByteArray := prog_8_method_7_code
def yX6_begunAt : MethodName := ⟨RX6, "begunAt", "(I)I"⟩
abbrev cX6_marksOf : ByteArray := prog_8_method_8_code
def yX6_marksOf : MethodName := ⟨RX6, "marksOf", "(I)I"⟩
abbrev cX6_spentOfBudget : ByteArray := prog_8_method_9_code
def yX6_spentOfBudget : MethodName := ⟨RX6, "spentOfBudget", "()I"⟩
abbrev cX6_spentOfReserve : ByteArray := prog_8_method_10_code
def yX6_spentOfReserve : MethodName := ⟨RX6, "spentOfReserve", "()I"⟩
def RX7 : String := "MarkedRuns$Run"
def TX7 : u_T := fun k => match k with
  | 0 => ("MarkedRuns$Run", "program", "LMarkedRuns$Program;", true)
  | 1 => ("MarkedRuns$Run", "memory", "LMarkedRuns$Memory;", true)
  | 2 => ("MarkedRuns$Run", "purse", "LMarkedRuns$Purse;", true)
  | 3 => ("MarkedRuns$Run", "locks", "LMarkedRuns$Locks;", true)
  | 4 => ("MarkedRuns$Run", "frames", "LMarkedRuns$Frames;", true)
  | 5 => ("MarkedRuns$Run", "answer", "I", false)
  | 6 => ("MarkedRuns$Run", "methods", "I", false)
  | 7 => ("MarkedRuns$Run", "mostMethods", "I", false)
  | 8 => ("MarkedRuns$Run", "ending", "I", false)
  | 9 => ("MarkedRuns$Run", "kind", "I", false)
  | _ => ("MarkedRuns$Run", "number", "I", false)
def tyX7 : Nat → FieldType := fun k => match k with
  | 0 => .object "MarkedRuns$Program"
  | 1 => .object "MarkedRuns$Memory"
  | 2 => .object "MarkedRuns$Purse"
  | 3 => .object "MarkedRuns$Locks"
  | 4 => .object "MarkedRuns$Frames"
  | 5 => .int
  | 6 => .int
  | 7 => .int
  | 8 => .int
  | 9 => .int
  | _ => .int
abbrev wsX70 : List Cond := u_ws RX7 TX7 11
theorem nmX7 : ∀ a, a < 11 → ∀ b, b < 11 → a ≠ b → (TX7 a).2.1 ≠ (TX7 b).2.1 := by decide +kernel
theorem tyX7_ok : ∀ k, k < 11 → parseFieldDescriptor (TX7 k).2.2.1 = some (tyX7 k) := by decide +kernel
abbrev cX7_init : ByteArray := prog_9_method_1_code
def yX7_init : MethodName := ⟨RX7, "<init>", "(LMarkedRuns$Program;)V"⟩
abbrev cX7_perform : ByteArray := prog_9_method_2_code
def yX7_perform : MethodName := ⟨RX7, "perform", "(III)I"⟩
abbrev cX7_tell : ByteArray := prog_9_method_3_code
def yX7_tell : MethodName := ⟨RX7, "tell", "(I)I"⟩
abbrev cX7_tellsTheSameAs : ByteArray := prog_9_method_4_code
def yX7_tellsTheSameAs : MethodName := ⟨RX7, "tellsTheSameAs", "(LMarkedRuns$Run;)Z"⟩
abbrev cX7_clear : ByteArray := prog_9_method_5_code
def yX7_clear : MethodName := ⟨RX7, "clear", "(II)V"⟩
abbrev cX7_begin : ByteArray := prog_9_method_6_code
def yX7_begin : MethodName := ⟨RX7, "begin", "(I)V"⟩
abbrev cX7_goOn : ByteArray := prog_9_method_7_code
def yX7_goOn : MethodName := ⟨RX7, "goOn", "(I)V"⟩
abbrev cX7_goOnWithBoth : ByteArray := prog_9_method_8_code
def yX7_goOnWithBoth : MethodName := ⟨RX7, "goOnWithBoth", "(I)V"⟩
abbrev cX7_goOnWithLoop : ByteArray := prog_9_method_9_code
def yX7_goOnWithLoop : MethodName := ⟨RX7, "goOnWithLoop", "(I)V"⟩
abbrev cX7_goOnWithTry : ByteArray := prog_9_method_10_code
def yX7_goOnWithTry : MethodName := ⟨RX7, "goOnWithTry", "(I)V"⟩
abbrev cX7_beginLastPart : ByteArray := prog_9_method_11_code
def yX7_beginLastPart : MethodName := ⟨RX7, "beginLastPart", "(I)V"⟩
abbrev cX7_payForLastPart : ByteArray := prog_9_method_12_code
def yX7_payForLastPart : MethodName := ⟨RX7, "payForLastPart", "()I"⟩
abbrev cX7_endLastPart : ByteArray := prog_9_method_13_code
def yX7_endLastPart : MethodName := ⟨RX7, "endLastPart", "()V"⟩
abbrev cX7_loopOrEnd : ByteArray := prog_9_method_14_code
def yX7_loopOrEnd : MethodName := ⟨RX7, "loopOrEnd", "(II)V"⟩
abbrev cX7_call : ByteArray := prog_9_method_15_code
def yX7_call : MethodName := ⟨RX7, "call", "(I)V"⟩
abbrev cX7_enter : ByteArray := prog_9_method_16_code
def yX7_enter : MethodName := ⟨RX7, "enter", "(I)V"⟩
abbrev cX7_doPart : ByteArray := prog_9_method_17_code
def yX7_doPart : MethodName := ⟨RX7, "doPart", "(II)V"⟩
abbrev cX7_end : ByteArray := prog_9_method_18_code
def yX7_end : MethodName := ⟨RX7, "end", "(I)V"⟩
abbrev cX7_raise : ByteArray := prog_9_method_19_code
def yX7_raise : MethodName := ⟨RX7, "raise", "(II)V"⟩
abbrev cX7_doAtOnce : ByteArray := prog_9_method_20_code
def yX7_doAtOnce : MethodName := ⟨RX7, "doAtOnce", "(IIII)V"⟩
abbrev cX7_calculate : ByteArray := prog_9_method_21_code
def yX7_calculate : MethodName := ⟨RX7, "calculate", "(IIII)V"⟩
abbrev cX7_divide : ByteArray := prog_9_method_22_code
def yX7_divide : MethodName := ⟨RX7, "divide", "(IIII)V"⟩
abbrev cX7_doWithRow : ByteArray := prog_9_method_23_code
def yX7_doWithRow : MethodName := ⟨RX7, "doWithRow", "(IIII)V"⟩
abbrev cX7_makeRow : ByteArray := prog_9_method_24_code
def yX7_makeRow : MethodName := ⟨RX7, "makeRow", "(II)V"⟩
abbrev cX7_measureRow : ByteArray := prog_9_method_25_code
def yX7_measureRow : MethodName := ⟨RX7, "measureRow", "(II)V"⟩
abbrev cX7_reaches : ByteArray := prog_9_method_26_code
def yX7_reaches : MethodName := ⟨RX7, "reaches", "(II)Z"⟩
def RX8 : String := "MarkedRuns$Sort"
def TX8 : u_T := fun k => match k with
  | _ => ("", "", "", false)
def tyX8 : Nat → FieldType := fun k => match k with
  | _ => .int
abbrev wsX80 : List Cond := u_ws RX8 TX8 0
theorem nmX8 : ∀ a, a < 0 → ∀ b, b < 0 → a ≠ b → (TX8 a).2.1 ≠ (TX8 b).2.1 := by decide +kernel
theorem tyX8_ok : ∀ k, k < 0 → parseFieldDescriptor (TX8 k).2.2.1 = some (tyX8 k) := by decide +kernel
def RX9 : String := "MarkedRuns"
def TX9 : u_T := fun k => match k with
  | 0 => ("MarkedRuns", "program", "LMarkedRuns$Program;", true)
  | 1 => ("MarkedRuns", "runsByAnswer", "[I", true)
  | 2 => ("MarkedRuns", "latest", "LMarkedRuns$Run;", false)
  | _ => ("MarkedRuns", "earlier", "LMarkedRuns$Run;", false)
def tyX9 : Nat → FieldType := fun k => match k with
  | 0 => .object "MarkedRuns$Program"
  | 1 => .array .int
  | 2 => .object "MarkedRuns$Run"
  | _ => .object "MarkedRuns$Run"
abbrev wsX90 : List Cond := u_ws RX9 TX9 4
theorem nmX9 : ∀ a, a < 4 → ∀ b, b < 4 → a ≠ b → (TX9 a).2.1 ≠ (TX9 b).2.1 := by decide +kernel
theorem tyX9_ok : ∀ k, k < 4 → parseFieldDescriptor (TX9 k).2.2.1 = some (tyX9 k) := by decide +kernel
abbrev cX9_init : ByteArray := prog_1_method_1_code
def yX9_init : MethodName := ⟨RX9, "<init>", "()V"⟩
abbrev cX9_make : ByteArray := prog_1_method_2_code
def yX9_make : MethodName := ⟨RX9, "make", "(IIII)I"⟩
abbrev cX9_drop : ByteArray := prog_1_method_3_code
def yX9_drop : MethodName := ⟨RX9, "drop", "()I"⟩
abbrev cX9_body : ByteArray := prog_1_method_4_code
def yX9_body : MethodName := ⟨RX9, "body", "(II)I"⟩
abbrev cX9_run : ByteArray := prog_1_method_5_code
def yX9_run : MethodName := ⟨RX9, "run", "(III)I"⟩
abbrev cX9_told : ByteArray := prog_1_method_6_code
def yX9_told : MethodName := ⟨RX9, "told", "(I)I"⟩
abbrev cX9_marks : ByteArray := prog_1_method_7_code
def yX9_marks : MethodName := ⟨RX9, "marks", "(I)I"⟩
abbrev cX9_began : ByteArray := prog_1_method_8_code
def yX9_began : MethodName := ⟨RX9, "began", "(I)I"⟩
abbrev cX9_variable : ByteArray := prog_1_method_9_code
def yX9_variable : MethodName := ⟨RX9, "variable", "(I)I"⟩
abbrev cX9_size : ByteArray := prog_1_method_10_code
def yX9_size : MethodName := ⟨RX9, "size", "(I)I"⟩
abbrev cX9_item : ByteArray := prog_1_method_11_code
def yX9_item : MethodName := ⟨RX9, "item", "(II)I"⟩
abbrev cX9_same : ByteArray := prog_1_method_12_code
def yX9_same : MethodName := ⟨RX9, "same", "(IIII)I"⟩
abbrev cX9_count : ByteArray := prog_1_method_13_code
def yX9_count : MethodName := ⟨RX9, "count", "(I)I"⟩
abbrev cX9_counted : ByteArray := prog_1_method_14_code
def yX9_counted : MethodName := ⟨RX9, "counted", "(I)I"⟩
abbrev cX9_isBudget : ByteArray := prog_1_method_15_code
def yX9_isBudget : MethodName := ⟨RX9, "isBudget", "(I)Z"⟩
abbrev cX9_isBelow : ByteArray := prog_1_method_16_code
def yX9_isBelow : MethodName := ⟨RX9, "isBelow", "(II)Z"⟩
def RX10 : String := "MarkedRunsModel"
def TX10 : u_T := fun k => match k with
  | 0 => ("MarkedRunsModel", "thrown", "I", false)
  | 1 => ("MarkedRunsModel", "many", "I", false)
  | 2 => ("MarkedRunsModel", "sort", "[I", true)
  | 3 => ("MarkedRunsModel", "partA", "[I", true)
  | 4 => ("MarkedRunsModel", "partB", "[I", true)
  | 5 => ("MarkedRunsModel", "partC", "[I", true)
  | 6 => ("MarkedRunsModel", "height", "[I", true)
  | 7 => ("MarkedRunsModel", "bodies", "[I", true)
  | 8 => ("MarkedRunsModel", "variable", "[I", true)
  | 9 => ("MarkedRunsModel", "row", "[I", true)
  | 10 => ("MarkedRunsModel", "lock", "[I", true)
  | 11 => ("MarkedRunsModel", "rows", "I", false)
  | 12 => ("MarkedRunsModel", "rowMany", "[I", true)
  | 13 => ("MarkedRunsModel", "rowAt", "[I", true)
  | 14 => ("MarkedRunsModel", "cells", "I", false)
  | 15 => ("MarkedRunsModel", "cell", "[I", true)
  | 16 => ("MarkedRunsModel", "budget", "I", false)
  | 17 => ("MarkedRunsModel", "reserve", "I", false)
  | 18 => ("MarkedRunsModel", "paid", "I", false)
  | 19 => ("MarkedRunsModel", "paidReserve", "I", false)
  | 20 => ("MarkedRunsModel", "marked", "[I", true)
  | 21 => ("MarkedRunsModel", "logged", "I", false)
  | 22 => ("MarkedRunsModel", "log", "[I", true)
  | 23 => ("MarkedRunsModel", "result", "I", false)
  | 24 => ("MarkedRunsModel", "mostMethods", "I", false)
  | 25 => ("MarkedRunsModel", "mostLocks", "I", false)
  | 26 => ("MarkedRunsModel", "answer", "I", false)
  | 27 => ("MarkedRunsModel", "kind", "I", false)
  | 28 => ("MarkedRunsModel", "number", "I", false)
  | 29 => ("MarkedRunsModel", "runs", "[I", true)
  | 30 => ("MarkedRunsModel", "high", "I", false)
  | 31 => ("MarkedRunsModel", "frame", "[I", true)
  | 32 => ("MarkedRunsModel", "phase", "[I", true)
  | 33 => ("MarkedRunsModel", "wasState", "[I", true)
  | 34 => ("MarkedRunsModel", "wasKind", "[I", true)
  | 35 => ("MarkedRunsModel", "wasNumber", "[I", true)
  | 36 => ("MarkedRunsModel", "methods", "I", false)
  | 37 => ("MarkedRunsModel", "state", "I", false)
  | 38 => ("MarkedRunsModel", "reserved", "I", false)
  | 39 => ("MarkedRunsModel", "first", "[I", true)
  | _ => ("MarkedRunsModel", "firstCell", "[I", true)
def tyX10 : Nat → FieldType := fun k => match k with
  | 0 => .int
  | 1 => .int
  | 2 => .array .int
  | 3 => .array .int
  | 4 => .array .int
  | 5 => .array .int
  | 6 => .array .int
  | 7 => .array .int
  | 8 => .array .int
  | 9 => .array .int
  | 10 => .array .int
  | 11 => .int
  | 12 => .array .int
  | 13 => .array .int
  | 14 => .int
  | 15 => .array .int
  | 16 => .int
  | 17 => .int
  | 18 => .int
  | 19 => .int
  | 20 => .array .int
  | 21 => .int
  | 22 => .array .int
  | 23 => .int
  | 24 => .int
  | 25 => .int
  | 26 => .int
  | 27 => .int
  | 28 => .int
  | 29 => .array .int
  | 30 => .int
  | 31 => .array .int
  | 32 => .array .int
  | 33 => .array .int
  | 34 => .array .int
  | 35 => .array .int
  | 36 => .int
  | 37 => .int
  | 38 => .int
  | 39 => .array .int
  | _ => .array .int
abbrev wsX100 : List Cond := u_ws RX10 TX10 41
theorem nmX10 : ∀ a, a < 41 → ∀ b, b < 41 → a ≠ b → (TX10 a).2.1 ≠ (TX10 b).2.1 := by decide +kernel
theorem tyX10_ok : ∀ k, k < 41 → parseFieldDescriptor (TX10 k).2.2.1 = some (tyX10 k) := by decide +kernel
abbrev cX10_thrown : ByteArray := prog_12_method_1_code
def yX10_thrown : MethodName := ⟨RX10, "thrown", "()I"⟩
abbrev cX10_fail : ByteArray := prog_12_method_2_code
def yX10_fail : MethodName := ⟨RX10, "fail", "(I)I"⟩
abbrev cX10_init : ByteArray := prog_12_method_3_code
def yX10_init : MethodName := ⟨RX10, "<init>", "()V"⟩
abbrev cX10_isIn : ByteArray := prog_12_method_4_code
def yX10_isIn : MethodName := ⟨RX10, "isIn", "(II)Z"⟩
abbrev cX10_isStatement : ByteArray := prog_12_method_5_code
def yX10_isStatement : MethodName := ⟨RX10, "isStatement", "(I)Z"⟩
abbrev cX10_isRight : ByteArray := prog_12_method_6_code
def yX10_isRight : MethodName := ⟨RX10, "isRight", "(IIII)Z"⟩
abbrev cX10_highest : ByteArray := prog_12_method_7_code
def yX10_highest : MethodName := ⟨RX10, "highest", "(II)I"⟩
abbrev cX10_heightOf : ByteArray := prog_12_method_8_code
def yX10_heightOf : MethodName := ⟨RX10, "heightOf", "(IIII)I"⟩
abbrev cX10_make : ByteArray := prog_12_method_9_code
def yX10_make : MethodName := ⟨RX10, "make", "(IIII)I"⟩
abbrev cX10_drop : ByteArray := prog_12_method_10_code
def yX10_drop : MethodName := ⟨RX10, "drop", "()I"⟩
abbrev cX10_body : ByteArray := prog_12_method_11_code
def yX10_body : MethodName := ⟨RX10, "body", "(II)I"⟩
abbrev cX10_push : ByteArray := prog_12_method_12_code
def yX10_push : MethodName := ⟨RX10, "push", "(I)V"⟩
abbrev cX10_comes : ByteArray := prog_12_method_13_code
def yX10_comes : MethodName := ⟨RX10, "comes", "(I)V"⟩
abbrev cX10_throwing : ByteArray := prog_12_method_14_code
def yX10_throwing : MethodName := ⟨RX10, "throwing", "(II)V"⟩
abbrev cX10_pays : ByteArray := prog_12_method_15_code
def yX10_pays : MethodName := ⟨RX10, "pays", "(II)Z"⟩
abbrev cX10_endReserve : ByteArray := prog_12_method_16_code
def yX10_endReserve : MethodName := ⟨RX10, "endReserve", "()V"⟩
abbrev cX10_leave : ByteArray := prog_12_method_17_code
def yX10_leave : MethodName := ⟨RX10, "leave", "(I)V"⟩
abbrev cX10_note : ByteArray := prog_12_method_18_code
def yX10_note : MethodName := ⟨RX10, "note", "(I)V"⟩
abbrev cX10_reckon : ByteArray := prog_12_method_19_code
def yX10_reckon : MethodName := ⟨RX10, "reckon", "(I)V"⟩
abbrev cX10_making : ByteArray := prog_12_method_20_code
def yX10_making : MethodName := ⟨RX10, "making", "(I)V"⟩
abbrev cX10_has : ByteArray := prog_12_method_21_code
def yX10_has : MethodName := ⟨RX10, "has", "(II)Z"⟩
abbrev cX10_simple : ByteArray := prog_12_method_22_code
def yX10_simple : MethodName := ⟨RX10, "simple", "(I)V"⟩
abbrev cX10_calls : ByteArray := prog_12_method_23_code
def yX10_calls : MethodName := ⟨RX10, "calls", "(I)V"⟩
abbrev cX10_enter : ByteArray := prog_12_method_24_code
def yX10_enter : MethodName := ⟨RX10, "enter", "(I)V"⟩
abbrev cX10_locks : ByteArray := prog_12_method_25_code
def yX10_locks : MethodName := ⟨RX10, "locks", "(I)V"⟩
abbrev cX10_begin : ByteArray := prog_12_method_26_code
def yX10_begin : MethodName := ⟨RX10, "begin", "()V"⟩
abbrev cX10_second : ByteArray := prog_12_method_27_code
def yX10_second : MethodName := ⟨RX10, "second", "(I)V"⟩
abbrev cX10_handles : ByteArray := prog_12_method_28_code
def yX10_handles : MethodName := ⟨RX10, "handles", "(I)V"⟩
abbrev cX10_finalOf : ByteArray := prog_12_method_29_code
def yX10_finalOf : MethodName := ⟨RX10, "finalOf", "(I)V"⟩
abbrev cX10_lastDone : ByteArray := prog_12_method_30_code
def yX10_lastDone : MethodName := ⟨RX10, "lastDone", "()V"⟩
abbrev cX10_tell : ByteArray := prog_12_method_31_code
def yX10_tell : MethodName := ⟨RX10, "tell", "()V"⟩
abbrev cX10_reset : ByteArray := prog_12_method_32_code
def yX10_reset : MethodName := ⟨RX10, "reset", "(II)V"⟩
abbrev cX10_isRun : ByteArray := prog_12_method_33_code
def yX10_isRun : MethodName := ⟨RX10, "isRun", "(II)Z"⟩
abbrev cX10_runs : ByteArray := prog_12_method_34_code
def yX10_runs : MethodName := ⟨RX10, "runs", "(III)I"⟩
abbrev cX10_run : ByteArray := prog_12_method_35_code
def yX10_run : MethodName := ⟨RX10, "run", "(III)I"⟩
abbrev cX10_told : ByteArray := prog_12_method_36_code
def yX10_told : MethodName := ⟨RX10, "told", "(I)I"⟩
abbrev cX10_marks : ByteArray := prog_12_method_37_code
def yX10_marks : MethodName := ⟨RX10, "marks", "(I)I"⟩
abbrev cX10_began : ByteArray := prog_12_method_38_code
def yX10_began : MethodName := ⟨RX10, "began", "(I)I"⟩
abbrev cX10_variable : ByteArray := prog_12_method_39_code
def yX10_variable : MethodName := ⟨RX10, "variable", "(I)I"⟩
abbrev cX10_size : ByteArray := prog_12_method_40_code
def yX10_size : MethodName := ⟨RX10, "size", "(I)I"⟩
abbrev cX10_item : ByteArray := prog_12_method_41_code
def yX10_item : MethodName := ⟨RX10, "item", "(II)I"⟩
abbrev cX10_same : ByteArray := prog_12_method_42_code
def yX10_same : MethodName := ⟨RX10, "same", "(IIII)I"⟩
abbrev cX10_count : ByteArray := prog_12_method_43_code
def yX10_count : MethodName := ⟨RX10, "count", "(I)I"⟩
def RJx00060 : String := "java/lang/ArrayIndexOutOfBoundsException"
def TJx00060 : u_T := fun k => match k with
  | 0 => ("java/lang/Throwable", "backtrace", "Ljava/lang/Object;", false)
  | 1 => ("java/lang/Throwable", "detailMessage", "Ljava/lang/String;", false)
  | 2 => ("java/lang/Throwable", "cause", "Ljava/lang/Throwable;", false)
  | 3 => ("java/lang/Throwable", "stackTrace", "[Ljava/lang/StackTraceElement;", false)
  | 4 => ("java/lang/Throwable", "depth", "I", false)
  | _ => ("java/lang/Throwable", "suppressedExceptions", "Ljava/util/List;", false)
def tyJx00060 : Nat → FieldType := fun k => match k with
  | 0 => .object "java/lang/Object"
  | 1 => .object "java/lang/String"
  | 2 => .object "java/lang/Throwable"
  | 3 => .array (.object "java/lang/StackTraceElement")
  | 4 => .int
  | _ => .object "java/util/List"
abbrev wsJx000600 : List Cond := u_ws RJx00060 TJx00060 6
theorem nmJx00060 : ∀ a, a < 6 → ∀ b, b < 6 → a ≠ b → (TJx00060 a).2.1 ≠ (TJx00060 b).2.1 := by decide +kernel
theorem tyJx00060_ok : ∀ k, k < 6 → parseFieldDescriptor (TJx00060 k).2.2.1 = some (tyJx00060 k) := by decide +kernel
abbrev cJx00060_init_a7421 : ByteArray := prog_13_method_2_code
def yJx00060_init_a7421 : MethodName := ⟨RJx00060, "<init>", "(Ljava/lang/String;)V"⟩
def RJ9 : String := "java/lang/Math"
def TJ9 : u_T := fun k => match k with
  | _ => ("", "", "", false)
def tyJ9 : Nat → FieldType := fun k => match k with
  | _ => .int
abbrev wsJ90 : List Cond := u_ws RJ9 TJ9 0
theorem nmJ9 : ∀ a, a < 0 → ∀ b, b < 0 → a ≠ b → (TJ9 a).2.1 ≠ (TJ9 b).2.1 := by decide +kernel
theorem tyJ9_ok : ∀ k, k < 0 → parseFieldDescriptor (TJ9 k).2.2.1 = some (tyJ9 k) := by decide +kernel
abbrev cJ9_max_7cf53 : ByteArray := prog_16_method_65_code
def yJ9_max_7cf53 : MethodName := ⟨RJ9, "max", "(II)I"⟩
def RJx5d777 : String := "java/lang/NullPointerException"
def TJx5d777 : u_T := fun k => match k with
  | 0 => ("java/lang/Throwable", "backtrace", "Ljava/lang/Object;", false)
  | 1 => ("java/lang/Throwable", "detailMessage", "Ljava/lang/String;", false)
  | 2 => ("java/lang/Throwable", "cause", "Ljava/lang/Throwable;", false)
  | 3 => ("java/lang/Throwable", "stackTrace", "[Ljava/lang/StackTraceElement;", false)
  | 4 => ("java/lang/Throwable", "depth", "I", false)
  | 5 => ("java/lang/Throwable", "suppressedExceptions", "Ljava/util/List;", false)
  | 6 => ("java/lang/NullPointerException", "extendedMessageState", "I", false)
  | _ => ("java/lang/NullPointerException", "extendedMessage", "Ljava/lang/String;", false)
def tyJx5d777 : Nat → FieldType := fun k => match k with
  | 0 => .object "java/lang/Object"
  | 1 => .object "java/lang/String"
  | 2 => .object "java/lang/Throwable"
  | 3 => .array (.object "java/lang/StackTraceElement")
  | 4 => .int
  | 5 => .object "java/util/List"
  | 6 => .int
  | _ => .object "java/lang/String"
abbrev wsJx5d7770 : List Cond := u_ws RJx5d777 TJx5d777 8
theorem nmJx5d777 : ∀ a, a < 8 → ∀ b, b < 8 → a ≠ b → (TJx5d777 a).2.1 ≠ (TJx5d777 b).2.1 := by decide +kernel
theorem tyJx5d777_ok : ∀ k, k < 8 → parseFieldDescriptor (TJx5d777 k).2.2.1 = some (tyJx5d777 k) := by decide +kernel
abbrev cJx5d777_init_da8c8 : ByteArray := prog_17_method_1_code
def yJx5d777_init_da8c8 : MethodName := ⟨RJx5d777, "<init>", "()V"⟩
abbrev cJx5d777_init_a7421 : ByteArray := prog_17_method_2_code
def yJx5d777_init_a7421 : MethodName := ⟨RJx5d777, "<init>", "(Ljava/lang/String;)V"⟩
abbrev cJx5d777_fillInStackTrace_cddbd : ByteArray := prog_17_method_3_code
def yJx5d777_fillInStackTrace_cddbd : MethodName := ⟨RJx5d777, "fillInStackTrace", "()Ljava/lang/Throwable;"⟩
def RJ0 : String := "java/lang/String"
def TJ0 : u_T := fun k => match k with
  | 0 => ("java/lang/String", "value", "[B", true)
  | _ => ("java/lang/String", "coder", "B", true)
def tyJ0 : Nat → FieldType := fun k => match k with
  | 0 => .array .byte
  | _ => .byte
abbrev wsJ00 : List Cond := u_ws RJ0 TJ0 2
theorem nmJ0 : ∀ a, a < 2 → ∀ b, b < 2 → a ≠ b → (TJ0 a).2.1 ≠ (TJ0 b).2.1 := by decide +kernel
theorem tyJ0_ok : ∀ k, k < 2 → parseFieldDescriptor (TJ0 k).2.2.1 = some (tyJ0 k) := by decide +kernel
def RJ7 : String := "java/util/Arrays"
def TJ7 : u_T := fun k => match k with
  | _ => ("", "", "", false)
def tyJ7 : Nat → FieldType := fun k => match k with
  | _ => .int
abbrev wsJ70 : List Cond := u_ws RJ7 TJ7 0
theorem nmJ7 : ∀ a, a < 0 → ∀ b, b < 0 → a ≠ b → (TJ7 a).2.1 ≠ (TJ7 b).2.1 := by decide +kernel
theorem tyJ7_ok : ∀ k, k < 0 → parseFieldDescriptor (TJ7 k).2.2.1 = some (tyJ7 k) := by decide +kernel
abbrev cJ7_fill_53178 : ByteArray := prog_21_method_103_code
def yJ7_fill_53178 : MethodName := ⟨RJ7, "fill", "([II)V"⟩
def RL : String := "MarkedRunsLaw"
abbrev cL_item : ByteArray := method_3_code
def yL_item : MethodName := ⟨RL, "item", "(LMarkedRuns;II[J)I"⟩
abbrev cL_law : ByteArray := code
def yL_law : MethodName := ⟨RL, "law", "([I)Z"⟩
end
section
/-! ===== the little machine: cells by number, a layout that stays, a store S of ints by (100 * cell + slot) and index ===== -/
abbrev Sx : Type := Nat → Nat → Int32
abbrev Slt : Type := Option (Option Nat)
abbrev Lc : Type := Nat ⊕ (Nat × List Slt)
abbrev Lay : Type := List Lc
abbrev AL : Type := List (Option Value)
abbrev MK : Type := MethodName × ByteArray × Nat × Option FieldType
def xcl : List vw_C := [(RX0, TX0, 6), (RX2, TX2, 2), (RX4, TX4, 6), (RX5, TX5, 7), (RX6, TX6, 8), (RX7, TX7, 11), (RX9, TX9, 4), (RX10, TX10, 41)]
def TT : List Cond := lw_tbl.filter goodWord
def isNest (w : Cond) : Bool := match w with
  | .fieldLinkNest _ _ _ _ _ _ => true
  | .methodLinkNest _ _ _ _ => true
  | _ => false
/-- links to private members of nest mates: they aren't among the words, and go with the world -/
def NN : List Cond := lw_tbl.filter isNest
def NK (U : State) : Prop := ∀ w ∈ NN, va_Nw w U
theorem NK.warm {s U : State} (hW : s.WarmedH U.vm) (h : NK s) : NK U := by
  intro w hw
  have h1 := h w hw
  have h2 := (List.mem_filter.mp hw).2
  cases w <;> first | exact va_Nw.warmF hW h1 | exact va_Nw.warmM hW h1 | cases h2
theorem NK.same {u U : State} (hv : u.vm = U.vm) (h : NK u) : NK U := by
  intro w hw
  have h1 := h w hw
  have h2 := (List.mem_filter.mp hw).2
  cases w <;> first | exact va_Nw.same rfl hv h1 | cases h2
theorem NK.use {s : State} {args : Array Value} {w : Cond} (h : NK s) (hw : w ∈ NN) : w.before args s = true := by
  have h1 := h w hw
  have h2 := (List.mem_filter.mp hw).2
  cases w <;> first | exact va_Nw.use rfl h1 | cases h2
/-- one int of the store changes -/
def sw (S : Sx) (f i : Nat) (v : Int32) : Sx := fun g j => if g = f then (if j = i then v else S g j) else S g j
def cv (ad : List Nat) (v : Value) : Value := match v with
  | .ref k => .ref (ad.getD k 0)
  | w => w
def slv (S : Sx) (f : Nat) (x : Slt) : Value := match x with
  | none => .int (S f 0)
  | some (some k) => .ref k
  | some none => .ref (S f 0).toNatClampNeg
def ce (cA : ClassId) (ad : List Nat) (S : Sx) (b : Nat) (c : Lc) : va_E := match c with
  | .inl n => .inl (cA, n, .inl (S (100 * b)))
  | .inr o => .inr (o.1, o.2.mapIdx (fun j x => cv ad (slv S (100 * b + j) x)))
def cw (cA : ClassId) (ad : List Nat) (lay : Lay) (S : Sx) : va_W := lay.mapIdx (fun b c => (ad.getD b 0, ce cA ad S b c))
theorem cw_get {cA : ClassId} {ad : List Nat} {lay : Lay} {S : Sx} {b : Nat} {c : Lc} (h : lay[b]? = some c) : (cw cA ad lay S)[b]? = some (ad.getD b 0, ce cA ad S b c) := by
  simp [cw, List.getElem?_mapIdx, h]
def okL (lay : Lay) : Bool := lay.all (fun c => match c with | .inl _ => true | .inr o => decide (o.2.length < 100))
theorem ce_other {cA : ClassId} {ad : List Nat} {S : Sx} {b b' j i : Nat} {c : Lc} {v : Int32} (hc : ∀ o, c = .inr o → o.2.length < 100) (hj : j < 100) (hb : b' ≠ b) : ce cA ad (sw S (100 * b + j) i v) b' c = ce cA ad S b' c := by
  cases c with
  | inl n =>
    simp only [ce]
    congr 4
    funext z
    simp only [sw]
    rw [if_neg (by omega)]
  | inr o =>
    simp only [ce]
    congr 2
    apply List.mapIdx_eq_mapIdx_iff.mpr
    intro z hz
    have h1 := hc o rfl
    have e : slv (sw S (100 * b + j) i v) (100 * b' + z) o.2[z] = slv S (100 * b' + z) o.2[z] := by
      unfold slv sw
      rw [if_neg (by omega)]
    rw [e]
theorem cw_set {cA : ClassId} {ad : List Nat} {lay : Lay} {S : Sx} {b j i : Nat} {c : Lc} {v : Int32} {E : va_E} (hok : okL lay = true) (hj : j < 100) (h : lay[b]? = some c) (hE : E = ce cA ad (sw S (100 * b + j) i v) b c) : (cw cA ad lay S).set b (ad.getD b 0, E) = cw cA ad lay (sw S (100 * b + j) i v) := by
  apply List.ext_getElem?
  intro k
  rw [List.getElem?_set]
  have hlen : (cw cA ad lay S).length = lay.length := by simp [cw]
  have hb : b < lay.length := (List.getElem?_eq_some_iff.mp h).1
  by_cases hk : b = k
  · subst hk
    rw [if_pos rfl, if_pos (by rw [hlen]; exact hb), cw_get h, hE]
  · rw [if_neg hk]
    cases hc : lay[k]? with
    | none =>
      have : lay.length ≤ k := by simpa using hc
      simp [cw, List.getElem?_mapIdx, hc]
    | some ck =>
      rw [cw_get hc, cw_get hc, ce_other _ hj (fun e => hk e.symm)]
      intro o ho
      have := List.all_eq_true.mp hok ck (List.mem_of_getElem? hc)
      rw [ho] at this
      simpa using this
/-- locals by place -/
def LR (ad : List Nat) (ls : AL) (nL : Nat) (lsA : Array Slot) : Prop := lsA.size = nL ∧ lv_wf lsA ∧ ∀ (i : Nat) (v : Value), ls[i]? = some (some v) → v.category = 1 ∧ lsA[i]? = some (.val (cv ad v))
theorem cv_cat (ad : List Nat) (v : Value) : (cv ad v).category = v.category := by cases v <;> rfl
def LRl (ad : List Nat) (ls : AL) : List (Nat × Value) := (ls.mapIdx (fun i o => (i, o))).filterMap (fun q => q.2.map (fun v => (q.1, cv ad v)))
theorem LRl_mem {ad : List Nat} {ls : AL} {q : Nat × Value} : q ∈ LRl ad ls ↔ ∃ v, ls[q.1]? = some (some v) ∧ q.2 = cv ad v := by
  unfold LRl
  rw [List.mem_filterMap]
  constructor
  · rintro ⟨⟨i, o⟩, h1, h2⟩
    obtain ⟨j, hj⟩ := List.mem_iff_getElem?.mp h1
    rw [List.getElem?_mapIdx] at hj
    cases ho : ls[j]? with
    | none => rw [ho] at hj; cases hj
    | some o' =>
      rw [ho] at hj
      obtain ⟨rfl, rfl⟩ : j = i ∧ o' = o := by simpa using hj
      cases o' with
      | none => simp at h2
      | some v =>
        obtain rfl : (j, cv ad v) = q := by simpa using h2
        exact ⟨v, ho, rfl⟩
  · rintro ⟨v, h1, h2⟩
    refine ⟨(q.1, some v), ?_, ?_⟩
    · refine List.mem_iff_getElem?.mpr ⟨q.1, ?_⟩
      rw [List.getElem?_mapIdx, h1]
      rfl
    · cases q with
      | mk a b =>
        simp only at h2
        simp [h2]
theorem LR.has {ad : List Nat} {ls : AL} {nL : Nat} {lsA : Array Slot} (h : LR ad ls nL lsA) : lv_has lsA nL (LRl ad ls) := by
  refine ⟨h.1, h.2.1, fun q hq => ?_⟩
  obtain ⟨v, h1, h2⟩ := LRl_mem.mp hq
  rw [h2]
  exact (h.2.2 _ _ h1).2
theorem LR.set {ad : List Nat} {ls : AL} {nL i : Nat} {lsA lsB : Array Slot} {v : Value} (h : LR ad ls nL lsA) (hc : v.category = 1) (hB : lv_has lsB nL ((i, cv ad v) :: (LRl ad ls).filter (fun q => !(q.1 == i) && !(q.1 + 1 == i && q.2.category == 2)))) : LR ad (ls.set i (some v)) nL lsB := by
  refine ⟨hB.1, hB.2.1, fun j w hj => ?_⟩
  rw [List.getElem?_set] at hj
  by_cases hij : i = j
  · subst hij
    rw [if_pos rfl] at hj
    split at hj
    · obtain rfl : v = w := by simpa using hj
      exact ⟨hc, hB.2.2 (i, cv ad v) List.mem_cons_self⟩
    · cases hj
  · rw [if_neg hij] at hj
    have hw := h.2.2 j w hj
    refine ⟨hw.1, hB.2.2 (j, cv ad w) (List.mem_cons_of_mem _ (List.mem_filter.mpr ⟨LRl_mem.mpr ⟨w, hj, rfl⟩, ?_⟩))⟩
    have : ¬ j = i := fun e => hij e.symm
    simp [this, cv_cat, hw.1]
theorem LR.weaken {ad : List Nat} {ls ls' : AL} {nL : Nat} {lsA : Array Slot} (h : LR ad ls nL lsA) (hs : ∀ (i : Nat) (v : Value), ls'[i]? = some (some v) → ls[i]? = some (some v)) : LR ad ls' nL lsA := ⟨h.1, h.2.1, fun i v hi => h.2.2 i v (hs i v hi)⟩
/-- what stands of a method's code and tables while it runs -/
def Cx (k : MK) (p : Program) (s : State) (m : MethodId) (args : Array Value) (meth : Method) (c : Code) : Prop :=
  p.tables.exec = Jvm.exec ∧ c.code = k.2.1 ∧ meth.sig.returnType = k.2.2.2 ∧ c.maxLocals = k.2.2.1 ∧ s.vm.findClass k.1.cls = some m.cls ∧ (∀ w ∈ TT, w.before args s = true) ∧ meth.locks = false ∧ NK s
/-- the world of a layout -/
def Wd (dC : Nat → ClassId) (dI : Nat → Nat → Nat) (cA : ClassId) (ad : List Nat) (A : Nat → Prop) (s : State) (lay : Lay) (S : Sx) (H : Heap) (locs : List Loc) : Prop :=
  va_K (dC, dI) xcl [(cA, .int)] s ∧ va_P (dC, dI) xcl (cw cA ad lay S) H ∧ va_D A (cw cA ad lay S) ∧ va_S A s.heap H locs ∧ ∀ q, s.heap.size ≤ q → A q
def QQ (dC : Nat → ClassId) (dI : Nat → Nat → Nat) (cA : ClassId) (ad : List Nat) (A : Nat → Prop) (lay : Lay) (Q : Option Value → Sx → Prop) : Array Value → State → Outcome → State → Prop := fun _ st o t =>
  (∃ (r : Option Value) (S : Sx), o = .returned (r.map (cv ad)) ∧ Q r S ∧ va_P (dC, dI) xcl (cw cA ad lay S) t.heap ∧ va_K (dC, dI) xcl [(cA, .int)] t ∧ va_D A (cw cA ad lay S)) ∧ va_F A st t
def rmD (d : Nat) : Room := { frames := d, cells := 0, slots := 0, locals := 40 * d }
/-- within method k at pc, with these locals, stack and store: it comes to an end with Q -/
def AJ (d : Nat) (k : MK) (lay : Lay) (pc : Nat) (ls : AL) (st : List Value) (S : Sx) (Q : Option Value → Sx → Prop) : Prop :=
  ∀ (p : Program) (l : Launch) (e : Env) (s : State) (m : MethodId) (args : Array Value) (below : List Frame) (meth : Method) (c : Code) (dC : Nat → ClassId) (dI : Nat → Nat → Nat) (cA : ClassId) (ad : List Nat) (A : Nat → Prop) (H : Heap) (locs : List Loc) (lsA : Array Slot),
    Cx k p s m args meth c → Wd dC dI cA ad A s lay S H locs → LR ad ls k.2.2.1 lsA →
    W p l e (rmD d) s m args below meth c H locs 0 0 (MQ below (QQ dC dI cA ad A lay Q) args s 0 0 A) (F0 m pc lsA (st.map (cv ad)))
def wsK (k : MK) : List Cond := Cond.code k.1 k.2.1 k.2.2.1 k.2.2.2 :: TT
def PP (dC : Nat → ClassId) (dI : Nat → Nat → Nat) (cA : ClassId) (ad : List Nat) (lay : Lay) (S : Sx) (sz : Nat) : State → Prop := fun U => U.heap.size = sz ∧ va_P (dC, dI) xcl (cw cA ad lay S) U.heap ∧ va_K (dC, dI) xcl [(cA, .int)] U ∧ va_D (fun _ => True) (cw cA ad lay S) ∧ NK U
/-- method k, called with av over the layout and the store: it returns with Q -/
def CC (d : Nat) (k : MK) (lay : Lay) (av : List Value) (S : Sx) (Q : Option Value → Sx → Prop) : Prop :=
  ∀ (l : Launch) (dC : Nat → ClassId) (dI : Nat → Nat → Nat) (cA : ClassId) (ad : List Nat) (sz : Nat),
    Met l k.1 (wsK k) (rmD d) (va_Pc (av.map (cv ad)) (PP dC dI cA ad lay S sz)) (QQ dC dI cA ad (va_A (cw cA ad lay S) sz) lay Q) 0 0 (va_A (cw cA ad lay S) sz)
theorem lv_args_mem {ad : List Nat} : ∀ (vs : List Value) (i j : Nat) (v : Value), (∀ w ∈ vs, w.category = 1) → vs[j]? = some v → (i + j, cv ad v) ∈ lv_args i (vs.map (cv ad)) := by
  intro vs
  induction vs with
  | nil => intro i j v _ h; simp at h
  | cons a t ih =>
    intro i j v hc h
    have ha : (cv ad a).category = 1 := by rw [cv_cat]; exact hc a List.mem_cons_self
    simp only [List.map_cons, lv_args]
    rw [if_neg (by omega)]
    cases j with
    | zero =>
      obtain rfl : a = v := by simpa using h
      exact List.mem_cons_self
    | succ j =>
      have := ih (i + 1) j v (fun w hw => hc w (List.mem_cons_of_mem _ hw)) (by simpa using h)
      rw [show i + (j + 1) = i + 1 + j by omega]
      exact List.mem_cons_of_mem _ this
theorem lg_sl_len {ad : List Nat} : ∀ (vs : List Value), (∀ w ∈ vs, w.category = 1) → (lg_sl (vs.map (cv ad))).length = vs.length := by
  intro vs
  induction vs with
  | nil => intro _; rfl
  | cons a t ih =>
    intro hc
    have ha : (cv ad a).category = 1 := by rw [cv_cat]; exact hc a List.mem_cons_self
    have := ih (fun w hw => hc w (List.mem_cons_of_mem _ hw))
    simp only [lg_sl] at this ⊢
    simp only [List.map_cons, List.flatMap_cons, List.length_append, this]
    rw [if_neg (by omega)]
    simp
    omega
theorem cc_intro {d : Nat} {k : MK} {lay : Lay} {av : List Value} {S : Sx} {Q : Option Value → Sx → Prop} (ls : AL) (hy : plainName k.1.cls = true) (hcat : ∀ w ∈ av, w.category = 1) (hlen : av.length ≤ k.2.2.1) (hls : ∀ (i : Nat) (v : Value), ls[i]? = some (some v) → av[i]? = some v)
    (kk : AJ d k lay 0 ls [] S Q) : CC d k lay av S Q := by
  intro l dC dI cA ad sz
  refine Met.ofW (cc := k.2.1) (maxL := k.2.2.1) (ret := k.2.2.2) hy rfl ?_
  intro p e s m args below meth c s₁ B hml hv
  obtain ⟨rfl, hsz, hP, hK, hD0, hN⟩ := hv
  have hts := atoms_spec (ws := wsK k) B.pre
  have hown : s.vm.findClass k.1.cls = some m.cls := findClass_of_methodNamed B.named
  subst hsz
  rw [lg_entry_eq]
  have hl := lv_entry (av.map (cv ad)) (n := k.2.2.1) (by rw [lg_sl_len av hcat]; exact hlen)
  refine kk p l e s m _ below meth c dC dI cA ad _ _ [] _ ⟨B.exec, B.bytes, B.returns, hml, hown, fun w hw => hts w (List.mem_cons_of_mem _ hw), B.notSynchronized, hN⟩ ⟨hK, hP, hD0.self, va_S.rf, fun q hq => Or.inr hq⟩ ⟨hl.1, hl.2.1, fun i v hi => ?_⟩
  have h1 := hls i v hi
  refine ⟨hcat v (List.mem_of_getElem? h1), ?_⟩
  have := hl.2.2 _ (lv_args_mem av 0 i v hcat h1)
  simpa using this
theorem cc_mono {d : Nat} {k : MK} {lay : Lay} {av : List Value} {S : Sx} {Q Q' : Option Value → Sx → Prop} (h : CC d k lay av S Q) (hq : ∀ r S', Q r S' → Q' r S') : CC d k lay av S Q' := by
  intro l dC dI cA ad sz
  have := h l dC dI cA ad sz
  unfold Met at this ⊢
  intro p e ha hc hk s m args below h1 h2 h3 h4
  obtain ⟨kk, o, a1, a2, a3, ⟨⟨r, S', b1, b2, b3⟩, b4⟩, b5⟩ := this p e ha hc hk s m args below h1 h2 h3 h4
  exact ⟨kk, o, a1, a2, a3, ⟨⟨r, S', b1, hq _ _ b2, b3⟩, b4⟩, b5⟩
/-- a field's place: what the tables say of an access -/
def FL (own : String) (idx ci j : Nat) : Prop := ∃ (C : String) (T : u_T) (N : Nat), xcl[ci]? = some (C, T, N) ∧ j < N ∧ (∀ w ∈ u_ws C T N, w ∈ TT) ∧ (Cond.fieldLink own idx (T j).1 (T j).2.1 (T j).2.2.1 ∈ TT ∨ ∃ host, Cond.fieldLinkNest own idx (T j).1 (T j).2.1 (T j).2.2.1 host ∈ NN)
def FP (own : String) (idx ci j : Nat) (ty : FieldType) : Prop := ∃ (C : String) (T : u_T) (N : Nat) (ty0 : Nat → FieldType), xcl[ci]? = some (C, T, N) ∧ j < N ∧ (∀ w ∈ u_ws C T N, w ∈ TT) ∧ Cond.fieldLink own idx (T j).1 (T j).2.1 (T j).2.2.1 ∈ TT ∧ (∀ k, k < N → parseFieldDescriptor (T k).2.2.1 = some (ty0 k)) ∧ (∀ a, a < N → ∀ b, b < N → a ≠ b → (T a).2.1 ≠ (T b).2.1) ∧ (T j).2.2.2 = false ∧ parseFieldDescriptor (T j).2.2.1 = some ty
def MKok (k' : MK) (n : Nat) : Prop := Cond.initialized k'.1.cls ∈ TT ∧ Cond.code k'.1 k'.2.1 k'.2.2.1 k'.2.2.2 ∈ TT ∧ (k'.1.cls ≠ "java/lang/invoke/MethodHandle" ∧ k'.1.cls ≠ "java/lang/invoke/VarHandle" ∧ (parseMethodDescriptor k'.1.desc).map (fun d => d.parameters.length) = some n) ∧ k'.2.2.1 ≤ 21
def CVok (own : String) (idx : Nat) (k' : MK) : Prop := Cond.methodLink own idx k'.1 ∈ TT ∧ Cond.instanceMethod k'.1 ∈ TT ∧ Cond.selects k'.1.cls k'.1 k'.1 ∈ TT
def CSok (own : String) (idx : Nat) (k' : MK) : Prop := (Cond.methodLink own idx k'.1 ∈ TT ∨ ∃ host, Cond.methodLinkNest own idx k'.1 host ∈ NN) ∧ Cond.static k'.1 ∈ TT
end
section
theorem in_X0 : ∀ w ∈ u_ws RX0 TX0 6, w ∈ TT := fun w hw => List.mem_filter.mpr ⟨(show ∀ w ∈ u_ws RX0 TX0 6, w ∈ lw_tbl from by decide +kernel) w hw, (show ∀ w ∈ u_ws RX0 TX0 6, goodWord w = true from by decide +kernel) w hw⟩
theorem in_X2 : ∀ w ∈ u_ws RX2 TX2 2, w ∈ TT := fun w hw => List.mem_filter.mpr ⟨(show ∀ w ∈ u_ws RX2 TX2 2, w ∈ lw_tbl from by decide +kernel) w hw, (show ∀ w ∈ u_ws RX2 TX2 2, goodWord w = true from by decide +kernel) w hw⟩
theorem in_X4 : ∀ w ∈ u_ws RX4 TX4 6, w ∈ TT := fun w hw => List.mem_filter.mpr ⟨(show ∀ w ∈ u_ws RX4 TX4 6, w ∈ lw_tbl from by decide +kernel) w hw, (show ∀ w ∈ u_ws RX4 TX4 6, goodWord w = true from by decide +kernel) w hw⟩
theorem in_X5 : ∀ w ∈ u_ws RX5 TX5 7, w ∈ TT := fun w hw => List.mem_filter.mpr ⟨(show ∀ w ∈ u_ws RX5 TX5 7, w ∈ lw_tbl from by decide +kernel) w hw, (show ∀ w ∈ u_ws RX5 TX5 7, goodWord w = true from by decide +kernel) w hw⟩
theorem in_X6 : ∀ w ∈ u_ws RX6 TX6 8, w ∈ TT := fun w hw => List.mem_filter.mpr ⟨(show ∀ w ∈ u_ws RX6 TX6 8, w ∈ lw_tbl from by decide +kernel) w hw, (show ∀ w ∈ u_ws RX6 TX6 8, goodWord w = true from by decide +kernel) w hw⟩
theorem in_X7 : ∀ w ∈ u_ws RX7 TX7 11, w ∈ TT := fun w hw => List.mem_filter.mpr ⟨(show ∀ w ∈ u_ws RX7 TX7 11, w ∈ lw_tbl from by decide +kernel) w hw, (show ∀ w ∈ u_ws RX7 TX7 11, goodWord w = true from by decide +kernel) w hw⟩
theorem in_X9 : ∀ w ∈ u_ws RX9 TX9 4, w ∈ TT := fun w hw => List.mem_filter.mpr ⟨(show ∀ w ∈ u_ws RX9 TX9 4, w ∈ lw_tbl from by decide +kernel) w hw, (show ∀ w ∈ u_ws RX9 TX9 4, goodWord w = true from by decide +kernel) w hw⟩
theorem in_X10 : ∀ w ∈ u_ws RX10 TX10 41, w ∈ TT := fun w hw => List.mem_filter.mpr ⟨(show ∀ w ∈ u_ws RX10 TX10 41, w ∈ lw_tbl from by decide +kernel) w hw, (show ∀ w ∈ u_ws RX10 TX10 41, goodWord w = true from by decide +kernel) w hw⟩
abbrev kX0_clear : MK := (yX0_clear, cX0_clear, 1, none)
theorem wd_0 : Cond.initialized RX0 ∈ TT := List.mem_filter.mpr ⟨List.mem_of_getElem? (i := 65) (by decide +kernel), by decide +kernel⟩
theorem wd_1 : Cond.code yX0_clear cX0_clear 1 none ∈ TT := List.mem_filter.mpr ⟨List.mem_of_getElem? (i := 374) (by decide +kernel), by decide +kernel⟩
theorem mk_X0_clear : MKok kX0_clear 0 := ⟨wd_0, wd_1, by decide +kernel, by decide⟩
abbrev kX0_isEmpty : MK := (yX0_isEmpty, cX0_isEmpty, 1, (some .boolean))
theorem wd_2 : Cond.code yX0_isEmpty cX0_isEmpty 1 (some .boolean) ∈ TT := List.mem_filter.mpr ⟨List.mem_of_getElem? (i := 393) (by decide +kernel), by decide +kernel⟩
theorem mk_X0_isEmpty : MKok kX0_isEmpty 0 := ⟨wd_0, wd_2, by decide +kernel, by decide⟩
abbrev kX0_open : MK := (yX0_open, cX0_open, 2, none)
theorem wd_3 : Cond.code yX0_open cX0_open 2 none ∈ TT := List.mem_filter.mpr ⟨List.mem_of_getElem? (i := 388) (by decide +kernel), by decide +kernel⟩
theorem mk_X0_open : MKok kX0_open 1 := ⟨wd_0, wd_3, by decide +kernel, by decide⟩
abbrev kX0_close : MK := (yX0_close, cX0_close, 1, none)
theorem wd_4 : Cond.code yX0_close cX0_close 1 none ∈ TT := List.mem_filter.mpr ⟨List.mem_of_getElem? (i := 441) (by decide +kernel), by decide +kernel⟩
theorem mk_X0_close : MKok kX0_close 0 := ⟨wd_0, wd_4, by decide +kernel, by decide⟩
abbrev kX0_statement : MK := (yX0_statement, cX0_statement, 1, (some .int))
theorem wd_5 : Cond.code yX0_statement cX0_statement 1 (some .int) ∈ TT := List.mem_filter.mpr ⟨List.mem_of_getElem? (i := 397) (by decide +kernel), by decide +kernel⟩
theorem mk_X0_statement : MKok kX0_statement 0 := ⟨wd_0, wd_5, by decide +kernel, by decide⟩
abbrev kX0_stage : MK := (yX0_stage, cX0_stage, 1, (some .int))
theorem wd_6 : Cond.code yX0_stage cX0_stage 1 (some .int) ∈ TT := List.mem_filter.mpr ⟨List.mem_of_getElem? (i := 401) (by decide +kernel), by decide +kernel⟩
theorem mk_X0_stage : MKok kX0_stage 0 := ⟨wd_0, wd_6, by decide +kernel, by decide⟩
abbrev kX0_setStage : MK := (yX0_setStage, cX0_setStage, 2, none)
theorem wd_7 : Cond.code yX0_setStage cX0_setStage 2 none ∈ TT := List.mem_filter.mpr ⟨List.mem_of_getElem? (i := 429) (by decide +kernel), by decide +kernel⟩
theorem mk_X0_setStage : MKok kX0_setStage 1 := ⟨wd_0, wd_7, by decide +kernel, by decide⟩
abbrev kX0_keep : MK := (yX0_keep, cX0_keep, 4, none)
theorem wd_8 : Cond.code yX0_keep cX0_keep 4 none ∈ TT := List.mem_filter.mpr ⟨List.mem_of_getElem? (i := 565) (by decide +kernel), by decide +kernel⟩
theorem mk_X0_keep : MKok kX0_keep 3 := ⟨wd_0, wd_8, by decide +kernel, by decide⟩
abbrev kX0_keptEnding : MK := (yX0_keptEnding, cX0_keptEnding, 1, (some .int))
theorem wd_9 : Cond.code yX0_keptEnding cX0_keptEnding 1 (some .int) ∈ TT := List.mem_filter.mpr ⟨List.mem_of_getElem? (i := 573) (by decide +kernel), by decide +kernel⟩
theorem mk_X0_keptEnding : MKok kX0_keptEnding 0 := ⟨wd_0, wd_9, by decide +kernel, by decide⟩
abbrev kX0_keptKind : MK := (yX0_keptKind, cX0_keptKind, 1, (some .int))
theorem wd_10 : Cond.code yX0_keptKind cX0_keptKind 1 (some .int) ∈ TT := List.mem_filter.mpr ⟨List.mem_of_getElem? (i := 577) (by decide +kernel), by decide +kernel⟩
theorem mk_X0_keptKind : MKok kX0_keptKind 0 := ⟨wd_0, wd_10, by decide +kernel, by decide⟩
abbrev kX0_keptNumber : MK := (yX0_keptNumber, cX0_keptNumber, 1, (some .int))
theorem wd_11 : Cond.code yX0_keptNumber cX0_keptNumber 1 (some .int) ∈ TT := List.mem_filter.mpr ⟨List.mem_of_getElem? (i := 581) (by decide +kernel), by decide +kernel⟩
theorem mk_X0_keptNumber : MKok kX0_keptNumber 0 := ⟨wd_0, wd_11, by decide +kernel, by decide⟩
abbrev kX2_clear : MK := (yX2_clear, cX2_clear, 1, none)
theorem wd_12 : Cond.initialized RX2 ∈ TT := List.mem_filter.mpr ⟨List.mem_of_getElem? (i := 64) (by decide +kernel), by decide +kernel⟩
theorem wd_13 : Cond.code yX2_clear cX2_clear 1 none ∈ TT := List.mem_filter.mpr ⟨List.mem_of_getElem? (i := 369) (by decide +kernel), by decide +kernel⟩
theorem mk_X2_clear : MKok kX2_clear 0 := ⟨wd_12, wd_13, by decide +kernel, by decide⟩
abbrev kX2_take : MK := (yX2_take, cX2_take, 2, none)
theorem wd_14 : Cond.code yX2_take cX2_take 2 none ∈ TT := List.mem_filter.mpr ⟨List.mem_of_getElem? (i := 458) (by decide +kernel), by decide +kernel⟩
theorem mk_X2_take : MKok kX2_take 1 := ⟨wd_12, wd_14, by decide +kernel, by decide⟩
abbrev kX2_free : MK := (yX2_free, cX2_free, 2, none)
theorem wd_15 : Cond.code yX2_free cX2_free 2 none ∈ TT := List.mem_filter.mpr ⟨List.mem_of_getElem? (i := 585) (by decide +kernel), by decide +kernel⟩
theorem mk_X2_free : MKok kX2_free 1 := ⟨wd_12, wd_15, by decide +kernel, by decide⟩
abbrev kX2_most : MK := (yX2_most, cX2_most, 1, (some .int))
theorem wd_16 : Cond.code yX2_most cX2_most 1 (some .int) ∈ TT := List.mem_filter.mpr ⟨List.mem_of_getElem? (i := 609) (by decide +kernel), by decide +kernel⟩
theorem mk_X2_most : MKok kX2_most 0 := ⟨wd_12, wd_16, by decide +kernel, by decide⟩
abbrev kX2_sum : MK := (yX2_sum, cX2_sum, 3, (some .int))
theorem wd_17 : Cond.code yX2_sum cX2_sum 3 (some .int) ∈ TT := List.mem_filter.mpr ⟨List.mem_of_getElem? (i := 613) (by decide +kernel), by decide +kernel⟩
theorem mk_X2_sum : MKok kX2_sum 0 := ⟨wd_12, wd_17, by decide +kernel, by decide⟩
abbrev kX3_makingPrice : MK := (yX3_makingPrice, cX3_makingPrice, 1, (some .int))
theorem wd_18 : Cond.initialized RX3 ∈ TT := List.mem_filter.mpr ⟨List.mem_of_getElem? (i := 68) (by decide +kernel), by decide +kernel⟩
theorem wd_19 : Cond.code yX3_makingPrice cX3_makingPrice 1 (some .int) ∈ TT := List.mem_filter.mpr ⟨List.mem_of_getElem? (i := 483) (by decide +kernel), by decide +kernel⟩
theorem mk_X3_makingPrice : MKok kX3_makingPrice 1 := ⟨wd_18, wd_19, by decide +kernel, by decide⟩
abbrev kX4_clear : MK := (yX4_clear, cX4_clear, 1, none)
theorem wd_20 : Cond.initialized RX4 ∈ TT := List.mem_filter.mpr ⟨List.mem_of_getElem? (i := 62) (by decide +kernel), by decide +kernel⟩
theorem wd_21 : Cond.code yX4_clear cX4_clear 1 none ∈ TT := List.mem_filter.mpr ⟨List.mem_of_getElem? (i := 355) (by decide +kernel), by decide +kernel⟩
theorem mk_X4_clear : MKok kX4_clear 0 := ⟨wd_20, wd_21, by decide +kernel, by decide⟩
abbrev kX4_read : MK := (yX4_read, cX4_read, 2, (some .int))
theorem wd_22 : Cond.code yX4_read cX4_read 2 (some .int) ∈ TT := List.mem_filter.mpr ⟨List.mem_of_getElem? (i := 433) (by decide +kernel), by decide +kernel⟩
theorem mk_X4_read : MKok kX4_read 1 := ⟨wd_20, wd_22, by decide +kernel, by decide⟩
abbrev kX4_write : MK := (yX4_write, cX4_write, 3, none)
theorem wd_23 : Cond.code yX4_write cX4_write 3 none ∈ TT := List.mem_filter.mpr ⟨List.mem_of_getElem? (i := 359) (by decide +kernel), by decide +kernel⟩
theorem mk_X4_write : MKok kX4_write 2 := ⟨wd_20, wd_23, by decide +kernel, by decide⟩
abbrev kX4_result : MK := (yX4_result, cX4_result, 1, (some .int))
theorem wd_24 : Cond.code yX4_result cX4_result 1 (some .int) ∈ TT := List.mem_filter.mpr ⟨List.mem_of_getElem? (i := 525) (by decide +kernel), by decide +kernel⟩
theorem mk_X4_result : MKok kX4_result 0 := ⟨wd_20, wd_24, by decide +kernel, by decide⟩
abbrev kX4_setResult : MK := (yX4_setResult, cX4_setResult, 2, none)
theorem wd_25 : Cond.code yX4_setResult cX4_setResult 2 none ∈ TT := List.mem_filter.mpr ⟨List.mem_of_getElem? (i := 521) (by decide +kernel), by decide +kernel⟩
theorem mk_X4_setResult : MKok kX4_setResult 1 := ⟨wd_20, wd_25, by decide +kernel, by decide⟩
abbrev kX4_lengthOf : MK := (yX4_lengthOf, cX4_lengthOf, 2, (some .int))
theorem wd_26 : Cond.code yX4_lengthOf cX4_lengthOf 2 (some .int) ∈ TT := List.mem_filter.mpr ⟨List.mem_of_getElem? (i := 495) (by decide +kernel), by decide +kernel⟩
theorem mk_X4_lengthOf : MKok kX4_lengthOf 1 := ⟨wd_20, wd_26, by decide +kernel, by decide⟩
abbrev kX4_makeRow : MK := (yX4_makeRow, cX4_makeRow, 3, none)
theorem wd_27 : Cond.code yX4_makeRow cX4_makeRow 3 none ∈ TT := List.mem_filter.mpr ⟨List.mem_of_getElem? (i := 487) (by decide +kernel), by decide +kernel⟩
theorem mk_X4_makeRow : MKok kX4_makeRow 2 := ⟨wd_20, wd_27, by decide +kernel, by decide⟩
abbrev kX4_forgetRow : MK := (yX4_forgetRow, cX4_forgetRow, 2, none)
theorem wd_28 : Cond.code yX4_forgetRow cX4_forgetRow 2 none ∈ TT := List.mem_filter.mpr ⟨List.mem_of_getElem? (i := 513) (by decide +kernel), by decide +kernel⟩
theorem mk_X4_forgetRow : MKok kX4_forgetRow 1 := ⟨wd_20, wd_28, by decide +kernel, by decide⟩
abbrev kX4_shareRow : MK := (yX4_shareRow, cX4_shareRow, 3, none)
theorem wd_29 : Cond.code yX4_shareRow cX4_shareRow 3 none ∈ TT := List.mem_filter.mpr ⟨List.mem_of_getElem? (i := 517) (by decide +kernel), by decide +kernel⟩
theorem mk_X4_shareRow : MKok kX4_shareRow 2 := ⟨wd_20, wd_29, by decide +kernel, by decide⟩
abbrev kX4_load : MK := (yX4_load, cX4_load, 3, (some .int))
theorem wd_30 : Cond.code yX4_load cX4_load 3 (some .int) ∈ TT := List.mem_filter.mpr ⟨List.mem_of_getElem? (i := 500) (by decide +kernel), by decide +kernel⟩
theorem mk_X4_load : MKok kX4_load 2 := ⟨wd_20, wd_30, by decide +kernel, by decide⟩
abbrev kX4_store : MK := (yX4_store, cX4_store, 4, none)
theorem wd_31 : Cond.code yX4_store cX4_store 4 none ∈ TT := List.mem_filter.mpr ⟨List.mem_of_getElem? (i := 505) (by decide +kernel), by decide +kernel⟩
theorem mk_X4_store : MKok kX4_store 3 := ⟨wd_20, wd_31, by decide +kernel, by decide⟩
abbrev kX4_equalTo : MK := (yX4_equalTo, cX4_equalTo, 3, (some .boolean))
theorem wd_32 : Cond.code yX4_equalTo cX4_equalTo 3 (some .boolean) ∈ TT := List.mem_filter.mpr ⟨List.mem_of_getElem? (i := 652) (by decide +kernel), by decide +kernel⟩
theorem mk_X4_equalTo : MKok kX4_equalTo 1 := ⟨wd_20, wd_32, by decide +kernel, by decide⟩
abbrev kX4_rowEqualTo : MK := (yX4_rowEqualTo, cX4_rowEqualTo, 5, (some .boolean))
theorem wd_33 : Cond.code yX4_rowEqualTo cX4_rowEqualTo 5 (some .boolean) ∈ TT := List.mem_filter.mpr ⟨List.mem_of_getElem? (i := 656) (by decide +kernel), by decide +kernel⟩
theorem mk_X4_rowEqualTo : MKok kX4_rowEqualTo 2 := ⟨wd_20, wd_33, by decide +kernel, by decide⟩
abbrev kX5_statements : MK := (yX5_statements, cX5_statements, 1, (some .int))
theorem wd_34 : Cond.initialized RX5 ∈ TT := List.mem_filter.mpr ⟨List.mem_of_getElem? (i := 59) (by decide +kernel), by decide +kernel⟩
theorem wd_35 : Cond.code yX5_statements cX5_statements 1 (some .int) ∈ TT := List.mem_filter.mpr ⟨List.mem_of_getElem? (i := 665) (by decide +kernel), by decide +kernel⟩
theorem mk_X5_statements : MKok kX5_statements 0 := ⟨wd_34, wd_35, by decide +kernel, by decide⟩
abbrev kX5_bodies : MK := (yX5_bodies, cX5_bodies, 3, (some .int))
theorem wd_36 : Cond.code yX5_bodies cX5_bodies 3 (some .int) ∈ TT := List.mem_filter.mpr ⟨List.mem_of_getElem? (i := 669) (by decide +kernel), by decide +kernel⟩
theorem mk_X5_bodies : MKok kX5_bodies 0 := ⟨wd_34, wd_36, by decide +kernel, by decide⟩
abbrev kX5_isFull : MK := (yX5_isFull, cX5_isFull, 1, (some .boolean))
theorem wd_37 : Cond.code yX5_isFull cX5_isFull 1 (some .boolean) ∈ TT := List.mem_filter.mpr ⟨List.mem_of_getElem? (i := 305) (by decide +kernel), by decide +kernel⟩
theorem mk_X5_isFull : MKok kX5_isFull 0 := ⟨wd_34, wd_37, by decide +kernel, by decide⟩
abbrev kX5_has : MK := (yX5_has, cX5_has, 2, (some .boolean))
theorem wd_38 : Cond.code yX5_has cX5_has 2 (some .boolean) ∈ TT := List.mem_filter.mpr ⟨List.mem_of_getElem? (i := 290) (by decide +kernel), by decide +kernel⟩
theorem mk_X5_has : MKok kX5_has 1 := ⟨wd_34, wd_38, by decide +kernel, by decide⟩
abbrev kX5_sortOf : MK := (yX5_sortOf, cX5_sortOf, 2, (some .int))
theorem wd_39 : Cond.code yX5_sortOf cX5_sortOf 2 (some .int) ∈ TT := List.mem_filter.mpr ⟨List.mem_of_getElem? (i := 421) (by decide +kernel), by decide +kernel⟩
theorem mk_X5_sortOf : MKok kX5_sortOf 1 := ⟨wd_34, wd_39, by decide +kernel, by decide⟩
abbrev kX5_firstOf : MK := (yX5_firstOf, cX5_firstOf, 2, (some .int))
theorem wd_40 : Cond.code yX5_firstOf cX5_firstOf 2 (some .int) ∈ TT := List.mem_filter.mpr ⟨List.mem_of_getElem? (i := 409) (by decide +kernel), by decide +kernel⟩
theorem mk_X5_firstOf : MKok kX5_firstOf 1 := ⟨wd_34, wd_40, by decide +kernel, by decide⟩
abbrev kX5_secondOf : MK := (yX5_secondOf, cX5_secondOf, 2, (some .int))
theorem wd_41 : Cond.code yX5_secondOf cX5_secondOf 2 (some .int) ∈ TT := List.mem_filter.mpr ⟨List.mem_of_getElem? (i := 413) (by decide +kernel), by decide +kernel⟩
theorem mk_X5_secondOf : MKok kX5_secondOf 1 := ⟨wd_34, wd_41, by decide +kernel, by decide⟩
abbrev kX5_thirdOf : MK := (yX5_thirdOf, cX5_thirdOf, 2, (some .int))
theorem wd_42 : Cond.code yX5_thirdOf cX5_thirdOf 2 (some .int) ∈ TT := List.mem_filter.mpr ⟨List.mem_of_getElem? (i := 417) (by decide +kernel), by decide +kernel⟩
theorem mk_X5_thirdOf : MKok kX5_thirdOf 1 := ⟨wd_34, wd_42, by decide +kernel, by decide⟩
abbrev kX5_bodyOf : MK := (yX5_bodyOf, cX5_bodyOf, 2, (some .int))
theorem wd_43 : Cond.code yX5_bodyOf cX5_bodyOf 2 (some .int) ∈ TT := List.mem_filter.mpr ⟨List.mem_of_getElem? (i := 340) (by decide +kernel), by decide +kernel⟩
theorem mk_X5_bodyOf : MKok kX5_bodyOf 1 := ⟨wd_34, wd_43, by decide +kernel, by decide⟩
abbrev kX5_setBody : MK := (yX5_setBody, cX5_setBody, 3, none)
theorem wd_44 : Cond.code yX5_setBody cX5_setBody 3 none ∈ TT := List.mem_filter.mpr ⟨List.mem_of_getElem? (i := 332) (by decide +kernel), by decide +kernel⟩
theorem mk_X5_setBody : MKok kX5_setBody 2 := ⟨wd_34, wd_44, by decide +kernel, by decide⟩
abbrev kX5_takes : MK := (yX5_takes, cX5_takes, 5, (some .boolean))
theorem wd_45 : Cond.code yX5_takes cX5_takes 5 (some .boolean) ∈ TT := List.mem_filter.mpr ⟨List.mem_of_getElem? (i := 273) (by decide +kernel), by decide +kernel⟩
theorem mk_X5_takes : MKok kX5_takes 4 := ⟨wd_34, wd_45, by decide +kernel, by decide⟩
abbrev kX5_add : MK := (yX5_add, cX5_add, 5, (some .int))
theorem wd_46 : Cond.code yX5_add cX5_add 5 (some .int) ∈ TT := List.mem_filter.mpr ⟨List.mem_of_getElem? (i := 309) (by decide +kernel), by decide +kernel⟩
theorem mk_X5_add : MKok kX5_add 4 := ⟨wd_34, wd_46, by decide +kernel, by decide⟩
abbrev kX5_canLoseLast : MK := (yX5_canLoseLast, cX5_canLoseLast, 2, (some .boolean))
theorem wd_47 : Cond.code yX5_canLoseLast cX5_canLoseLast 2 (some .boolean) ∈ TT := List.mem_filter.mpr ⟨List.mem_of_getElem? (i := 318) (by decide +kernel), by decide +kernel⟩
theorem mk_X5_canLoseLast : MKok kX5_canLoseLast 0 := ⟨wd_34, wd_47, by decide +kernel, by decide⟩
abbrev kX5_loseLast : MK := (yX5_loseLast, cX5_loseLast, 1, (some .int))
theorem wd_48 : Cond.code yX5_loseLast cX5_loseLast 1 (some .int) ∈ TT := List.mem_filter.mpr ⟨List.mem_of_getElem? (i := 322) (by decide +kernel), by decide +kernel⟩
theorem mk_X5_loseLast : MKok kX5_loseLast 0 := ⟨wd_34, wd_48, by decide +kernel, by decide⟩
abbrev kX5_operandsFit : MK := (yX5_operandsFit, cX5_operandsFit, 5, (some .boolean))
theorem wd_49 : Cond.code yX5_operandsFit cX5_operandsFit 5 (some .boolean) ∈ TT := List.mem_filter.mpr ⟨List.mem_of_getElem? (i := 277) (by decide +kernel), by decide +kernel⟩
theorem mk_X5_operandsFit : MKok kX5_operandsFit 4 := ⟨wd_34, wd_49, by decide +kernel, by decide⟩
abbrev kX5_heightWith : MK := (yX5_heightWith, cX5_heightWith, 5, (some .int))
theorem wd_50 : Cond.code yX5_heightWith cX5_heightWith 5 (some .int) ∈ TT := List.mem_filter.mpr ⟨List.mem_of_getElem? (i := 294) (by decide +kernel), by decide +kernel⟩
theorem mk_X5_heightWith : MKok kX5_heightWith 4 := ⟨wd_34, wd_50, by decide +kernel, by decide⟩
abbrev kX5_heightOf : MK := (yX5_heightOf, cX5_heightOf, 2, (some .int))
theorem wd_51 : Cond.code yX5_heightOf cX5_heightOf 2 (some .int) ∈ TT := List.mem_filter.mpr ⟨List.mem_of_getElem? (i := 298) (by decide +kernel), by decide +kernel⟩
theorem mk_X5_heightOf : MKok kX5_heightOf 1 := ⟨wd_34, wd_51, by decide +kernel, by decide⟩
abbrev kX5_isVariable : MK := (yX5_isVariable, cX5_isVariable, 1, (some .boolean))
theorem wd_52 : Cond.code yX5_isVariable cX5_isVariable 1 (some .boolean) ∈ TT := List.mem_filter.mpr ⟨List.mem_of_getElem? (i := 280) (by decide +kernel), by decide +kernel⟩
theorem mk_X5_isVariable : MKok kX5_isVariable 1 := ⟨wd_34, wd_52, by decide +kernel, by decide⟩
abbrev kX5_isRow : MK := (yX5_isRow, cX5_isRow, 1, (some .boolean))
theorem wd_53 : Cond.code yX5_isRow cX5_isRow 1 (some .boolean) ∈ TT := List.mem_filter.mpr ⟨List.mem_of_getElem? (i := 286) (by decide +kernel), by decide +kernel⟩
theorem mk_X5_isRow : MKok kX5_isRow 1 := ⟨wd_34, wd_53, by decide +kernel, by decide⟩
abbrev kX6_fill : MK := (yX6_fill, cX6_fill, 2, none)
theorem wd_54 : Cond.initialized RX6 ∈ TT := List.mem_filter.mpr ⟨List.mem_of_getElem? (i := 63) (by decide +kernel), by decide +kernel⟩
theorem wd_55 : Cond.code yX6_fill cX6_fill 2 none ∈ TT := List.mem_filter.mpr ⟨List.mem_of_getElem? (i := 364) (by decide +kernel), by decide +kernel⟩
theorem mk_X6_fill : MKok kX6_fill 1 := ⟨wd_54, wd_55, by decide +kernel, by decide⟩
abbrev kX6_isByReserve : MK := (yX6_isByReserve, cX6_isByReserve, 1, (some .boolean))
theorem wd_56 : Cond.code yX6_isByReserve cX6_isByReserve 1 (some .boolean) ∈ TT := List.mem_filter.mpr ⟨List.mem_of_getElem? (i := 557) (by decide +kernel), by decide +kernel⟩
theorem mk_X6_isByReserve : MKok kX6_isByReserve 0 := ⟨wd_54, wd_56, by decide +kernel, by decide⟩
abbrev kX6_setByReserve : MK := (yX6_setByReserve, cX6_setByReserve, 2, none)
theorem wd_57 : Cond.code yX6_setByReserve cX6_setByReserve 2 none ∈ TT := List.mem_filter.mpr ⟨List.mem_of_getElem? (i := 561) (by decide +kernel), by decide +kernel⟩
theorem mk_X6_setByReserve : MKok kX6_setByReserve 1 := ⟨wd_54, wd_57, by decide +kernel, by decide⟩
abbrev kX6_pays : MK := (yX6_pays, cX6_pays, 3, (some .boolean))
theorem wd_58 : Cond.code yX6_pays cX6_pays 3 (some .boolean) ∈ TT := List.mem_filter.mpr ⟨List.mem_of_getElem? (i := 378) (by decide +kernel), by decide +kernel⟩
theorem mk_X6_pays : MKok kX6_pays 2 := ⟨wd_54, wd_58, by decide +kernel, by decide⟩
abbrev kX6_noteBegun : MK := (yX6_noteBegun, cX6_noteBegun, 2, none)
theorem wd_59 : Cond.code yX6_noteBegun cX6_noteBegun 2 none ∈ TT := List.mem_filter.mpr ⟨List.mem_of_getElem? (i := 545) (by decide +kernel), by decide +kernel⟩
theorem mk_X6_noteBegun : MKok kX6_noteBegun 1 := ⟨wd_54, wd_59, by decide +kernel, by decide⟩
abbrev kX6_begunAt : MK := (yX6_begunAt, cX6_begunAt, 2, (some .int))
theorem wd_60 : Cond.code yX6_begunAt cX6_begunAt 2 (some .int) ∈ TT := List.mem_filter.mpr ⟨List.mem_of_getElem? (i := 629) (by decide +kernel), by decide +kernel⟩
theorem mk_X6_begunAt : MKok kX6_begunAt 1 := ⟨wd_54, wd_60, by decide +kernel, by decide⟩
abbrev kX6_marksOf : MK := (yX6_marksOf, cX6_marksOf, 2, (some .int))
theorem wd_61 : Cond.code yX6_marksOf cX6_marksOf 2 (some .int) ∈ TT := List.mem_filter.mpr ⟨List.mem_of_getElem? (i := 621) (by decide +kernel), by decide +kernel⟩
theorem mk_X6_marksOf : MKok kX6_marksOf 1 := ⟨wd_54, wd_61, by decide +kernel, by decide⟩
abbrev kX6_spentOfBudget : MK := (yX6_spentOfBudget, cX6_spentOfBudget, 1, (some .int))
theorem wd_62 : Cond.code yX6_spentOfBudget cX6_spentOfBudget 1 (some .int) ∈ TT := List.mem_filter.mpr ⟨List.mem_of_getElem? (i := 601) (by decide +kernel), by decide +kernel⟩
theorem mk_X6_spentOfBudget : MKok kX6_spentOfBudget 0 := ⟨wd_54, wd_62, by decide +kernel, by decide⟩
abbrev kX6_spentOfReserve : MK := (yX6_spentOfReserve, cX6_spentOfReserve, 1, (some .int))
theorem wd_63 : Cond.code yX6_spentOfReserve cX6_spentOfReserve 1 (some .int) ∈ TT := List.mem_filter.mpr ⟨List.mem_of_getElem? (i := 605) (by decide +kernel), by decide +kernel⟩
theorem mk_X6_spentOfReserve : MKok kX6_spentOfReserve 0 := ⟨wd_54, wd_63, by decide +kernel, by decide⟩
abbrev kX7_perform : MK := (yX7_perform, cX7_perform, 6, (some .int))
theorem wd_64 : Cond.initialized RX7 ∈ TT := List.mem_filter.mpr ⟨List.mem_of_getElem? (i := 61) (by decide +kernel), by decide +kernel⟩
theorem wd_65 : Cond.code yX7_perform cX7_perform 6 (some .int) ∈ TT := List.mem_filter.mpr ⟨List.mem_of_getElem? (i := 347) (by decide +kernel), by decide +kernel⟩
theorem mk_X7_perform : MKok kX7_perform 3 := ⟨wd_64, wd_65, by decide +kernel, by decide⟩
abbrev kX7_tell : MK := (yX7_tell, cX7_tell, 2, (some .int))
theorem wd_66 : Cond.code yX7_tell cX7_tell 2 (some .int) ∈ TT := List.mem_filter.mpr ⟨List.mem_of_getElem? (i := 597) (by decide +kernel), by decide +kernel⟩
theorem mk_X7_tell : MKok kX7_tell 1 := ⟨wd_64, wd_66, by decide +kernel, by decide⟩
abbrev kX7_tellsTheSameAs : MK := (yX7_tellsTheSameAs, cX7_tellsTheSameAs, 3, (some .boolean))
theorem wd_67 : Cond.code yX7_tellsTheSameAs cX7_tellsTheSameAs 3 (some .boolean) ∈ TT := List.mem_filter.mpr ⟨List.mem_of_getElem? (i := 647) (by decide +kernel), by decide +kernel⟩
theorem mk_X7_tellsTheSameAs : MKok kX7_tellsTheSameAs 1 := ⟨wd_64, wd_67, by decide +kernel, by decide⟩
abbrev kX7_clear : MK := (yX7_clear, cX7_clear, 3, none)
theorem wd_68 : Cond.code yX7_clear cX7_clear 3 none ∈ TT := List.mem_filter.mpr ⟨List.mem_of_getElem? (i := 351) (by decide +kernel), by decide +kernel⟩
theorem mk_X7_clear : MKok kX7_clear 2 := ⟨wd_64, wd_68, by decide +kernel, by decide⟩
abbrev kX7_begin : MK := (yX7_begin, cX7_begin, 6, none)
theorem wd_69 : Cond.code yX7_begin cX7_begin 6 none ∈ TT := List.mem_filter.mpr ⟨List.mem_of_getElem? (i := 405) (by decide +kernel), by decide +kernel⟩
theorem mk_X7_begin : MKok kX7_begin 1 := ⟨wd_64, wd_69, by decide +kernel, by decide⟩
abbrev kX7_goOn : MK := (yX7_goOn, cX7_goOn, 2, none)
theorem wd_70 : Cond.code yX7_goOn cX7_goOn 2 none ∈ TT := List.mem_filter.mpr ⟨List.mem_of_getElem? (i := 529) (by decide +kernel), by decide +kernel⟩
theorem mk_X7_goOn : MKok kX7_goOn 1 := ⟨wd_64, wd_70, by decide +kernel, by decide⟩
abbrev kX7_goOnWithBoth : MK := (yX7_goOnWithBoth, cX7_goOnWithBoth, 2, none)
theorem wd_71 : Cond.code yX7_goOnWithBoth cX7_goOnWithBoth 2 none ∈ TT := List.mem_filter.mpr ⟨List.mem_of_getElem? (i := 533) (by decide +kernel), by decide +kernel⟩
theorem mk_X7_goOnWithBoth : MKok kX7_goOnWithBoth 1 := ⟨wd_64, wd_71, by decide +kernel, by decide⟩
abbrev kX7_goOnWithLoop : MK := (yX7_goOnWithLoop, cX7_goOnWithLoop, 2, none)
theorem wd_72 : Cond.code yX7_goOnWithLoop cX7_goOnWithLoop 2 none ∈ TT := List.mem_filter.mpr ⟨List.mem_of_getElem? (i := 537) (by decide +kernel), by decide +kernel⟩
theorem mk_X7_goOnWithLoop : MKok kX7_goOnWithLoop 1 := ⟨wd_64, wd_72, by decide +kernel, by decide⟩
abbrev kX7_goOnWithTry : MK := (yX7_goOnWithTry, cX7_goOnWithTry, 3, none)
theorem wd_73 : Cond.code yX7_goOnWithTry cX7_goOnWithTry 3 none ∈ TT := List.mem_filter.mpr ⟨List.mem_of_getElem? (i := 541) (by decide +kernel), by decide +kernel⟩
theorem mk_X7_goOnWithTry : MKok kX7_goOnWithTry 1 := ⟨wd_64, wd_73, by decide +kernel, by decide⟩
abbrev kX7_beginLastPart : MK := (yX7_beginLastPart, cX7_beginLastPart, 3, none)
theorem wd_74 : Cond.code yX7_beginLastPart cX7_beginLastPart 3 none ∈ TT := List.mem_filter.mpr ⟨List.mem_of_getElem? (i := 549) (by decide +kernel), by decide +kernel⟩
theorem mk_X7_beginLastPart : MKok kX7_beginLastPart 1 := ⟨wd_64, wd_74, by decide +kernel, by decide⟩
abbrev kX7_payForLastPart : MK := (yX7_payForLastPart, cX7_payForLastPart, 1, (some .int))
theorem wd_75 : Cond.code yX7_payForLastPart cX7_payForLastPart 1 (some .int) ∈ TT := List.mem_filter.mpr ⟨List.mem_of_getElem? (i := 553) (by decide +kernel), by decide +kernel⟩
theorem mk_X7_payForLastPart : MKok kX7_payForLastPart 0 := ⟨wd_64, wd_75, by decide +kernel, by decide⟩
abbrev kX7_endLastPart : MK := (yX7_endLastPart, cX7_endLastPart, 1, none)
theorem wd_76 : Cond.code yX7_endLastPart cX7_endLastPart 1 none ∈ TT := List.mem_filter.mpr ⟨List.mem_of_getElem? (i := 569) (by decide +kernel), by decide +kernel⟩
theorem mk_X7_endLastPart : MKok kX7_endLastPart 0 := ⟨wd_64, wd_76, by decide +kernel, by decide⟩
abbrev kX7_loopOrEnd : MK := (yX7_loopOrEnd, cX7_loopOrEnd, 3, none)
theorem wd_77 : Cond.code yX7_loopOrEnd cX7_loopOrEnd 3 none ∈ TT := List.mem_filter.mpr ⟨List.mem_of_getElem? (i := 437) (by decide +kernel), by decide +kernel⟩
theorem mk_X7_loopOrEnd : MKok kX7_loopOrEnd 2 := ⟨wd_64, wd_77, by decide +kernel, by decide⟩
abbrev kX7_call : MK := (yX7_call, cX7_call, 3, none)
theorem wd_78 : Cond.code yX7_call cX7_call 3 none ∈ TT := List.mem_filter.mpr ⟨List.mem_of_getElem? (i := 445) (by decide +kernel), by decide +kernel⟩
theorem mk_X7_call : MKok kX7_call 1 := ⟨wd_64, wd_78, by decide +kernel, by decide⟩
abbrev kX7_enter : MK := (yX7_enter, cX7_enter, 2, none)
theorem wd_79 : Cond.code yX7_enter cX7_enter 2 none ∈ TT := List.mem_filter.mpr ⟨List.mem_of_getElem? (i := 383) (by decide +kernel), by decide +kernel⟩
theorem mk_X7_enter : MKok kX7_enter 1 := ⟨wd_64, wd_79, by decide +kernel, by decide⟩
abbrev kX7_doPart : MK := (yX7_doPart, cX7_doPart, 3, none)
theorem wd_80 : Cond.code yX7_doPart cX7_doPart 3 none ∈ TT := List.mem_filter.mpr ⟨List.mem_of_getElem? (i := 425) (by decide +kernel), by decide +kernel⟩
theorem mk_X7_doPart : MKok kX7_doPart 2 := ⟨wd_64, wd_80, by decide +kernel, by decide⟩
abbrev kX7_end : MK := (yX7_end, cX7_end, 2, none)
theorem wd_81 : Cond.code yX7_end cX7_end 2 none ∈ TT := List.mem_filter.mpr ⟨List.mem_of_getElem? (i := 454) (by decide +kernel), by decide +kernel⟩
theorem mk_X7_end : MKok kX7_end 1 := ⟨wd_64, wd_81, by decide +kernel, by decide⟩
abbrev kX7_raise : MK := (yX7_raise, cX7_raise, 3, none)
theorem wd_82 : Cond.code yX7_raise cX7_raise 3 none ∈ TT := List.mem_filter.mpr ⟨List.mem_of_getElem? (i := 450) (by decide +kernel), by decide +kernel⟩
theorem mk_X7_raise : MKok kX7_raise 2 := ⟨wd_64, wd_82, by decide +kernel, by decide⟩
abbrev kX7_doAtOnce : MK := (yX7_doAtOnce, cX7_doAtOnce, 5, none)
theorem wd_83 : Cond.code yX7_doAtOnce cX7_doAtOnce 5 none ∈ TT := List.mem_filter.mpr ⟨List.mem_of_getElem? (i := 464) (by decide +kernel), by decide +kernel⟩
theorem mk_X7_doAtOnce : MKok kX7_doAtOnce 4 := ⟨wd_64, wd_83, by decide +kernel, by decide⟩
abbrev kX7_calculate : MK := (yX7_calculate, cX7_calculate, 7, none)
theorem wd_84 : Cond.code yX7_calculate cX7_calculate 7 none ∈ TT := List.mem_filter.mpr ⟨List.mem_of_getElem? (i := 468) (by decide +kernel), by decide +kernel⟩
theorem mk_X7_calculate : MKok kX7_calculate 4 := ⟨wd_64, wd_84, by decide +kernel, by decide⟩
abbrev kX7_divide : MK := (yX7_divide, cX7_divide, 5, none)
theorem wd_85 : Cond.code yX7_divide cX7_divide 5 none ∈ TT := List.mem_filter.mpr ⟨List.mem_of_getElem? (i := 472) (by decide +kernel), by decide +kernel⟩
theorem mk_X7_divide : MKok kX7_divide 4 := ⟨wd_64, wd_85, by decide +kernel, by decide⟩
abbrev kX7_doWithRow : MK := (yX7_doWithRow, cX7_doWithRow, 5, none)
theorem wd_86 : Cond.code yX7_doWithRow cX7_doWithRow 5 none ∈ TT := List.mem_filter.mpr ⟨List.mem_of_getElem? (i := 476) (by decide +kernel), by decide +kernel⟩
theorem mk_X7_doWithRow : MKok kX7_doWithRow 4 := ⟨wd_64, wd_86, by decide +kernel, by decide⟩
abbrev kX7_makeRow : MK := (yX7_makeRow, cX7_makeRow, 3, none)
theorem wd_87 : Cond.code yX7_makeRow cX7_makeRow 3 none ∈ TT := List.mem_filter.mpr ⟨List.mem_of_getElem? (i := 480) (by decide +kernel), by decide +kernel⟩
theorem mk_X7_makeRow : MKok kX7_makeRow 2 := ⟨wd_64, wd_87, by decide +kernel, by decide⟩
abbrev kX7_measureRow : MK := (yX7_measureRow, cX7_measureRow, 4, none)
theorem wd_88 : Cond.code yX7_measureRow cX7_measureRow 4 none ∈ TT := List.mem_filter.mpr ⟨List.mem_of_getElem? (i := 509) (by decide +kernel), by decide +kernel⟩
theorem mk_X7_measureRow : MKok kX7_measureRow 2 := ⟨wd_64, wd_88, by decide +kernel, by decide⟩
abbrev kX7_reaches : MK := (yX7_reaches, cX7_reaches, 4, (some .boolean))
theorem wd_89 : Cond.code yX7_reaches cX7_reaches 4 (some .boolean) ∈ TT := List.mem_filter.mpr ⟨List.mem_of_getElem? (i := 491) (by decide +kernel), by decide +kernel⟩
theorem mk_X7_reaches : MKok kX7_reaches 2 := ⟨wd_64, wd_89, by decide +kernel, by decide⟩
abbrev kX9_make : MK := (yX9_make, cX9_make, 5, (some .int))
theorem wd_90 : Cond.initialized RX9 ∈ TT := List.mem_filter.mpr ⟨List.mem_of_getElem? (i := 58) (by decide +kernel), by decide +kernel⟩
theorem wd_91 : Cond.code yX9_make cX9_make 5 (some .int) ∈ TT := List.mem_filter.mpr ⟨List.mem_of_getElem? (i := 269) (by decide +kernel), by decide +kernel⟩
theorem mk_X9_make : MKok kX9_make 4 := ⟨wd_90, wd_91, by decide +kernel, by decide⟩
abbrev kX9_drop : MK := (yX9_drop, cX9_drop, 1, (some .int))
theorem wd_92 : Cond.code yX9_drop cX9_drop 1 (some .int) ∈ TT := List.mem_filter.mpr ⟨List.mem_of_getElem? (i := 314) (by decide +kernel), by decide +kernel⟩
theorem mk_X9_drop : MKok kX9_drop 0 := ⟨wd_90, wd_92, by decide +kernel, by decide⟩
abbrev kX9_body : MK := (yX9_body, cX9_body, 4, (some .int))
theorem wd_93 : Cond.code yX9_body cX9_body 4 (some .int) ∈ TT := List.mem_filter.mpr ⟨List.mem_of_getElem? (i := 326) (by decide +kernel), by decide +kernel⟩
theorem mk_X9_body : MKok kX9_body 2 := ⟨wd_90, wd_93, by decide +kernel, by decide⟩
abbrev kX9_run : MK := (yX9_run, cX9_run, 4, (some .int))
theorem wd_94 : Cond.code yX9_run cX9_run 4 (some .int) ∈ TT := List.mem_filter.mpr ⟨List.mem_of_getElem? (i := 336) (by decide +kernel), by decide +kernel⟩
theorem mk_X9_run : MKok kX9_run 3 := ⟨wd_90, wd_94, by decide +kernel, by decide⟩
abbrev kX9_told : MK := (yX9_told, cX9_told, 2, (some .int))
theorem wd_95 : Cond.code yX9_told cX9_told 2 (some .int) ∈ TT := List.mem_filter.mpr ⟨List.mem_of_getElem? (i := 593) (by decide +kernel), by decide +kernel⟩
theorem mk_X9_told : MKok kX9_told 1 := ⟨wd_90, wd_95, by decide +kernel, by decide⟩
abbrev kX9_marks : MK := (yX9_marks, cX9_marks, 2, (some .int))
theorem wd_96 : Cond.code yX9_marks cX9_marks 2 (some .int) ∈ TT := List.mem_filter.mpr ⟨List.mem_of_getElem? (i := 617) (by decide +kernel), by decide +kernel⟩
theorem mk_X9_marks : MKok kX9_marks 1 := ⟨wd_90, wd_96, by decide +kernel, by decide⟩
abbrev kX9_began : MK := (yX9_began, cX9_began, 2, (some .int))
theorem wd_97 : Cond.code yX9_began cX9_began 2 (some .int) ∈ TT := List.mem_filter.mpr ⟨List.mem_of_getElem? (i := 625) (by decide +kernel), by decide +kernel⟩
theorem mk_X9_began : MKok kX9_began 1 := ⟨wd_90, wd_97, by decide +kernel, by decide⟩
abbrev kX9_variable : MK := (yX9_variable, cX9_variable, 2, (some .int))
theorem wd_98 : Cond.code yX9_variable cX9_variable 2 (some .int) ∈ TT := List.mem_filter.mpr ⟨List.mem_of_getElem? (i := 633) (by decide +kernel), by decide +kernel⟩
theorem mk_X9_variable : MKok kX9_variable 1 := ⟨wd_90, wd_98, by decide +kernel, by decide⟩
abbrev kX9_size : MK := (yX9_size, cX9_size, 2, (some .int))
theorem wd_99 : Cond.code yX9_size cX9_size 2 (some .int) ∈ TT := List.mem_filter.mpr ⟨List.mem_of_getElem? (i := 638) (by decide +kernel), by decide +kernel⟩
theorem mk_X9_size : MKok kX9_size 1 := ⟨wd_90, wd_99, by decide +kernel, by decide⟩
abbrev kX9_same : MK := (yX9_same, cX9_same, 7, (some .int))
theorem wd_100 : Cond.code yX9_same cX9_same 7 (some .int) ∈ TT := List.mem_filter.mpr ⟨List.mem_of_getElem? (i := 643) (by decide +kernel), by decide +kernel⟩
theorem mk_X9_same : MKok kX9_same 4 := ⟨wd_90, wd_100, by decide +kernel, by decide⟩
abbrev kX9_count : MK := (yX9_count, cX9_count, 2, (some .int))
theorem wd_101 : Cond.code yX9_count cX9_count 2 (some .int) ∈ TT := List.mem_filter.mpr ⟨List.mem_of_getElem? (i := 661) (by decide +kernel), by decide +kernel⟩
theorem mk_X9_count : MKok kX9_count 1 := ⟨wd_90, wd_101, by decide +kernel, by decide⟩
abbrev kX9_counted : MK := (yX9_counted, cX9_counted, 2, (some .int))
theorem wd_102 : Cond.code yX9_counted cX9_counted 2 (some .int) ∈ TT := List.mem_filter.mpr ⟨List.mem_of_getElem? (i := 589) (by decide +kernel), by decide +kernel⟩
theorem mk_X9_counted : MKok kX9_counted 1 := ⟨wd_90, wd_102, by decide +kernel, by decide⟩
abbrev kX9_isBudget : MK := (yX9_isBudget, cX9_isBudget, 1, (some .boolean))
theorem wd_103 : Cond.code yX9_isBudget cX9_isBudget 1 (some .boolean) ∈ TT := List.mem_filter.mpr ⟨List.mem_of_getElem? (i := 343) (by decide +kernel), by decide +kernel⟩
theorem mk_X9_isBudget : MKok kX9_isBudget 1 := ⟨wd_90, wd_103, by decide +kernel, by decide⟩
abbrev kX9_isBelow : MK := (yX9_isBelow, cX9_isBelow, 2, (some .boolean))
theorem wd_104 : Cond.code yX9_isBelow cX9_isBelow 2 (some .boolean) ∈ TT := List.mem_filter.mpr ⟨List.mem_of_getElem? (i := 283) (by decide +kernel), by decide +kernel⟩
theorem mk_X9_isBelow : MKok kX9_isBelow 2 := ⟨wd_90, wd_104, by decide +kernel, by decide⟩
abbrev kX10_thrown : MK := (yX10_thrown, cX10_thrown, 1, (some .int))
theorem wd_105 : Cond.initialized RX10 ∈ TT := List.mem_filter.mpr ⟨List.mem_of_getElem? (i := 66) (by decide +kernel), by decide +kernel⟩
theorem wd_106 : Cond.code yX10_thrown cX10_thrown 1 (some .int) ∈ TT := List.mem_filter.mpr ⟨List.mem_of_getElem? (i := 802) (by decide +kernel), by decide +kernel⟩
theorem mk_X10_thrown : MKok kX10_thrown 0 := ⟨wd_105, wd_106, by decide +kernel, by decide⟩
abbrev kX10_fail : MK := (yX10_fail, cX10_fail, 2, (some .int))
theorem wd_107 : Cond.code yX10_fail cX10_fail 2 (some .int) ∈ TT := List.mem_filter.mpr ⟨List.mem_of_getElem? (i := 1087) (by decide +kernel), by decide +kernel⟩
theorem mk_X10_fail : MKok kX10_fail 1 := ⟨wd_105, wd_107, by decide +kernel, by decide⟩
abbrev kX10_isIn : MK := (yX10_isIn, cX10_isIn, 2, (some .boolean))
theorem wd_108 : Cond.code yX10_isIn cX10_isIn 2 (some .boolean) ∈ TT := List.mem_filter.mpr ⟨List.mem_of_getElem? (i := 943) (by decide +kernel), by decide +kernel⟩
theorem mk_X10_isIn : MKok kX10_isIn 2 := ⟨wd_105, wd_108, by decide +kernel, by decide⟩
abbrev kX10_isStatement : MK := (yX10_isStatement, cX10_isStatement, 2, (some .boolean))
theorem wd_109 : Cond.code yX10_isStatement cX10_isStatement 2 (some .boolean) ∈ TT := List.mem_filter.mpr ⟨List.mem_of_getElem? (i := 947) (by decide +kernel), by decide +kernel⟩
theorem mk_X10_isStatement : MKok kX10_isStatement 1 := ⟨wd_105, wd_109, by decide +kernel, by decide⟩
abbrev kX10_isRight : MK := (yX10_isRight, cX10_isRight, 5, (some .boolean))
theorem wd_110 : Cond.code yX10_isRight cX10_isRight 5 (some .boolean) ∈ TT := List.mem_filter.mpr ⟨List.mem_of_getElem? (i := 940) (by decide +kernel), by decide +kernel⟩
theorem mk_X10_isRight : MKok kX10_isRight 4 := ⟨wd_105, wd_110, by decide +kernel, by decide⟩
abbrev kX10_highest : MK := (yX10_highest, cX10_highest, 3, (some .int))
theorem wd_111 : Cond.code yX10_highest cX10_highest 3 (some .int) ∈ TT := List.mem_filter.mpr ⟨List.mem_of_getElem? (i := 955) (by decide +kernel), by decide +kernel⟩
theorem mk_X10_highest : MKok kX10_highest 2 := ⟨wd_105, wd_111, by decide +kernel, by decide⟩
abbrev kX10_heightOf : MK := (yX10_heightOf, cX10_heightOf, 5, (some .int))
theorem wd_112 : Cond.code yX10_heightOf cX10_heightOf 5 (some .int) ∈ TT := List.mem_filter.mpr ⟨List.mem_of_getElem? (i := 951) (by decide +kernel), by decide +kernel⟩
theorem mk_X10_heightOf : MKok kX10_heightOf 4 := ⟨wd_105, wd_112, by decide +kernel, by decide⟩
abbrev kX10_make : MK := (yX10_make, cX10_make, 5, (some .int))
theorem wd_113 : Cond.code yX10_make cX10_make 5 (some .int) ∈ TT := List.mem_filter.mpr ⟨List.mem_of_getElem? (i := 936) (by decide +kernel), by decide +kernel⟩
theorem mk_X10_make : MKok kX10_make 4 := ⟨wd_105, wd_113, by decide +kernel, by decide⟩
abbrev kX10_drop : MK := (yX10_drop, cX10_drop, 3, (some .int))
theorem wd_114 : Cond.code yX10_drop cX10_drop 3 (some .int) ∈ TT := List.mem_filter.mpr ⟨List.mem_of_getElem? (i := 959) (by decide +kernel), by decide +kernel⟩
theorem mk_X10_drop : MKok kX10_drop 0 := ⟨wd_105, wd_114, by decide +kernel, by decide⟩
abbrev kX10_body : MK := (yX10_body, cX10_body, 3, (some .int))
theorem wd_115 : Cond.code yX10_body cX10_body 3 (some .int) ∈ TT := List.mem_filter.mpr ⟨List.mem_of_getElem? (i := 963) (by decide +kernel), by decide +kernel⟩
theorem mk_X10_body : MKok kX10_body 2 := ⟨wd_105, wd_115, by decide +kernel, by decide⟩
abbrev kX10_push : MK := (yX10_push, cX10_push, 2, none)
theorem wd_116 : Cond.code yX10_push cX10_push 2 none ∈ TT := List.mem_filter.mpr ⟨List.mem_of_getElem? (i := 995) (by decide +kernel), by decide +kernel⟩
theorem mk_X10_push : MKok kX10_push 1 := ⟨wd_105, wd_116, by decide +kernel, by decide⟩
abbrev kX10_comes : MK := (yX10_comes, cX10_comes, 2, none)
theorem wd_117 : Cond.code yX10_comes cX10_comes 2 none ∈ TT := List.mem_filter.mpr ⟨List.mem_of_getElem? (i := 1003) (by decide +kernel), by decide +kernel⟩
theorem mk_X10_comes : MKok kX10_comes 1 := ⟨wd_105, wd_117, by decide +kernel, by decide⟩
abbrev kX10_throwing : MK := (yX10_throwing, cX10_throwing, 3, none)
theorem wd_118 : Cond.code yX10_throwing cX10_throwing 3 none ∈ TT := List.mem_filter.mpr ⟨List.mem_of_getElem? (i := 1011) (by decide +kernel), by decide +kernel⟩
theorem mk_X10_throwing : MKok kX10_throwing 2 := ⟨wd_105, wd_118, by decide +kernel, by decide⟩
abbrev kX10_pays : MK := (yX10_pays, cX10_pays, 4, (some .boolean))
theorem wd_119 : Cond.code yX10_pays cX10_pays 4 (some .boolean) ∈ TT := List.mem_filter.mpr ⟨List.mem_of_getElem? (i := 983) (by decide +kernel), by decide +kernel⟩
theorem mk_X10_pays : MKok kX10_pays 2 := ⟨wd_105, wd_119, by decide +kernel, by decide⟩
abbrev kX10_endReserve : MK := (yX10_endReserve, cX10_endReserve, 1, none)
theorem wd_120 : Cond.code yX10_endReserve cX10_endReserve 1 none ∈ TT := List.mem_filter.mpr ⟨List.mem_of_getElem? (i := 987) (by decide +kernel), by decide +kernel⟩
theorem mk_X10_endReserve : MKok kX10_endReserve 0 := ⟨wd_105, wd_120, by decide +kernel, by decide⟩
abbrev kX10_leave : MK := (yX10_leave, cX10_leave, 3, none)
theorem wd_121 : Cond.code yX10_leave cX10_leave 3 none ∈ TT := List.mem_filter.mpr ⟨List.mem_of_getElem? (i := 991) (by decide +kernel), by decide +kernel⟩
theorem mk_X10_leave : MKok kX10_leave 1 := ⟨wd_105, wd_121, by decide +kernel, by decide⟩
abbrev kX10_note : MK := (yX10_note, cX10_note, 2, none)
theorem wd_122 : Cond.code yX10_note cX10_note 2 none ∈ TT := List.mem_filter.mpr ⟨List.mem_of_getElem? (i := 1051) (by decide +kernel), by decide +kernel⟩
theorem mk_X10_note : MKok kX10_note 1 := ⟨wd_105, wd_122, by decide +kernel, by decide⟩
abbrev kX10_reckon : MK := (yX10_reckon, cX10_reckon, 5, none)
theorem wd_123 : Cond.code yX10_reckon cX10_reckon 5 none ∈ TT := List.mem_filter.mpr ⟨List.mem_of_getElem? (i := 1035) (by decide +kernel), by decide +kernel⟩
theorem mk_X10_reckon : MKok kX10_reckon 1 := ⟨wd_105, wd_123, by decide +kernel, by decide⟩
abbrev kX10_making : MK := (yX10_making, cX10_making, 4, none)
theorem wd_124 : Cond.code yX10_making cX10_making 4 none ∈ TT := List.mem_filter.mpr ⟨List.mem_of_getElem? (i := 1027) (by decide +kernel), by decide +kernel⟩
theorem mk_X10_making : MKok kX10_making 1 := ⟨wd_105, wd_124, by decide +kernel, by decide⟩
abbrev kX10_has : MK := (yX10_has, cX10_has, 4, (some .boolean))
theorem wd_125 : Cond.code yX10_has cX10_has 4 (some .boolean) ∈ TT := List.mem_filter.mpr ⟨List.mem_of_getElem? (i := 1031) (by decide +kernel), by decide +kernel⟩
theorem mk_X10_has : MKok kX10_has 2 := ⟨wd_105, wd_125, by decide +kernel, by decide⟩
abbrev kX10_simple : MK := (yX10_simple, cX10_simple, 5, none)
theorem wd_126 : Cond.code yX10_simple cX10_simple 5 none ∈ TT := List.mem_filter.mpr ⟨List.mem_of_getElem? (i := 1023) (by decide +kernel), by decide +kernel⟩
theorem mk_X10_simple : MKok kX10_simple 1 := ⟨wd_105, wd_126, by decide +kernel, by decide⟩
abbrev kX10_calls : MK := (yX10_calls, cX10_calls, 3, none)
theorem wd_127 : Cond.code yX10_calls cX10_calls 3 none ∈ TT := List.mem_filter.mpr ⟨List.mem_of_getElem? (i := 1007) (by decide +kernel), by decide +kernel⟩
theorem mk_X10_calls : MKok kX10_calls 1 := ⟨wd_105, wd_127, by decide +kernel, by decide⟩
abbrev kX10_enter : MK := (yX10_enter, cX10_enter, 2, none)
theorem wd_128 : Cond.code yX10_enter cX10_enter 2 none ∈ TT := List.mem_filter.mpr ⟨List.mem_of_getElem? (i := 1015) (by decide +kernel), by decide +kernel⟩
theorem mk_X10_enter : MKok kX10_enter 1 := ⟨wd_105, wd_128, by decide +kernel, by decide⟩
abbrev kX10_locks : MK := (yX10_locks, cX10_locks, 3, none)
theorem wd_129 : Cond.code yX10_locks cX10_locks 3 none ∈ TT := List.mem_filter.mpr ⟨List.mem_of_getElem? (i := 1019) (by decide +kernel), by decide +kernel⟩
theorem mk_X10_locks : MKok kX10_locks 1 := ⟨wd_105, wd_129, by decide +kernel, by decide⟩
abbrev kX10_begin : MK := (yX10_begin, cX10_begin, 2, none)
theorem wd_130 : Cond.code yX10_begin cX10_begin 2 none ∈ TT := List.mem_filter.mpr ⟨List.mem_of_getElem? (i := 999) (by decide +kernel), by decide +kernel⟩
theorem mk_X10_begin : MKok kX10_begin 0 := ⟨wd_105, wd_130, by decide +kernel, by decide⟩
abbrev kX10_second : MK := (yX10_second, cX10_second, 2, none)
theorem wd_131 : Cond.code yX10_second cX10_second 2 none ∈ TT := List.mem_filter.mpr ⟨List.mem_of_getElem? (i := 1043) (by decide +kernel), by decide +kernel⟩
theorem mk_X10_second : MKok kX10_second 1 := ⟨wd_105, wd_131, by decide +kernel, by decide⟩
abbrev kX10_handles : MK := (yX10_handles, cX10_handles, 3, none)
theorem wd_132 : Cond.code yX10_handles cX10_handles 3 none ∈ TT := List.mem_filter.mpr ⟨List.mem_of_getElem? (i := 1047) (by decide +kernel), by decide +kernel⟩
theorem mk_X10_handles : MKok kX10_handles 1 := ⟨wd_105, wd_132, by decide +kernel, by decide⟩
abbrev kX10_finalOf : MK := (yX10_finalOf, cX10_finalOf, 3, none)
theorem wd_133 : Cond.code yX10_finalOf cX10_finalOf 3 none ∈ TT := List.mem_filter.mpr ⟨List.mem_of_getElem? (i := 1055) (by decide +kernel), by decide +kernel⟩
theorem mk_X10_finalOf : MKok kX10_finalOf 1 := ⟨wd_105, wd_133, by decide +kernel, by decide⟩
abbrev kX10_lastDone : MK := (yX10_lastDone, cX10_lastDone, 4, none)
theorem wd_134 : Cond.code yX10_lastDone cX10_lastDone 4 none ∈ TT := List.mem_filter.mpr ⟨List.mem_of_getElem? (i := 1059) (by decide +kernel), by decide +kernel⟩
theorem mk_X10_lastDone : MKok kX10_lastDone 0 := ⟨wd_105, wd_134, by decide +kernel, by decide⟩
abbrev kX10_tell : MK := (yX10_tell, cX10_tell, 3, none)
theorem wd_135 : Cond.code yX10_tell cX10_tell 3 none ∈ TT := List.mem_filter.mpr ⟨List.mem_of_getElem? (i := 1039) (by decide +kernel), by decide +kernel⟩
theorem mk_X10_tell : MKok kX10_tell 0 := ⟨wd_105, wd_135, by decide +kernel, by decide⟩
abbrev kX10_reset : MK := (yX10_reset, cX10_reset, 4, none)
theorem wd_136 : Cond.code yX10_reset cX10_reset 4 none ∈ TT := List.mem_filter.mpr ⟨List.mem_of_getElem? (i := 979) (by decide +kernel), by decide +kernel⟩
theorem mk_X10_reset : MKok kX10_reset 2 := ⟨wd_105, wd_136, by decide +kernel, by decide⟩
abbrev kX10_isRun : MK := (yX10_isRun, cX10_isRun, 3, (some .boolean))
theorem wd_137 : Cond.code yX10_isRun cX10_isRun 3 (some .boolean) ∈ TT := List.mem_filter.mpr ⟨List.mem_of_getElem? (i := 971) (by decide +kernel), by decide +kernel⟩
theorem mk_X10_isRun : MKok kX10_isRun 2 := ⟨wd_105, wd_137, by decide +kernel, by decide⟩
abbrev kX10_runs : MK := (yX10_runs, cX10_runs, 4, (some .int))
theorem wd_138 : Cond.code yX10_runs cX10_runs 4 (some .int) ∈ TT := List.mem_filter.mpr ⟨List.mem_of_getElem? (i := 975) (by decide +kernel), by decide +kernel⟩
theorem mk_X10_runs : MKok kX10_runs 3 := ⟨wd_105, wd_138, by decide +kernel, by decide⟩
abbrev kX10_run : MK := (yX10_run, cX10_run, 4, (some .int))
theorem wd_139 : Cond.code yX10_run cX10_run 4 (some .int) ∈ TT := List.mem_filter.mpr ⟨List.mem_of_getElem? (i := 967) (by decide +kernel), by decide +kernel⟩
theorem mk_X10_run : MKok kX10_run 3 := ⟨wd_105, wd_139, by decide +kernel, by decide⟩
abbrev kX10_told : MK := (yX10_told, cX10_told, 2, (some .int))
theorem wd_140 : Cond.code yX10_told cX10_told 2 (some .int) ∈ TT := List.mem_filter.mpr ⟨List.mem_of_getElem? (i := 1063) (by decide +kernel), by decide +kernel⟩
theorem mk_X10_told : MKok kX10_told 1 := ⟨wd_105, wd_140, by decide +kernel, by decide⟩
abbrev kX10_marks : MK := (yX10_marks, cX10_marks, 2, (some .int))
theorem wd_141 : Cond.code yX10_marks cX10_marks 2 (some .int) ∈ TT := List.mem_filter.mpr ⟨List.mem_of_getElem? (i := 1067) (by decide +kernel), by decide +kernel⟩
theorem mk_X10_marks : MKok kX10_marks 1 := ⟨wd_105, wd_141, by decide +kernel, by decide⟩
abbrev kX10_began : MK := (yX10_began, cX10_began, 2, (some .int))
theorem wd_142 : Cond.code yX10_began cX10_began 2 (some .int) ∈ TT := List.mem_filter.mpr ⟨List.mem_of_getElem? (i := 1071) (by decide +kernel), by decide +kernel⟩
theorem mk_X10_began : MKok kX10_began 1 := ⟨wd_105, wd_142, by decide +kernel, by decide⟩
abbrev kX10_variable : MK := (yX10_variable, cX10_variable, 2, (some .int))
theorem wd_143 : Cond.code yX10_variable cX10_variable 2 (some .int) ∈ TT := List.mem_filter.mpr ⟨List.mem_of_getElem? (i := 1075) (by decide +kernel), by decide +kernel⟩
theorem mk_X10_variable : MKok kX10_variable 1 := ⟨wd_105, wd_143, by decide +kernel, by decide⟩
abbrev kX10_size : MK := (yX10_size, cX10_size, 2, (some .int))
theorem wd_144 : Cond.code yX10_size cX10_size 2 (some .int) ∈ TT := List.mem_filter.mpr ⟨List.mem_of_getElem? (i := 1079) (by decide +kernel), by decide +kernel⟩
theorem mk_X10_size : MKok kX10_size 1 := ⟨wd_105, wd_144, by decide +kernel, by decide⟩
abbrev kX10_item : MK := (yX10_item, cX10_item, 3, (some .int))
theorem wd_145 : Cond.code yX10_item cX10_item 3 (some .int) ∈ TT := List.mem_filter.mpr ⟨List.mem_of_getElem? (i := 1083) (by decide +kernel), by decide +kernel⟩
theorem mk_X10_item : MKok kX10_item 2 := ⟨wd_105, wd_145, by decide +kernel, by decide⟩
abbrev kX10_same : MK := (yX10_same, cX10_same, 9, (some .int))
theorem wd_146 : Cond.code yX10_same cX10_same 9 (some .int) ∈ TT := List.mem_filter.mpr ⟨List.mem_of_getElem? (i := 1091) (by decide +kernel), by decide +kernel⟩
theorem mk_X10_same : MKok kX10_same 4 := ⟨wd_105, wd_146, by decide +kernel, by decide⟩
abbrev kX10_count : MK := (yX10_count, cX10_count, 4, (some .int))
theorem wd_147 : Cond.code yX10_count cX10_count 4 (some .int) ∈ TT := List.mem_filter.mpr ⟨List.mem_of_getElem? (i := 1097) (by decide +kernel), by decide +kernel⟩
theorem mk_X10_count : MKok kX10_count 1 := ⟨wd_105, wd_147, by decide +kernel, by decide⟩
abbrev kJ9_max_7cf53 : MK := (yJ9_max_7cf53, cJ9_max_7cf53, 2, (some .int))
theorem wd_148 : Cond.initialized RJ9 ∈ TT := List.mem_filter.mpr ⟨List.mem_of_getElem? (i := 67) (by decide +kernel), by decide +kernel⟩
theorem wd_149 : Cond.code yJ9_max_7cf53 cJ9_max_7cf53 2 (some .int) ∈ TT := List.mem_filter.mpr ⟨List.mem_of_getElem? (i := 301) (by decide +kernel), by decide +kernel⟩
theorem mk_J9_max_7cf53 : MKok kJ9_max_7cf53 2 := ⟨wd_148, wd_149, by decide +kernel, by decide⟩
abbrev kJ7_fill_53178 : MK := (yJ7_fill_53178, cJ7_fill_53178, 4, none)
theorem wd_150 : Cond.initialized RJ7 ∈ TT := List.mem_filter.mpr ⟨List.mem_of_getElem? (i := 60) (by decide +kernel), by decide +kernel⟩
theorem wd_151 : Cond.code yJ7_fill_53178 cJ7_fill_53178 4 none ∈ TT := List.mem_filter.mpr ⟨List.mem_of_getElem? (i := 92) (by decide +kernel), by decide +kernel⟩
theorem mk_J7_fill_53178 : MKok kJ7_fill_53178 2 := ⟨wd_150, wd_151, by decide +kernel, by decide⟩
theorem wd_152 : Cond.fieldLink RX9 10 "MarkedRuns" "program" "LMarkedRuns$Program;" ∈ TT := List.mem_filter.mpr ⟨List.mem_of_getElem? (i := 253) (by decide +kernel), by decide +kernel⟩
theorem fl_X9_10 : FL RX9 10 6 0 := ⟨RX9, TX9, 4, rfl, by decide, in_X9, Or.inl wd_152⟩
theorem wd_153 : Cond.fieldLink RX9 16 "MarkedRuns" "runsByAnswer" "[I" ∈ TT := List.mem_filter.mpr ⟨List.mem_of_getElem? (i := 254) (by decide +kernel), by decide +kernel⟩
theorem fl_X9_16 : FL RX9 16 6 1 := ⟨RX9, TX9, 4, rfl, by decide, in_X9, Or.inl wd_153⟩
theorem wd_154 : Cond.fieldLink RX9 25 "MarkedRuns" "latest" "LMarkedRuns$Run;" ∈ TT := List.mem_filter.mpr ⟨List.mem_of_getElem? (i := 255) (by decide +kernel), by decide +kernel⟩
theorem fl_X9_25 : FL RX9 25 6 2 := ⟨RX9, TX9, 4, rfl, by decide, in_X9, Or.inl wd_154⟩
theorem fp_X9_25 : FP RX9 25 6 2 (.object "MarkedRuns$Run") := ⟨RX9, TX9, 4, tyX9, rfl, by decide, in_X9, wd_154, tyX9_ok, nmX9, rfl, by decide +kernel⟩
theorem wd_155 : Cond.fieldLink RX9 29 "MarkedRuns" "earlier" "LMarkedRuns$Run;" ∈ TT := List.mem_filter.mpr ⟨List.mem_of_getElem? (i := 256) (by decide +kernel), by decide +kernel⟩
theorem fl_X9_29 : FL RX9 29 6 3 := ⟨RX9, TX9, 4, rfl, by decide, in_X9, Or.inl wd_155⟩
theorem fp_X9_29 : FP RX9 29 6 3 (.object "MarkedRuns$Run") := ⟨RX9, TX9, 4, tyX9, rfl, by decide, in_X9, wd_155, tyX9_ok, nmX9, rfl, by decide +kernel⟩
theorem wd_156 : Cond.fieldLinkNest RX9 82 "MarkedRuns$Run" "purse" "LMarkedRuns$Purse;" "MarkedRuns" ∈ NN := List.mem_filter.mpr ⟨List.mem_of_getElem? (i := 221) (by decide +kernel), by decide +kernel⟩
theorem fl_X9_82 : FL RX9 82 5 2 := ⟨RX7, TX7, 11, rfl, by decide, in_X7, Or.inr ⟨_, wd_156⟩⟩
theorem wd_157 : Cond.fieldLinkNest RX9 94 "MarkedRuns$Run" "memory" "LMarkedRuns$Memory;" "MarkedRuns" ∈ NN := List.mem_filter.mpr ⟨List.mem_of_getElem? (i := 219) (by decide +kernel), by decide +kernel⟩
theorem fl_X9_94 : FL RX9 94 5 1 := ⟨RX7, TX7, 11, rfl, by decide, in_X7, Or.inr ⟨_, wd_157⟩⟩
theorem wd_158 : Cond.fieldLink RX0 11 "MarkedRuns$Frames" "statements" "[I" ∈ TT := List.mem_filter.mpr ⟨List.mem_of_getElem? (i := 198) (by decide +kernel), by decide +kernel⟩
theorem fl_X0_11 : FL RX0 11 0 0 := ⟨RX0, TX0, 6, rfl, by decide, in_X0, Or.inl wd_158⟩
theorem wd_159 : Cond.fieldLink RX0 15 "MarkedRuns$Frames" "stages" "[I" ∈ TT := List.mem_filter.mpr ⟨List.mem_of_getElem? (i := 199) (by decide +kernel), by decide +kernel⟩
theorem fl_X0_15 : FL RX0 15 0 1 := ⟨RX0, TX0, 6, rfl, by decide, in_X0, Or.inl wd_159⟩
theorem wd_160 : Cond.fieldLink RX0 18 "MarkedRuns$Frames" "keptEndings" "[I" ∈ TT := List.mem_filter.mpr ⟨List.mem_of_getElem? (i := 200) (by decide +kernel), by decide +kernel⟩
theorem fl_X0_18 : FL RX0 18 0 2 := ⟨RX0, TX0, 6, rfl, by decide, in_X0, Or.inl wd_160⟩
theorem wd_161 : Cond.fieldLink RX0 21 "MarkedRuns$Frames" "keptKinds" "[I" ∈ TT := List.mem_filter.mpr ⟨List.mem_of_getElem? (i := 201) (by decide +kernel), by decide +kernel⟩
theorem fl_X0_21 : FL RX0 21 0 3 := ⟨RX0, TX0, 6, rfl, by decide, in_X0, Or.inl wd_161⟩
theorem wd_162 : Cond.fieldLink RX0 24 "MarkedRuns$Frames" "keptNumbers" "[I" ∈ TT := List.mem_filter.mpr ⟨List.mem_of_getElem? (i := 202) (by decide +kernel), by decide +kernel⟩
theorem fl_X0_24 : FL RX0 24 0 4 := ⟨RX0, TX0, 6, rfl, by decide, in_X0, Or.inl wd_162⟩
theorem wd_163 : Cond.fieldLink RX0 27 "MarkedRuns$Frames" "depth" "I" ∈ TT := List.mem_filter.mpr ⟨List.mem_of_getElem? (i := 203) (by decide +kernel), by decide +kernel⟩
theorem fl_X0_27 : FL RX0 27 0 5 := ⟨RX0, TX0, 6, rfl, by decide, in_X0, Or.inl wd_163⟩
theorem fp_X0_27 : FP RX0 27 0 5 .int := ⟨RX0, TX0, 6, tyX0, rfl, by decide, in_X0, wd_163, tyX0_ok, nmX0, rfl, by decide +kernel⟩
theorem wd_164 : Cond.fieldLink RX2 9 "MarkedRuns$Locks" "held" "[I" ∈ TT := List.mem_filter.mpr ⟨List.mem_of_getElem? (i := 185) (by decide +kernel), by decide +kernel⟩
theorem fl_X2_9 : FL RX2 9 1 0 := ⟨RX2, TX2, 2, rfl, by decide, in_X2, Or.inl wd_164⟩
theorem wd_165 : Cond.fieldLink RX2 21 "MarkedRuns$Locks" "most" "I" ∈ TT := List.mem_filter.mpr ⟨List.mem_of_getElem? (i := 186) (by decide +kernel), by decide +kernel⟩
theorem fl_X2_21 : FL RX2 21 1 1 := ⟨RX2, TX2, 2, rfl, by decide, in_X2, Or.inl wd_165⟩
theorem fp_X2_21 : FP RX2 21 1 1 .int := ⟨RX2, TX2, 2, tyX2, rfl, by decide, in_X2, wd_165, tyX2_ok, nmX2, rfl, by decide +kernel⟩
theorem wd_166 : Cond.fieldLink RX4 9 "MarkedRuns$Memory" "variables" "[I" ∈ TT := List.mem_filter.mpr ⟨List.mem_of_getElem? (i := 129) (by decide +kernel), by decide +kernel⟩
theorem fl_X4_9 : FL RX4 9 2 0 := ⟨RX4, TX4, 6, rfl, by decide, in_X4, Or.inl wd_166⟩
theorem wd_167 : Cond.fieldLink RX4 15 "MarkedRuns$Memory" "starts" "[I" ∈ TT := List.mem_filter.mpr ⟨List.mem_of_getElem? (i := 130) (by decide +kernel), by decide +kernel⟩
theorem fl_X4_15 : FL RX4 15 2 1 := ⟨RX4, TX4, 6, rfl, by decide, in_X4, Or.inl wd_167⟩
theorem wd_168 : Cond.fieldLink RX4 18 "MarkedRuns$Memory" "lengths" "[I" ∈ TT := List.mem_filter.mpr ⟨List.mem_of_getElem? (i := 131) (by decide +kernel), by decide +kernel⟩
theorem fl_X4_18 : FL RX4 18 2 2 := ⟨RX4, TX4, 6, rfl, by decide, in_X4, Or.inl wd_168⟩
theorem wd_169 : Cond.fieldLink RX4 21 "MarkedRuns$Memory" "cells" "[I" ∈ TT := List.mem_filter.mpr ⟨List.mem_of_getElem? (i := 132) (by decide +kernel), by decide +kernel⟩
theorem fl_X4_21 : FL RX4 21 2 3 := ⟨RX4, TX4, 6, rfl, by decide, in_X4, Or.inl wd_169⟩
theorem wd_170 : Cond.fieldLink RX4 30 "MarkedRuns$Memory" "used" "I" ∈ TT := List.mem_filter.mpr ⟨List.mem_of_getElem? (i := 133) (by decide +kernel), by decide +kernel⟩
theorem fl_X4_30 : FL RX4 30 2 4 := ⟨RX4, TX4, 6, rfl, by decide, in_X4, Or.inl wd_170⟩
theorem fp_X4_30 : FP RX4 30 2 4 .int := ⟨RX4, TX4, 6, tyX4, rfl, by decide, in_X4, wd_170, tyX4_ok, nmX4, rfl, by decide +kernel⟩
theorem wd_171 : Cond.fieldLink RX4 34 "MarkedRuns$Memory" "result" "I" ∈ TT := List.mem_filter.mpr ⟨List.mem_of_getElem? (i := 134) (by decide +kernel), by decide +kernel⟩
theorem fl_X4_34 : FL RX4 34 2 5 := ⟨RX4, TX4, 6, rfl, by decide, in_X4, Or.inl wd_171⟩
theorem fp_X4_34 : FP RX4 34 2 5 .int := ⟨RX4, TX4, 6, tyX4, rfl, by decide, in_X4, wd_171, tyX4_ok, nmX4, rfl, by decide +kernel⟩
theorem wd_172 : Cond.fieldLink RX5 9 "MarkedRuns$Program" "sorts" "[I" ∈ TT := List.mem_filter.mpr ⟨List.mem_of_getElem? (i := 93) (by decide +kernel), by decide +kernel⟩
theorem fl_X5_9 : FL RX5 9 3 0 := ⟨RX5, TX5, 7, rfl, by decide, in_X5, Or.inl wd_172⟩
theorem wd_173 : Cond.fieldLink RX5 15 "MarkedRuns$Program" "firsts" "[I" ∈ TT := List.mem_filter.mpr ⟨List.mem_of_getElem? (i := 94) (by decide +kernel), by decide +kernel⟩
theorem fl_X5_15 : FL RX5 15 3 1 := ⟨RX5, TX5, 7, rfl, by decide, in_X5, Or.inl wd_173⟩
theorem wd_174 : Cond.fieldLink RX5 18 "MarkedRuns$Program" "seconds" "[I" ∈ TT := List.mem_filter.mpr ⟨List.mem_of_getElem? (i := 95) (by decide +kernel), by decide +kernel⟩
theorem fl_X5_18 : FL RX5 18 3 2 := ⟨RX5, TX5, 7, rfl, by decide, in_X5, Or.inl wd_174⟩
theorem wd_175 : Cond.fieldLink RX5 21 "MarkedRuns$Program" "thirds" "[I" ∈ TT := List.mem_filter.mpr ⟨List.mem_of_getElem? (i := 96) (by decide +kernel), by decide +kernel⟩
theorem fl_X5_21 : FL RX5 21 3 3 := ⟨RX5, TX5, 7, rfl, by decide, in_X5, Or.inl wd_175⟩
theorem wd_176 : Cond.fieldLink RX5 24 "MarkedRuns$Program" "heights" "[I" ∈ TT := List.mem_filter.mpr ⟨List.mem_of_getElem? (i := 97) (by decide +kernel), by decide +kernel⟩
theorem fl_X5_24 : FL RX5 24 3 4 := ⟨RX5, TX5, 7, rfl, by decide, in_X5, Or.inl wd_176⟩
theorem wd_177 : Cond.fieldLink RX5 27 "MarkedRuns$Program" "bodyByMethod" "[I" ∈ TT := List.mem_filter.mpr ⟨List.mem_of_getElem? (i := 98) (by decide +kernel), by decide +kernel⟩
theorem fl_X5_27 : FL RX5 27 3 5 := ⟨RX5, TX5, 7, rfl, by decide, in_X5, Or.inl wd_177⟩
theorem wd_178 : Cond.fieldLink RX5 36 "MarkedRuns$Program" "many" "I" ∈ TT := List.mem_filter.mpr ⟨List.mem_of_getElem? (i := 99) (by decide +kernel), by decide +kernel⟩
theorem fl_X5_36 : FL RX5 36 3 6 := ⟨RX5, TX5, 7, rfl, by decide, in_X5, Or.inl wd_178⟩
theorem fp_X5_36 : FP RX5 36 3 6 .int := ⟨RX5, TX5, 7, tyX5, rfl, by decide, in_X5, wd_178, tyX5_ok, nmX5, rfl, by decide +kernel⟩
theorem wd_179 : Cond.fieldLink RX6 11 "MarkedRuns$Purse" "countByMark" "[I" ∈ TT := List.mem_filter.mpr ⟨List.mem_of_getElem? (i := 154) (by decide +kernel), by decide +kernel⟩
theorem fl_X6_11 : FL RX6 11 4 0 := ⟨RX6, TX6, 8, rfl, by decide, in_X6, Or.inl wd_179⟩
theorem wd_180 : Cond.fieldLink RX6 17 "MarkedRuns$Purse" "begun" "[I" ∈ TT := List.mem_filter.mpr ⟨List.mem_of_getElem? (i := 155) (by decide +kernel), by decide +kernel⟩
theorem fl_X6_17 : FL RX6 17 4 1 := ⟨RX6, TX6, 8, rfl, by decide, in_X6, Or.inl wd_180⟩
theorem wd_181 : Cond.fieldLink RX6 26 "MarkedRuns$Purse" "manyBegun" "I" ∈ TT := List.mem_filter.mpr ⟨List.mem_of_getElem? (i := 156) (by decide +kernel), by decide +kernel⟩
theorem fl_X6_26 : FL RX6 26 4 2 := ⟨RX6, TX6, 8, rfl, by decide, in_X6, Or.inl wd_181⟩
theorem fp_X6_26 : FP RX6 26 4 2 .int := ⟨RX6, TX6, 8, tyX6, rfl, by decide, in_X6, wd_181, tyX6_ok, nmX6, rfl, by decide +kernel⟩
theorem wd_182 : Cond.fieldLink RX6 30 "MarkedRuns$Purse" "budget" "I" ∈ TT := List.mem_filter.mpr ⟨List.mem_of_getElem? (i := 157) (by decide +kernel), by decide +kernel⟩
theorem fl_X6_30 : FL RX6 30 4 3 := ⟨RX6, TX6, 8, rfl, by decide, in_X6, Or.inl wd_182⟩
theorem fp_X6_30 : FP RX6 30 4 3 .int := ⟨RX6, TX6, 8, tyX6, rfl, by decide, in_X6, wd_182, tyX6_ok, nmX6, rfl, by decide +kernel⟩
theorem wd_183 : Cond.fieldLink RX6 33 "MarkedRuns$Purse" "reserve" "I" ∈ TT := List.mem_filter.mpr ⟨List.mem_of_getElem? (i := 158) (by decide +kernel), by decide +kernel⟩
theorem fl_X6_33 : FL RX6 33 4 4 := ⟨RX6, TX6, 8, rfl, by decide, in_X6, Or.inl wd_183⟩
theorem fp_X6_33 : FP RX6 33 4 4 .int := ⟨RX6, TX6, 8, tyX6, rfl, by decide, in_X6, wd_183, tyX6_ok, nmX6, rfl, by decide +kernel⟩
theorem wd_184 : Cond.fieldLink RX6 36 "MarkedRuns$Purse" "spentOfBudget" "I" ∈ TT := List.mem_filter.mpr ⟨List.mem_of_getElem? (i := 159) (by decide +kernel), by decide +kernel⟩
theorem fl_X6_36 : FL RX6 36 4 5 := ⟨RX6, TX6, 8, rfl, by decide, in_X6, Or.inl wd_184⟩
theorem fp_X6_36 : FP RX6 36 4 5 .int := ⟨RX6, TX6, 8, tyX6, rfl, by decide, in_X6, wd_184, tyX6_ok, nmX6, rfl, by decide +kernel⟩
theorem wd_185 : Cond.fieldLink RX6 39 "MarkedRuns$Purse" "spentOfReserve" "I" ∈ TT := List.mem_filter.mpr ⟨List.mem_of_getElem? (i := 160) (by decide +kernel), by decide +kernel⟩
theorem fl_X6_39 : FL RX6 39 4 6 := ⟨RX6, TX6, 8, rfl, by decide, in_X6, Or.inl wd_185⟩
theorem fp_X6_39 : FP RX6 39 4 6 .int := ⟨RX6, TX6, 8, tyX6, rfl, by decide, in_X6, wd_185, tyX6_ok, nmX6, rfl, by decide +kernel⟩
theorem wd_186 : Cond.fieldLink RX6 42 "MarkedRuns$Purse" "byReserve" "Z" ∈ TT := List.mem_filter.mpr ⟨List.mem_of_getElem? (i := 161) (by decide +kernel), by decide +kernel⟩
theorem fl_X6_42 : FL RX6 42 4 7 := ⟨RX6, TX6, 8, rfl, by decide, in_X6, Or.inl wd_186⟩
theorem fp_X6_42 : FP RX6 42 4 7 .boolean := ⟨RX6, TX6, 8, tyX6, rfl, by decide, in_X6, wd_186, tyX6_ok, nmX6, rfl, by decide +kernel⟩
theorem wd_187 : Cond.fieldLink RX7 12 "MarkedRuns$Run" "memory" "LMarkedRuns$Memory;" ∈ TT := List.mem_filter.mpr ⟨List.mem_of_getElem? (i := 218) (by decide +kernel), by decide +kernel⟩
theorem fl_X7_12 : FL RX7 12 5 1 := ⟨RX7, TX7, 11, rfl, by decide, in_X7, Or.inl wd_187⟩
theorem wd_188 : Cond.fieldLink RX7 21 "MarkedRuns$Run" "purse" "LMarkedRuns$Purse;" ∈ TT := List.mem_filter.mpr ⟨List.mem_of_getElem? (i := 220) (by decide +kernel), by decide +kernel⟩
theorem fl_X7_21 : FL RX7 21 5 2 := ⟨RX7, TX7, 11, rfl, by decide, in_X7, Or.inl wd_188⟩
theorem wd_189 : Cond.fieldLink RX7 28 "MarkedRuns$Run" "locks" "LMarkedRuns$Locks;" ∈ TT := List.mem_filter.mpr ⟨List.mem_of_getElem? (i := 222) (by decide +kernel), by decide +kernel⟩
theorem fl_X7_28 : FL RX7 28 5 3 := ⟨RX7, TX7, 11, rfl, by decide, in_X7, Or.inl wd_189⟩
theorem wd_190 : Cond.fieldLink RX7 35 "MarkedRuns$Run" "frames" "LMarkedRuns$Frames;" ∈ TT := List.mem_filter.mpr ⟨List.mem_of_getElem? (i := 223) (by decide +kernel), by decide +kernel⟩
theorem fl_X7_35 : FL RX7 35 5 4 := ⟨RX7, TX7, 11, rfl, by decide, in_X7, Or.inl wd_190⟩
theorem wd_191 : Cond.fieldLink RX7 39 "MarkedRuns$Run" "answer" "I" ∈ TT := List.mem_filter.mpr ⟨List.mem_of_getElem? (i := 224) (by decide +kernel), by decide +kernel⟩
theorem fl_X7_39 : FL RX7 39 5 5 := ⟨RX7, TX7, 11, rfl, by decide, in_X7, Or.inl wd_191⟩
theorem fp_X7_39 : FP RX7 39 5 5 .int := ⟨RX7, TX7, 11, tyX7, rfl, by decide, in_X7, wd_191, tyX7_ok, nmX7, rfl, by decide +kernel⟩
theorem wd_192 : Cond.fieldLink RX7 43 "MarkedRuns$Run" "program" "LMarkedRuns$Program;" ∈ TT := List.mem_filter.mpr ⟨List.mem_of_getElem? (i := 217) (by decide +kernel), by decide +kernel⟩
theorem fl_X7_43 : FL RX7 43 5 0 := ⟨RX7, TX7, 11, rfl, by decide, in_X7, Or.inl wd_192⟩
theorem wd_193 : Cond.fieldLink RX7 61 "MarkedRuns$Run" "ending" "I" ∈ TT := List.mem_filter.mpr ⟨List.mem_of_getElem? (i := 227) (by decide +kernel), by decide +kernel⟩
theorem fl_X7_61 : FL RX7 61 5 8 := ⟨RX7, TX7, 11, rfl, by decide, in_X7, Or.inl wd_193⟩
theorem fp_X7_61 : FP RX7 61 5 8 .int := ⟨RX7, TX7, 11, tyX7, rfl, by decide, in_X7, wd_193, tyX7_ok, nmX7, rfl, by decide +kernel⟩
theorem wd_194 : Cond.fieldLink RX7 82 "MarkedRuns$Run" "kind" "I" ∈ TT := List.mem_filter.mpr ⟨List.mem_of_getElem? (i := 228) (by decide +kernel), by decide +kernel⟩
theorem fl_X7_82 : FL RX7 82 5 9 := ⟨RX7, TX7, 11, rfl, by decide, in_X7, Or.inl wd_194⟩
theorem fp_X7_82 : FP RX7 82 5 9 .int := ⟨RX7, TX7, 11, tyX7, rfl, by decide, in_X7, wd_194, tyX7_ok, nmX7, rfl, by decide +kernel⟩
theorem wd_195 : Cond.fieldLink RX7 85 "MarkedRuns$Run" "number" "I" ∈ TT := List.mem_filter.mpr ⟨List.mem_of_getElem? (i := 229) (by decide +kernel), by decide +kernel⟩
theorem fl_X7_85 : FL RX7 85 5 10 := ⟨RX7, TX7, 11, rfl, by decide, in_X7, Or.inl wd_195⟩
theorem fp_X7_85 : FP RX7 85 5 10 .int := ⟨RX7, TX7, 11, tyX7, rfl, by decide, in_X7, wd_195, tyX7_ok, nmX7, rfl, by decide +kernel⟩
theorem wd_196 : Cond.fieldLink RX7 97 "MarkedRuns$Run" "mostMethods" "I" ∈ TT := List.mem_filter.mpr ⟨List.mem_of_getElem? (i := 226) (by decide +kernel), by decide +kernel⟩
theorem fl_X7_97 : FL RX7 97 5 7 := ⟨RX7, TX7, 11, rfl, by decide, in_X7, Or.inl wd_196⟩
theorem fp_X7_97 : FP RX7 97 5 7 .int := ⟨RX7, TX7, 11, tyX7, rfl, by decide, in_X7, wd_196, tyX7_ok, nmX7, rfl, by decide +kernel⟩
theorem wd_197 : Cond.fieldLink RX7 124 "MarkedRuns$Run" "methods" "I" ∈ TT := List.mem_filter.mpr ⟨List.mem_of_getElem? (i := 225) (by decide +kernel), by decide +kernel⟩
theorem fl_X7_124 : FL RX7 124 5 6 := ⟨RX7, TX7, 11, rfl, by decide, in_X7, Or.inl wd_197⟩
theorem fp_X7_124 : FP RX7 124 5 6 .int := ⟨RX7, TX7, 11, tyX7, rfl, by decide, in_X7, wd_197, tyX7_ok, nmX7, rfl, by decide +kernel⟩
theorem wd_198 : Cond.fieldLink RX10 1 "MarkedRunsModel" "thrown" "I" ∈ TT := List.mem_filter.mpr ⟨List.mem_of_getElem? (i := 809) (by decide +kernel), by decide +kernel⟩
theorem fl_X10_1 : FL RX10 1 7 0 := ⟨RX10, TX10, 41, rfl, by decide, in_X10, Or.inl wd_198⟩
theorem fp_X10_1 : FP RX10 1 7 0 .int := ⟨RX10, TX10, 41, tyX10, rfl, by decide, in_X10, wd_198, tyX10_ok, nmX10, rfl, by decide +kernel⟩
theorem wd_199 : Cond.fieldLink RX10 13 "MarkedRunsModel" "sort" "[I" ∈ TT := List.mem_filter.mpr ⟨List.mem_of_getElem? (i := 811) (by decide +kernel), by decide +kernel⟩
theorem fl_X10_13 : FL RX10 13 7 2 := ⟨RX10, TX10, 41, rfl, by decide, in_X10, Or.inl wd_199⟩
theorem wd_200 : Cond.fieldLink RX10 17 "MarkedRunsModel" "partA" "[I" ∈ TT := List.mem_filter.mpr ⟨List.mem_of_getElem? (i := 812) (by decide +kernel), by decide +kernel⟩
theorem fl_X10_17 : FL RX10 17 7 3 := ⟨RX10, TX10, 41, rfl, by decide, in_X10, Or.inl wd_200⟩
theorem wd_201 : Cond.fieldLink RX10 20 "MarkedRunsModel" "partB" "[I" ∈ TT := List.mem_filter.mpr ⟨List.mem_of_getElem? (i := 813) (by decide +kernel), by decide +kernel⟩
theorem fl_X10_20 : FL RX10 20 7 4 := ⟨RX10, TX10, 41, rfl, by decide, in_X10, Or.inl wd_201⟩
theorem wd_202 : Cond.fieldLink RX10 23 "MarkedRunsModel" "partC" "[I" ∈ TT := List.mem_filter.mpr ⟨List.mem_of_getElem? (i := 814) (by decide +kernel), by decide +kernel⟩
theorem fl_X10_23 : FL RX10 23 7 5 := ⟨RX10, TX10, 41, rfl, by decide, in_X10, Or.inl wd_202⟩
theorem wd_203 : Cond.fieldLink RX10 26 "MarkedRunsModel" "height" "[I" ∈ TT := List.mem_filter.mpr ⟨List.mem_of_getElem? (i := 815) (by decide +kernel), by decide +kernel⟩
theorem fl_X10_26 : FL RX10 26 7 6 := ⟨RX10, TX10, 41, rfl, by decide, in_X10, Or.inl wd_203⟩
theorem wd_204 : Cond.fieldLink RX10 29 "MarkedRunsModel" "bodies" "[I" ∈ TT := List.mem_filter.mpr ⟨List.mem_of_getElem? (i := 816) (by decide +kernel), by decide +kernel⟩
theorem fl_X10_29 : FL RX10 29 7 7 := ⟨RX10, TX10, 41, rfl, by decide, in_X10, Or.inl wd_204⟩
theorem wd_205 : Cond.fieldLink RX10 32 "MarkedRunsModel" "variable" "[I" ∈ TT := List.mem_filter.mpr ⟨List.mem_of_getElem? (i := 817) (by decide +kernel), by decide +kernel⟩
theorem fl_X10_32 : FL RX10 32 7 8 := ⟨RX10, TX10, 41, rfl, by decide, in_X10, Or.inl wd_205⟩
theorem wd_206 : Cond.fieldLink RX10 35 "MarkedRunsModel" "row" "[I" ∈ TT := List.mem_filter.mpr ⟨List.mem_of_getElem? (i := 818) (by decide +kernel), by decide +kernel⟩
theorem fl_X10_35 : FL RX10 35 7 9 := ⟨RX10, TX10, 41, rfl, by decide, in_X10, Or.inl wd_206⟩
theorem wd_207 : Cond.fieldLink RX10 38 "MarkedRunsModel" "lock" "[I" ∈ TT := List.mem_filter.mpr ⟨List.mem_of_getElem? (i := 819) (by decide +kernel), by decide +kernel⟩
theorem fl_X10_38 : FL RX10 38 7 10 := ⟨RX10, TX10, 41, rfl, by decide, in_X10, Or.inl wd_207⟩
theorem wd_208 : Cond.fieldLink RX10 41 "MarkedRunsModel" "rowMany" "[I" ∈ TT := List.mem_filter.mpr ⟨List.mem_of_getElem? (i := 821) (by decide +kernel), by decide +kernel⟩
theorem fl_X10_41 : FL RX10 41 7 12 := ⟨RX10, TX10, 41, rfl, by decide, in_X10, Or.inl wd_208⟩
theorem wd_209 : Cond.fieldLink RX10 44 "MarkedRunsModel" "rowAt" "[I" ∈ TT := List.mem_filter.mpr ⟨List.mem_of_getElem? (i := 822) (by decide +kernel), by decide +kernel⟩
theorem fl_X10_44 : FL RX10 44 7 13 := ⟨RX10, TX10, 41, rfl, by decide, in_X10, Or.inl wd_209⟩
theorem wd_210 : Cond.fieldLink RX10 47 "MarkedRunsModel" "cell" "[I" ∈ TT := List.mem_filter.mpr ⟨List.mem_of_getElem? (i := 824) (by decide +kernel), by decide +kernel⟩
theorem fl_X10_47 : FL RX10 47 7 15 := ⟨RX10, TX10, 41, rfl, by decide, in_X10, Or.inl wd_210⟩
theorem wd_211 : Cond.fieldLink RX10 50 "MarkedRunsModel" "marked" "[I" ∈ TT := List.mem_filter.mpr ⟨List.mem_of_getElem? (i := 829) (by decide +kernel), by decide +kernel⟩
theorem fl_X10_50 : FL RX10 50 7 20 := ⟨RX10, TX10, 41, rfl, by decide, in_X10, Or.inl wd_211⟩
theorem wd_212 : Cond.fieldLink RX10 53 "MarkedRunsModel" "log" "[I" ∈ TT := List.mem_filter.mpr ⟨List.mem_of_getElem? (i := 831) (by decide +kernel), by decide +kernel⟩
theorem fl_X10_53 : FL RX10 53 7 22 := ⟨RX10, TX10, 41, rfl, by decide, in_X10, Or.inl wd_212⟩
theorem wd_213 : Cond.fieldLink RX10 56 "MarkedRunsModel" "answer" "I" ∈ TT := List.mem_filter.mpr ⟨List.mem_of_getElem? (i := 835) (by decide +kernel), by decide +kernel⟩
theorem fl_X10_56 : FL RX10 56 7 26 := ⟨RX10, TX10, 41, rfl, by decide, in_X10, Or.inl wd_213⟩
theorem fp_X10_56 : FP RX10 56 7 26 .int := ⟨RX10, TX10, 41, tyX10, rfl, by decide, in_X10, wd_213, tyX10_ok, nmX10, rfl, by decide +kernel⟩
theorem wd_214 : Cond.fieldLink RX10 59 "MarkedRunsModel" "runs" "[I" ∈ TT := List.mem_filter.mpr ⟨List.mem_of_getElem? (i := 838) (by decide +kernel), by decide +kernel⟩
theorem fl_X10_59 : FL RX10 59 7 29 := ⟨RX10, TX10, 41, rfl, by decide, in_X10, Or.inl wd_214⟩
theorem wd_215 : Cond.fieldLink RX10 62 "MarkedRunsModel" "frame" "[I" ∈ TT := List.mem_filter.mpr ⟨List.mem_of_getElem? (i := 840) (by decide +kernel), by decide +kernel⟩
theorem fl_X10_62 : FL RX10 62 7 31 := ⟨RX10, TX10, 41, rfl, by decide, in_X10, Or.inl wd_215⟩
theorem wd_216 : Cond.fieldLink RX10 65 "MarkedRunsModel" "phase" "[I" ∈ TT := List.mem_filter.mpr ⟨List.mem_of_getElem? (i := 841) (by decide +kernel), by decide +kernel⟩
theorem fl_X10_65 : FL RX10 65 7 32 := ⟨RX10, TX10, 41, rfl, by decide, in_X10, Or.inl wd_216⟩
theorem wd_217 : Cond.fieldLink RX10 68 "MarkedRunsModel" "wasState" "[I" ∈ TT := List.mem_filter.mpr ⟨List.mem_of_getElem? (i := 842) (by decide +kernel), by decide +kernel⟩
theorem fl_X10_68 : FL RX10 68 7 33 := ⟨RX10, TX10, 41, rfl, by decide, in_X10, Or.inl wd_217⟩
theorem wd_218 : Cond.fieldLink RX10 71 "MarkedRunsModel" "wasKind" "[I" ∈ TT := List.mem_filter.mpr ⟨List.mem_of_getElem? (i := 843) (by decide +kernel), by decide +kernel⟩
theorem fl_X10_71 : FL RX10 71 7 34 := ⟨RX10, TX10, 41, rfl, by decide, in_X10, Or.inl wd_218⟩
theorem wd_219 : Cond.fieldLink RX10 74 "MarkedRunsModel" "wasNumber" "[I" ∈ TT := List.mem_filter.mpr ⟨List.mem_of_getElem? (i := 844) (by decide +kernel), by decide +kernel⟩
theorem fl_X10_74 : FL RX10 74 7 35 := ⟨RX10, TX10, 41, rfl, by decide, in_X10, Or.inl wd_219⟩
theorem wd_220 : Cond.fieldLink RX10 77 "MarkedRunsModel" "first" "[I" ∈ TT := List.mem_filter.mpr ⟨List.mem_of_getElem? (i := 848) (by decide +kernel), by decide +kernel⟩
theorem fl_X10_77 : FL RX10 77 7 39 := ⟨RX10, TX10, 41, rfl, by decide, in_X10, Or.inl wd_220⟩
theorem wd_221 : Cond.fieldLink RX10 80 "MarkedRunsModel" "firstCell" "[I" ∈ TT := List.mem_filter.mpr ⟨List.mem_of_getElem? (i := 849) (by decide +kernel), by decide +kernel⟩
theorem fl_X10_80 : FL RX10 80 7 40 := ⟨RX10, TX10, 41, rfl, by decide, in_X10, Or.inl wd_221⟩
theorem wd_222 : Cond.fieldLink RX10 83 "MarkedRunsModel" "many" "I" ∈ TT := List.mem_filter.mpr ⟨List.mem_of_getElem? (i := 810) (by decide +kernel), by decide +kernel⟩
theorem fl_X10_83 : FL RX10 83 7 1 := ⟨RX10, TX10, 41, rfl, by decide, in_X10, Or.inl wd_222⟩
theorem fp_X10_83 : FP RX10 83 7 1 .int := ⟨RX10, TX10, 41, tyX10, rfl, by decide, in_X10, wd_222, tyX10_ok, nmX10, rfl, by decide +kernel⟩
theorem wd_223 : Cond.fieldLink RX10 106 "MarkedRunsModel" "high" "I" ∈ TT := List.mem_filter.mpr ⟨List.mem_of_getElem? (i := 839) (by decide +kernel), by decide +kernel⟩
theorem fl_X10_106 : FL RX10 106 7 30 := ⟨RX10, TX10, 41, rfl, by decide, in_X10, Or.inl wd_223⟩
theorem fp_X10_106 : FP RX10 106 7 30 .int := ⟨RX10, TX10, 41, tyX10, rfl, by decide, in_X10, wd_223, tyX10_ok, nmX10, rfl, by decide +kernel⟩
theorem wd_224 : Cond.fieldLink RX10 109 "MarkedRunsModel" "state" "I" ∈ TT := List.mem_filter.mpr ⟨List.mem_of_getElem? (i := 846) (by decide +kernel), by decide +kernel⟩
theorem fl_X10_109 : FL RX10 109 7 37 := ⟨RX10, TX10, 41, rfl, by decide, in_X10, Or.inl wd_224⟩
theorem fp_X10_109 : FP RX10 109 7 37 .int := ⟨RX10, TX10, 41, tyX10, rfl, by decide, in_X10, wd_224, tyX10_ok, nmX10, rfl, by decide +kernel⟩
theorem wd_225 : Cond.fieldLink RX10 112 "MarkedRunsModel" "kind" "I" ∈ TT := List.mem_filter.mpr ⟨List.mem_of_getElem? (i := 836) (by decide +kernel), by decide +kernel⟩
theorem fl_X10_112 : FL RX10 112 7 27 := ⟨RX10, TX10, 41, rfl, by decide, in_X10, Or.inl wd_225⟩
theorem fp_X10_112 : FP RX10 112 7 27 .int := ⟨RX10, TX10, 41, tyX10, rfl, by decide, in_X10, wd_225, tyX10_ok, nmX10, rfl, by decide +kernel⟩
theorem wd_226 : Cond.fieldLink RX10 115 "MarkedRunsModel" "number" "I" ∈ TT := List.mem_filter.mpr ⟨List.mem_of_getElem? (i := 837) (by decide +kernel), by decide +kernel⟩
theorem fl_X10_115 : FL RX10 115 7 28 := ⟨RX10, TX10, 41, rfl, by decide, in_X10, Or.inl wd_226⟩
theorem fp_X10_115 : FP RX10 115 7 28 .int := ⟨RX10, TX10, 41, tyX10, rfl, by decide, in_X10, wd_226, tyX10_ok, nmX10, rfl, by decide +kernel⟩
theorem wd_227 : Cond.fieldLink RX10 122 "MarkedRunsModel" "reserved" "I" ∈ TT := List.mem_filter.mpr ⟨List.mem_of_getElem? (i := 847) (by decide +kernel), by decide +kernel⟩
theorem fl_X10_122 : FL RX10 122 7 38 := ⟨RX10, TX10, 41, rfl, by decide, in_X10, Or.inl wd_227⟩
theorem fp_X10_122 : FP RX10 122 7 38 .int := ⟨RX10, TX10, 41, tyX10, rfl, by decide, in_X10, wd_227, tyX10_ok, nmX10, rfl, by decide +kernel⟩
theorem wd_228 : Cond.fieldLink RX10 125 "MarkedRunsModel" "budget" "I" ∈ TT := List.mem_filter.mpr ⟨List.mem_of_getElem? (i := 825) (by decide +kernel), by decide +kernel⟩
theorem fl_X10_125 : FL RX10 125 7 16 := ⟨RX10, TX10, 41, rfl, by decide, in_X10, Or.inl wd_228⟩
theorem fp_X10_125 : FP RX10 125 7 16 .int := ⟨RX10, TX10, 41, tyX10, rfl, by decide, in_X10, wd_228, tyX10_ok, nmX10, rfl, by decide +kernel⟩
theorem wd_229 : Cond.fieldLink RX10 128 "MarkedRunsModel" "reserve" "I" ∈ TT := List.mem_filter.mpr ⟨List.mem_of_getElem? (i := 826) (by decide +kernel), by decide +kernel⟩
theorem fl_X10_128 : FL RX10 128 7 17 := ⟨RX10, TX10, 41, rfl, by decide, in_X10, Or.inl wd_229⟩
theorem fp_X10_128 : FP RX10 128 7 17 .int := ⟨RX10, TX10, 41, tyX10, rfl, by decide, in_X10, wd_229, tyX10_ok, nmX10, rfl, by decide +kernel⟩
theorem wd_230 : Cond.fieldLink RX10 134 "MarkedRunsModel" "paid" "I" ∈ TT := List.mem_filter.mpr ⟨List.mem_of_getElem? (i := 827) (by decide +kernel), by decide +kernel⟩
theorem fl_X10_134 : FL RX10 134 7 18 := ⟨RX10, TX10, 41, rfl, by decide, in_X10, Or.inl wd_230⟩
theorem fp_X10_134 : FP RX10 134 7 18 .int := ⟨RX10, TX10, 41, tyX10, rfl, by decide, in_X10, wd_230, tyX10_ok, nmX10, rfl, by decide +kernel⟩
theorem wd_231 : Cond.fieldLink RX10 137 "MarkedRunsModel" "paidReserve" "I" ∈ TT := List.mem_filter.mpr ⟨List.mem_of_getElem? (i := 828) (by decide +kernel), by decide +kernel⟩
theorem fl_X10_137 : FL RX10 137 7 19 := ⟨RX10, TX10, 41, rfl, by decide, in_X10, Or.inl wd_231⟩
theorem fp_X10_137 : FP RX10 137 7 19 .int := ⟨RX10, TX10, 41, tyX10, rfl, by decide, in_X10, wd_231, tyX10_ok, nmX10, rfl, by decide +kernel⟩
theorem wd_232 : Cond.fieldLink RX10 143 "MarkedRunsModel" "methods" "I" ∈ TT := List.mem_filter.mpr ⟨List.mem_of_getElem? (i := 845) (by decide +kernel), by decide +kernel⟩
theorem fl_X10_143 : FL RX10 143 7 36 := ⟨RX10, TX10, 41, rfl, by decide, in_X10, Or.inl wd_232⟩
theorem fp_X10_143 : FP RX10 143 7 36 .int := ⟨RX10, TX10, 41, tyX10, rfl, by decide, in_X10, wd_232, tyX10_ok, nmX10, rfl, by decide +kernel⟩
theorem wd_233 : Cond.fieldLink RX10 146 "MarkedRunsModel" "logged" "I" ∈ TT := List.mem_filter.mpr ⟨List.mem_of_getElem? (i := 830) (by decide +kernel), by decide +kernel⟩
theorem fl_X10_146 : FL RX10 146 7 21 := ⟨RX10, TX10, 41, rfl, by decide, in_X10, Or.inl wd_233⟩
theorem fp_X10_146 : FP RX10 146 7 21 .int := ⟨RX10, TX10, 41, tyX10, rfl, by decide, in_X10, wd_233, tyX10_ok, nmX10, rfl, by decide +kernel⟩
theorem wd_234 : Cond.fieldLink RX10 156 "MarkedRunsModel" "rows" "I" ∈ TT := List.mem_filter.mpr ⟨List.mem_of_getElem? (i := 820) (by decide +kernel), by decide +kernel⟩
theorem fl_X10_156 : FL RX10 156 7 11 := ⟨RX10, TX10, 41, rfl, by decide, in_X10, Or.inl wd_234⟩
theorem fp_X10_156 : FP RX10 156 7 11 .int := ⟨RX10, TX10, 41, tyX10, rfl, by decide, in_X10, wd_234, tyX10_ok, nmX10, rfl, by decide +kernel⟩
theorem wd_235 : Cond.fieldLink RX10 159 "MarkedRunsModel" "cells" "I" ∈ TT := List.mem_filter.mpr ⟨List.mem_of_getElem? (i := 823) (by decide +kernel), by decide +kernel⟩
theorem fl_X10_159 : FL RX10 159 7 14 := ⟨RX10, TX10, 41, rfl, by decide, in_X10, Or.inl wd_235⟩
theorem fp_X10_159 : FP RX10 159 7 14 .int := ⟨RX10, TX10, 41, tyX10, rfl, by decide, in_X10, wd_235, tyX10_ok, nmX10, rfl, by decide +kernel⟩
theorem wd_236 : Cond.fieldLink RX10 168 "MarkedRunsModel" "result" "I" ∈ TT := List.mem_filter.mpr ⟨List.mem_of_getElem? (i := 832) (by decide +kernel), by decide +kernel⟩
theorem fl_X10_168 : FL RX10 168 7 23 := ⟨RX10, TX10, 41, rfl, by decide, in_X10, Or.inl wd_236⟩
theorem fp_X10_168 : FP RX10 168 7 23 .int := ⟨RX10, TX10, 41, tyX10, rfl, by decide, in_X10, wd_236, tyX10_ok, nmX10, rfl, by decide +kernel⟩
theorem wd_237 : Cond.fieldLink RX10 177 "MarkedRunsModel" "mostMethods" "I" ∈ TT := List.mem_filter.mpr ⟨List.mem_of_getElem? (i := 833) (by decide +kernel), by decide +kernel⟩
theorem fl_X10_177 : FL RX10 177 7 24 := ⟨RX10, TX10, 41, rfl, by decide, in_X10, Or.inl wd_237⟩
theorem fp_X10_177 : FP RX10 177 7 24 .int := ⟨RX10, TX10, 41, tyX10, rfl, by decide, in_X10, wd_237, tyX10_ok, nmX10, rfl, by decide +kernel⟩
theorem wd_238 : Cond.fieldLink RX10 183 "MarkedRunsModel" "mostLocks" "I" ∈ TT := List.mem_filter.mpr ⟨List.mem_of_getElem? (i := 834) (by decide +kernel), by decide +kernel⟩
theorem fl_X10_183 : FL RX10 183 7 25 := ⟨RX10, TX10, 41, rfl, by decide, in_X10, Or.inl wd_238⟩
theorem fp_X10_183 : FP RX10 183 7 25 .int := ⟨RX10, TX10, 41, tyX10, rfl, by decide, in_X10, wd_238, tyX10_ok, nmX10, rfl, by decide +kernel⟩
theorem wd_239 : Cond.methodLink RX9 32 yX5_takes ∈ TT := List.mem_filter.mpr ⟨List.mem_of_getElem? (i := 270) (by decide +kernel), by decide +kernel⟩
theorem wd_240 : Cond.instanceMethod yX5_takes ∈ TT := List.mem_filter.mpr ⟨List.mem_of_getElem? (i := 271) (by decide +kernel), by decide +kernel⟩
theorem wd_241 : Cond.selects RX5 yX5_takes yX5_takes ∈ TT := List.mem_filter.mpr ⟨List.mem_of_getElem? (i := 272) (by decide +kernel), by decide +kernel⟩
theorem cl_X9_32 : CVok RX9 32 kX5_takes := ⟨wd_239, wd_240, wd_241⟩
theorem wd_242 : Cond.methodLink RX9 36 yX5_isFull ∈ TT := List.mem_filter.mpr ⟨List.mem_of_getElem? (i := 302) (by decide +kernel), by decide +kernel⟩
theorem wd_243 : Cond.instanceMethod yX5_isFull ∈ TT := List.mem_filter.mpr ⟨List.mem_of_getElem? (i := 303) (by decide +kernel), by decide +kernel⟩
theorem wd_244 : Cond.selects RX5 yX5_isFull yX5_isFull ∈ TT := List.mem_filter.mpr ⟨List.mem_of_getElem? (i := 304) (by decide +kernel), by decide +kernel⟩
theorem cl_X9_36 : CVok RX9 36 kX5_isFull := ⟨wd_242, wd_243, wd_244⟩
theorem wd_245 : Cond.methodLink RX9 40 yX5_add ∈ TT := List.mem_filter.mpr ⟨List.mem_of_getElem? (i := 306) (by decide +kernel), by decide +kernel⟩
theorem wd_246 : Cond.instanceMethod yX5_add ∈ TT := List.mem_filter.mpr ⟨List.mem_of_getElem? (i := 307) (by decide +kernel), by decide +kernel⟩
theorem wd_247 : Cond.selects RX5 yX5_add yX5_add ∈ TT := List.mem_filter.mpr ⟨List.mem_of_getElem? (i := 308) (by decide +kernel), by decide +kernel⟩
theorem cl_X9_40 : CVok RX9 40 kX5_add := ⟨wd_245, wd_246, wd_247⟩
theorem wd_248 : Cond.methodLink RX9 44 yX5_canLoseLast ∈ TT := List.mem_filter.mpr ⟨List.mem_of_getElem? (i := 315) (by decide +kernel), by decide +kernel⟩
theorem wd_249 : Cond.instanceMethod yX5_canLoseLast ∈ TT := List.mem_filter.mpr ⟨List.mem_of_getElem? (i := 316) (by decide +kernel), by decide +kernel⟩
theorem wd_250 : Cond.selects RX5 yX5_canLoseLast yX5_canLoseLast ∈ TT := List.mem_filter.mpr ⟨List.mem_of_getElem? (i := 317) (by decide +kernel), by decide +kernel⟩
theorem cl_X9_44 : CVok RX9 44 kX5_canLoseLast := ⟨wd_248, wd_249, wd_250⟩
theorem wd_251 : Cond.methodLink RX9 47 yX5_loseLast ∈ TT := List.mem_filter.mpr ⟨List.mem_of_getElem? (i := 319) (by decide +kernel), by decide +kernel⟩
theorem wd_252 : Cond.instanceMethod yX5_loseLast ∈ TT := List.mem_filter.mpr ⟨List.mem_of_getElem? (i := 320) (by decide +kernel), by decide +kernel⟩
theorem wd_253 : Cond.selects RX5 yX5_loseLast yX5_loseLast ∈ TT := List.mem_filter.mpr ⟨List.mem_of_getElem? (i := 321) (by decide +kernel), by decide +kernel⟩
theorem cl_X9_47 : CVok RX9 47 kX5_loseLast := ⟨wd_251, wd_252, wd_253⟩
theorem wd_254 : Cond.methodLink RX9 51 yX5_has ∈ TT := List.mem_filter.mpr ⟨List.mem_of_getElem? (i := 327) (by decide +kernel), by decide +kernel⟩
theorem wd_255 : Cond.instanceMethod yX5_has ∈ TT := List.mem_filter.mpr ⟨List.mem_of_getElem? (i := 288) (by decide +kernel), by decide +kernel⟩
theorem wd_256 : Cond.selects RX5 yX5_has yX5_has ∈ TT := List.mem_filter.mpr ⟨List.mem_of_getElem? (i := 289) (by decide +kernel), by decide +kernel⟩
theorem cl_X9_51 : CVok RX9 51 kX5_has := ⟨wd_254, wd_255, wd_256⟩
theorem wd_257 : Cond.methodLink RX9 55 yX9_isBelow ∈ TT := List.mem_filter.mpr ⟨List.mem_of_getElem? (i := 328) (by decide +kernel), by decide +kernel⟩
theorem wd_258 : Cond.static yX9_isBelow ∈ TT := List.mem_filter.mpr ⟨List.mem_of_getElem? (i := 282) (by decide +kernel), by decide +kernel⟩
theorem cl_X9_55 : CSok RX9 55 kX9_isBelow := ⟨Or.inl wd_257, wd_258⟩
theorem wd_259 : Cond.methodLink RX9 59 yX5_setBody ∈ TT := List.mem_filter.mpr ⟨List.mem_of_getElem? (i := 329) (by decide +kernel), by decide +kernel⟩
theorem wd_260 : Cond.instanceMethod yX5_setBody ∈ TT := List.mem_filter.mpr ⟨List.mem_of_getElem? (i := 330) (by decide +kernel), by decide +kernel⟩
theorem wd_261 : Cond.selects RX5 yX5_setBody yX5_setBody ∈ TT := List.mem_filter.mpr ⟨List.mem_of_getElem? (i := 331) (by decide +kernel), by decide +kernel⟩
theorem cl_X9_59 : CVok RX9 59 kX5_setBody := ⟨wd_259, wd_260, wd_261⟩
theorem wd_262 : Cond.methodLink RX9 63 yX5_bodyOf ∈ TT := List.mem_filter.mpr ⟨List.mem_of_getElem? (i := 337) (by decide +kernel), by decide +kernel⟩
theorem wd_263 : Cond.instanceMethod yX5_bodyOf ∈ TT := List.mem_filter.mpr ⟨List.mem_of_getElem? (i := 338) (by decide +kernel), by decide +kernel⟩
theorem wd_264 : Cond.selects RX5 yX5_bodyOf yX5_bodyOf ∈ TT := List.mem_filter.mpr ⟨List.mem_of_getElem? (i := 339) (by decide +kernel), by decide +kernel⟩
theorem cl_X9_63 : CVok RX9 63 kX5_bodyOf := ⟨wd_262, wd_263, wd_264⟩
theorem wd_265 : Cond.methodLink RX9 67 yX9_isBudget ∈ TT := List.mem_filter.mpr ⟨List.mem_of_getElem? (i := 341) (by decide +kernel), by decide +kernel⟩
theorem wd_266 : Cond.static yX9_isBudget ∈ TT := List.mem_filter.mpr ⟨List.mem_of_getElem? (i := 342) (by decide +kernel), by decide +kernel⟩
theorem cl_X9_67 : CSok RX9 67 kX9_isBudget := ⟨Or.inl wd_265, wd_266⟩
theorem wd_267 : Cond.methodLink RX9 70 yX7_perform ∈ TT := List.mem_filter.mpr ⟨List.mem_of_getElem? (i := 344) (by decide +kernel), by decide +kernel⟩
theorem wd_268 : Cond.instanceMethod yX7_perform ∈ TT := List.mem_filter.mpr ⟨List.mem_of_getElem? (i := 345) (by decide +kernel), by decide +kernel⟩
theorem wd_269 : Cond.selects RX7 yX7_perform yX7_perform ∈ TT := List.mem_filter.mpr ⟨List.mem_of_getElem? (i := 346) (by decide +kernel), by decide +kernel⟩
theorem cl_X9_70 : CVok RX9 70 kX7_perform := ⟨wd_267, wd_268, wd_269⟩
theorem wd_270 : Cond.methodLink RX9 74 yX9_counted ∈ TT := List.mem_filter.mpr ⟨List.mem_of_getElem? (i := 586) (by decide +kernel), by decide +kernel⟩
theorem wd_271 : Cond.instanceMethod yX9_counted ∈ TT := List.mem_filter.mpr ⟨List.mem_of_getElem? (i := 588) (by decide +kernel), by decide +kernel⟩
theorem wd_272 : Cond.selects RX9 yX9_counted yX9_counted ∈ TT := List.mem_filter.mpr ⟨List.mem_of_getElem? (i := 25) (by decide +kernel), by decide +kernel⟩
theorem cl_X9_74 : CVok RX9 74 kX9_counted := ⟨wd_270, wd_271, wd_272⟩
theorem wd_273 : Cond.methodLink RX9 77 yX7_tell ∈ TT := List.mem_filter.mpr ⟨List.mem_of_getElem? (i := 594) (by decide +kernel), by decide +kernel⟩
theorem wd_274 : Cond.instanceMethod yX7_tell ∈ TT := List.mem_filter.mpr ⟨List.mem_of_getElem? (i := 595) (by decide +kernel), by decide +kernel⟩
theorem wd_275 : Cond.selects RX7 yX7_tell yX7_tell ∈ TT := List.mem_filter.mpr ⟨List.mem_of_getElem? (i := 596) (by decide +kernel), by decide +kernel⟩
theorem cl_X9_77 : CVok RX9 77 kX7_tell := ⟨wd_273, wd_274, wd_275⟩
theorem wd_276 : Cond.methodLink RX9 86 yX6_marksOf ∈ TT := List.mem_filter.mpr ⟨List.mem_of_getElem? (i := 618) (by decide +kernel), by decide +kernel⟩
theorem wd_277 : Cond.instanceMethod yX6_marksOf ∈ TT := List.mem_filter.mpr ⟨List.mem_of_getElem? (i := 619) (by decide +kernel), by decide +kernel⟩
theorem wd_278 : Cond.selects RX6 yX6_marksOf yX6_marksOf ∈ TT := List.mem_filter.mpr ⟨List.mem_of_getElem? (i := 620) (by decide +kernel), by decide +kernel⟩
theorem cl_X9_86 : CVok RX9 86 kX6_marksOf := ⟨wd_276, wd_277, wd_278⟩
theorem wd_279 : Cond.methodLink RX9 91 yX6_begunAt ∈ TT := List.mem_filter.mpr ⟨List.mem_of_getElem? (i := 626) (by decide +kernel), by decide +kernel⟩
theorem wd_280 : Cond.instanceMethod yX6_begunAt ∈ TT := List.mem_filter.mpr ⟨List.mem_of_getElem? (i := 627) (by decide +kernel), by decide +kernel⟩
theorem wd_281 : Cond.selects RX6 yX6_begunAt yX6_begunAt ∈ TT := List.mem_filter.mpr ⟨List.mem_of_getElem? (i := 628) (by decide +kernel), by decide +kernel⟩
theorem cl_X9_91 : CVok RX9 91 kX6_begunAt := ⟨wd_279, wd_280, wd_281⟩
theorem wd_282 : Cond.methodLink RX9 98 yX4_read ∈ TT := List.mem_filter.mpr ⟨List.mem_of_getElem? (i := 634) (by decide +kernel), by decide +kernel⟩
theorem wd_283 : Cond.instanceMethod yX4_read ∈ TT := List.mem_filter.mpr ⟨List.mem_of_getElem? (i := 431) (by decide +kernel), by decide +kernel⟩
theorem wd_284 : Cond.selects RX4 yX4_read yX4_read ∈ TT := List.mem_filter.mpr ⟨List.mem_of_getElem? (i := 432) (by decide +kernel), by decide +kernel⟩
theorem cl_X9_98 : CVok RX9 98 kX4_read := ⟨wd_282, wd_283, wd_284⟩
theorem wd_285 : Cond.methodLink RX9 103 yX4_lengthOf ∈ TT := List.mem_filter.mpr ⟨List.mem_of_getElem? (i := 639) (by decide +kernel), by decide +kernel⟩
theorem wd_286 : Cond.instanceMethod yX4_lengthOf ∈ TT := List.mem_filter.mpr ⟨List.mem_of_getElem? (i := 493) (by decide +kernel), by decide +kernel⟩
theorem wd_287 : Cond.selects RX4 yX4_lengthOf yX4_lengthOf ∈ TT := List.mem_filter.mpr ⟨List.mem_of_getElem? (i := 494) (by decide +kernel), by decide +kernel⟩
theorem cl_X9_103 : CVok RX9 103 kX4_lengthOf := ⟨wd_285, wd_286, wd_287⟩
theorem wd_288 : Cond.methodLink RX9 124 yX7_tellsTheSameAs ∈ TT := List.mem_filter.mpr ⟨List.mem_of_getElem? (i := 644) (by decide +kernel), by decide +kernel⟩
theorem wd_289 : Cond.instanceMethod yX7_tellsTheSameAs ∈ TT := List.mem_filter.mpr ⟨List.mem_of_getElem? (i := 645) (by decide +kernel), by decide +kernel⟩
theorem wd_290 : Cond.selects RX7 yX7_tellsTheSameAs yX7_tellsTheSameAs ∈ TT := List.mem_filter.mpr ⟨List.mem_of_getElem? (i := 646) (by decide +kernel), by decide +kernel⟩
theorem cl_X9_124 : CVok RX9 124 kX7_tellsTheSameAs := ⟨wd_288, wd_289, wd_290⟩
theorem wd_291 : Cond.methodLink RX9 128 yX5_statements ∈ TT := List.mem_filter.mpr ⟨List.mem_of_getElem? (i := 662) (by decide +kernel), by decide +kernel⟩
theorem wd_292 : Cond.instanceMethod yX5_statements ∈ TT := List.mem_filter.mpr ⟨List.mem_of_getElem? (i := 663) (by decide +kernel), by decide +kernel⟩
theorem wd_293 : Cond.selects RX5 yX5_statements yX5_statements ∈ TT := List.mem_filter.mpr ⟨List.mem_of_getElem? (i := 664) (by decide +kernel), by decide +kernel⟩
theorem cl_X9_128 : CVok RX9 128 kX5_statements := ⟨wd_291, wd_292, wd_293⟩
theorem wd_294 : Cond.methodLink RX9 131 yX5_bodies ∈ TT := List.mem_filter.mpr ⟨List.mem_of_getElem? (i := 666) (by decide +kernel), by decide +kernel⟩
theorem wd_295 : Cond.instanceMethod yX5_bodies ∈ TT := List.mem_filter.mpr ⟨List.mem_of_getElem? (i := 667) (by decide +kernel), by decide +kernel⟩
theorem wd_296 : Cond.selects RX5 yX5_bodies yX5_bodies ∈ TT := List.mem_filter.mpr ⟨List.mem_of_getElem? (i := 668) (by decide +kernel), by decide +kernel⟩
theorem cl_X9_131 : CVok RX9 131 kX5_bodies := ⟨wd_294, wd_295, wd_296⟩
theorem wd_297 : Cond.methodLink RX2 15 yJ7_fill_53178 ∈ TT := List.mem_filter.mpr ⟨List.mem_of_getElem? (i := 370) (by decide +kernel), by decide +kernel⟩
theorem wd_298 : Cond.static yJ7_fill_53178 ∈ TT := List.mem_filter.mpr ⟨List.mem_of_getElem? (i := 91) (by decide +kernel), by decide +kernel⟩
theorem cl_X2_15 : CSok RX2 15 kJ7_fill_53178 := ⟨Or.inl wd_297, wd_298⟩
theorem wd_299 : Cond.methodLinkNest RX2 25 yX9_isBelow "MarkedRuns" ∈ NN := List.mem_filter.mpr ⟨List.mem_of_getElem? (i := 459) (by decide +kernel), by decide +kernel⟩
theorem cl_X2_25 : CSok RX2 25 kX9_isBelow := ⟨Or.inr ⟨_, wd_299⟩, wd_258⟩
theorem wd_300 : Cond.methodLink RX2 29 yJ9_max_7cf53 ∈ TT := List.mem_filter.mpr ⟨List.mem_of_getElem? (i := 460) (by decide +kernel), by decide +kernel⟩
theorem wd_301 : Cond.static yJ9_max_7cf53 ∈ TT := List.mem_filter.mpr ⟨List.mem_of_getElem? (i := 300) (by decide +kernel), by decide +kernel⟩
theorem cl_X2_29 : CSok RX2 29 kJ9_max_7cf53 := ⟨Or.inl wd_300, wd_301⟩
theorem wd_302 : Cond.methodLink RX4 24 yJ7_fill_53178 ∈ TT := List.mem_filter.mpr ⟨List.mem_of_getElem? (i := 128) (by decide +kernel), by decide +kernel⟩
theorem cl_X4_24 : CSok RX4 24 kJ7_fill_53178 := ⟨Or.inl wd_302, wd_298⟩
theorem wd_303 : Cond.methodLinkNest RX4 37 yX9_isBelow "MarkedRuns" ∈ NN := List.mem_filter.mpr ⟨List.mem_of_getElem? (i := 360) (by decide +kernel), by decide +kernel⟩
theorem cl_X4_37 : CSok RX4 37 kX9_isBelow := ⟨Or.inr ⟨_, wd_303⟩, wd_258⟩
theorem wd_304 : Cond.methodLink RX4 41 yX4_lengthOf ∈ TT := List.mem_filter.mpr ⟨List.mem_of_getElem? (i := 501) (by decide +kernel), by decide +kernel⟩
theorem cl_X4_41 : CVok RX4 41 kX4_lengthOf := ⟨wd_304, wd_286, wd_287⟩
theorem wd_305 : Cond.methodLink RX4 45 yX4_rowEqualTo ∈ TT := List.mem_filter.mpr ⟨List.mem_of_getElem? (i := 653) (by decide +kernel), by decide +kernel⟩
theorem wd_306 : Cond.instanceMethod yX4_rowEqualTo ∈ TT := List.mem_filter.mpr ⟨List.mem_of_getElem? (i := 655) (by decide +kernel), by decide +kernel⟩
theorem wd_307 : Cond.selects RX4 yX4_rowEqualTo yX4_rowEqualTo ∈ TT := List.mem_filter.mpr ⟨List.mem_of_getElem? (i := 26) (by decide +kernel), by decide +kernel⟩
theorem cl_X4_45 : CVok RX4 45 kX4_rowEqualTo := ⟨wd_305, wd_306, wd_307⟩
theorem wd_308 : Cond.methodLink RX4 49 yX4_load ∈ TT := List.mem_filter.mpr ⟨List.mem_of_getElem? (i := 657) (by decide +kernel), by decide +kernel⟩
theorem wd_309 : Cond.instanceMethod yX4_load ∈ TT := List.mem_filter.mpr ⟨List.mem_of_getElem? (i := 498) (by decide +kernel), by decide +kernel⟩
theorem wd_310 : Cond.selects RX4 yX4_load yX4_load ∈ TT := List.mem_filter.mpr ⟨List.mem_of_getElem? (i := 499) (by decide +kernel), by decide +kernel⟩
theorem cl_X4_49 : CVok RX4 49 kX4_load := ⟨wd_308, wd_309, wd_310⟩
theorem wd_311 : Cond.methodLinkNest RX5 40 yX9_isBelow "MarkedRuns" ∈ NN := List.mem_filter.mpr ⟨List.mem_of_getElem? (i := 281) (by decide +kernel), by decide +kernel⟩
theorem cl_X5_40 : CSok RX5 40 kX9_isBelow := ⟨Or.inr ⟨_, wd_311⟩, wd_258⟩
theorem wd_312 : Cond.methodLink RX5 44 yX5_has ∈ TT := List.mem_filter.mpr ⟨List.mem_of_getElem? (i := 287) (by decide +kernel), by decide +kernel⟩
theorem cl_X5_44 : CVok RX5 44 kX5_has := ⟨wd_312, wd_255, wd_256⟩
theorem wd_313 : Cond.methodLink RX5 48 yX5_operandsFit ∈ TT := List.mem_filter.mpr ⟨List.mem_of_getElem? (i := 274) (by decide +kernel), by decide +kernel⟩
theorem wd_314 : Cond.instanceMethod yX5_operandsFit ∈ TT := List.mem_filter.mpr ⟨List.mem_of_getElem? (i := 276) (by decide +kernel), by decide +kernel⟩
theorem wd_315 : Cond.selects RX5 yX5_operandsFit yX5_operandsFit ∈ TT := List.mem_filter.mpr ⟨List.mem_of_getElem? (i := 0) (by decide +kernel), by decide +kernel⟩
theorem cl_X5_48 : CVok RX5 48 kX5_operandsFit := ⟨wd_313, wd_314, wd_315⟩
theorem wd_316 : Cond.methodLink RX5 52 yX5_heightWith ∈ TT := List.mem_filter.mpr ⟨List.mem_of_getElem? (i := 291) (by decide +kernel), by decide +kernel⟩
theorem wd_317 : Cond.instanceMethod yX5_heightWith ∈ TT := List.mem_filter.mpr ⟨List.mem_of_getElem? (i := 293) (by decide +kernel), by decide +kernel⟩
theorem wd_318 : Cond.selects RX5 yX5_heightWith yX5_heightWith ∈ TT := List.mem_filter.mpr ⟨List.mem_of_getElem? (i := 1) (by decide +kernel), by decide +kernel⟩
theorem cl_X5_52 : CVok RX5 52 kX5_heightWith := ⟨wd_316, wd_317, wd_318⟩
theorem wd_319 : Cond.methodLink RX5 56 yX5_isFull ∈ TT := List.mem_filter.mpr ⟨List.mem_of_getElem? (i := 310) (by decide +kernel), by decide +kernel⟩
theorem cl_X5_56 : CVok RX5 56 kX5_isFull := ⟨wd_319, wd_243, wd_244⟩
theorem wd_320 : Cond.methodLink RX5 60 yJ9_max_7cf53 ∈ TT := List.mem_filter.mpr ⟨List.mem_of_getElem? (i := 299) (by decide +kernel), by decide +kernel⟩
theorem cl_X5_60 : CSok RX5 60 kJ9_max_7cf53 := ⟨Or.inl wd_320, wd_301⟩
theorem wd_321 : Cond.methodLink RX5 66 yX5_isVariable ∈ TT := List.mem_filter.mpr ⟨List.mem_of_getElem? (i := 278) (by decide +kernel), by decide +kernel⟩
theorem wd_322 : Cond.static yX5_isVariable ∈ TT := List.mem_filter.mpr ⟨List.mem_of_getElem? (i := 279) (by decide +kernel), by decide +kernel⟩
theorem cl_X5_66 : CSok RX5 66 kX5_isVariable := ⟨Or.inl wd_321, wd_322⟩
theorem wd_323 : Cond.methodLink RX5 69 yX5_isRow ∈ TT := List.mem_filter.mpr ⟨List.mem_of_getElem? (i := 284) (by decide +kernel), by decide +kernel⟩
theorem wd_324 : Cond.static yX5_isRow ∈ TT := List.mem_filter.mpr ⟨List.mem_of_getElem? (i := 285) (by decide +kernel), by decide +kernel⟩
theorem cl_X5_69 : CSok RX5 69 kX5_isRow := ⟨Or.inl wd_323, wd_324⟩
theorem wd_325 : Cond.methodLink RX5 74 yX5_heightOf ∈ TT := List.mem_filter.mpr ⟨List.mem_of_getElem? (i := 295) (by decide +kernel), by decide +kernel⟩
theorem wd_326 : Cond.instanceMethod yX5_heightOf ∈ TT := List.mem_filter.mpr ⟨List.mem_of_getElem? (i := 297) (by decide +kernel), by decide +kernel⟩
theorem wd_327 : Cond.selects RX5 yX5_heightOf yX5_heightOf ∈ TT := List.mem_filter.mpr ⟨List.mem_of_getElem? (i := 2) (by decide +kernel), by decide +kernel⟩
theorem cl_X5_74 : CVok RX5 74 kX5_heightOf := ⟨wd_325, wd_326, wd_327⟩
theorem wd_328 : Cond.methodLink RX6 20 yJ7_fill_53178 ∈ TT := List.mem_filter.mpr ⟨List.mem_of_getElem? (i := 365) (by decide +kernel), by decide +kernel⟩
theorem cl_X6_20 : CSok RX6 20 kJ7_fill_53178 := ⟨Or.inl wd_328, wd_298⟩
theorem wd_329 : Cond.methodLinkNest RX6 46 yX9_isBelow "MarkedRuns" ∈ NN := List.mem_filter.mpr ⟨List.mem_of_getElem? (i := 379) (by decide +kernel), by decide +kernel⟩
theorem cl_X6_46 : CSok RX6 46 kX9_isBelow := ⟨Or.inr ⟨_, wd_329⟩, wd_258⟩
theorem wd_330 : Cond.methodLink RX7 47 yX7_clear ∈ TT := List.mem_filter.mpr ⟨List.mem_of_getElem? (i := 348) (by decide +kernel), by decide +kernel⟩
theorem wd_331 : Cond.instanceMethod yX7_clear ∈ TT := List.mem_filter.mpr ⟨List.mem_of_getElem? (i := 350) (by decide +kernel), by decide +kernel⟩
theorem wd_332 : Cond.selects RX7 yX7_clear yX7_clear ∈ TT := List.mem_filter.mpr ⟨List.mem_of_getElem? (i := 3) (by decide +kernel), by decide +kernel⟩
theorem cl_X7_47 : CVok RX7 47 kX7_clear := ⟨wd_330, wd_331, wd_332⟩
theorem wd_333 : Cond.methodLink RX7 53 yX6_pays ∈ TT := List.mem_filter.mpr ⟨List.mem_of_getElem? (i := 375) (by decide +kernel), by decide +kernel⟩
theorem wd_334 : Cond.instanceMethod yX6_pays ∈ TT := List.mem_filter.mpr ⟨List.mem_of_getElem? (i := 376) (by decide +kernel), by decide +kernel⟩
theorem wd_335 : Cond.selects RX6 yX6_pays yX6_pays ∈ TT := List.mem_filter.mpr ⟨List.mem_of_getElem? (i := 377) (by decide +kernel), by decide +kernel⟩
theorem cl_X7_53 : CVok RX7 53 kX6_pays := ⟨wd_333, wd_334, wd_335⟩
theorem wd_336 : Cond.methodLink RX7 57 yX7_enter ∈ TT := List.mem_filter.mpr ⟨List.mem_of_getElem? (i := 380) (by decide +kernel), by decide +kernel⟩
theorem wd_337 : Cond.instanceMethod yX7_enter ∈ TT := List.mem_filter.mpr ⟨List.mem_of_getElem? (i := 382) (by decide +kernel), by decide +kernel⟩
theorem wd_338 : Cond.selects RX7 yX7_enter yX7_enter ∈ TT := List.mem_filter.mpr ⟨List.mem_of_getElem? (i := 4) (by decide +kernel), by decide +kernel⟩
theorem cl_X7_57 : CVok RX7 57 kX7_enter := ⟨wd_336, wd_337, wd_338⟩
theorem wd_339 : Cond.methodLink RX7 65 yX0_isEmpty ∈ TT := List.mem_filter.mpr ⟨List.mem_of_getElem? (i := 390) (by decide +kernel), by decide +kernel⟩
theorem wd_340 : Cond.instanceMethod yX0_isEmpty ∈ TT := List.mem_filter.mpr ⟨List.mem_of_getElem? (i := 391) (by decide +kernel), by decide +kernel⟩
theorem wd_341 : Cond.selects RX0 yX0_isEmpty yX0_isEmpty ∈ TT := List.mem_filter.mpr ⟨List.mem_of_getElem? (i := 392) (by decide +kernel), by decide +kernel⟩
theorem cl_X7_65 : CVok RX7 65 kX0_isEmpty := ⟨wd_339, wd_340, wd_341⟩
theorem wd_342 : Cond.methodLink RX7 69 yX0_statement ∈ TT := List.mem_filter.mpr ⟨List.mem_of_getElem? (i := 394) (by decide +kernel), by decide +kernel⟩
theorem wd_343 : Cond.instanceMethod yX0_statement ∈ TT := List.mem_filter.mpr ⟨List.mem_of_getElem? (i := 395) (by decide +kernel), by decide +kernel⟩
theorem wd_344 : Cond.selects RX0 yX0_statement yX0_statement ∈ TT := List.mem_filter.mpr ⟨List.mem_of_getElem? (i := 396) (by decide +kernel), by decide +kernel⟩
theorem cl_X7_69 : CVok RX7 69 kX0_statement := ⟨wd_342, wd_343, wd_344⟩
theorem wd_345 : Cond.methodLink RX7 73 yX0_stage ∈ TT := List.mem_filter.mpr ⟨List.mem_of_getElem? (i := 398) (by decide +kernel), by decide +kernel⟩
theorem wd_346 : Cond.instanceMethod yX0_stage ∈ TT := List.mem_filter.mpr ⟨List.mem_of_getElem? (i := 399) (by decide +kernel), by decide +kernel⟩
theorem wd_347 : Cond.selects RX0 yX0_stage yX0_stage ∈ TT := List.mem_filter.mpr ⟨List.mem_of_getElem? (i := 400) (by decide +kernel), by decide +kernel⟩
theorem cl_X7_73 : CVok RX7 73 kX0_stage := ⟨wd_345, wd_346, wd_347⟩
theorem wd_348 : Cond.methodLink RX7 76 yX7_begin ∈ TT := List.mem_filter.mpr ⟨List.mem_of_getElem? (i := 402) (by decide +kernel), by decide +kernel⟩
theorem wd_349 : Cond.instanceMethod yX7_begin ∈ TT := List.mem_filter.mpr ⟨List.mem_of_getElem? (i := 404) (by decide +kernel), by decide +kernel⟩
theorem wd_350 : Cond.selects RX7 yX7_begin yX7_begin ∈ TT := List.mem_filter.mpr ⟨List.mem_of_getElem? (i := 5) (by decide +kernel), by decide +kernel⟩
theorem cl_X7_76 : CVok RX7 76 kX7_begin := ⟨wd_348, wd_349, wd_350⟩
theorem wd_351 : Cond.methodLink RX7 79 yX7_goOn ∈ TT := List.mem_filter.mpr ⟨List.mem_of_getElem? (i := 526) (by decide +kernel), by decide +kernel⟩
theorem wd_352 : Cond.instanceMethod yX7_goOn ∈ TT := List.mem_filter.mpr ⟨List.mem_of_getElem? (i := 528) (by decide +kernel), by decide +kernel⟩
theorem wd_353 : Cond.selects RX7 yX7_goOn yX7_goOn ∈ TT := List.mem_filter.mpr ⟨List.mem_of_getElem? (i := 18) (by decide +kernel), by decide +kernel⟩
theorem cl_X7_79 : CVok RX7 79 kX7_goOn := ⟨wd_351, wd_352, wd_353⟩
theorem wd_354 : Cond.methodLink RX7 88 yX4_result ∈ TT := List.mem_filter.mpr ⟨List.mem_of_getElem? (i := 522) (by decide +kernel), by decide +kernel⟩
theorem wd_355 : Cond.instanceMethod yX4_result ∈ TT := List.mem_filter.mpr ⟨List.mem_of_getElem? (i := 523) (by decide +kernel), by decide +kernel⟩
theorem wd_356 : Cond.selects RX4 yX4_result yX4_result ∈ TT := List.mem_filter.mpr ⟨List.mem_of_getElem? (i := 524) (by decide +kernel), by decide +kernel⟩
theorem cl_X7_88 : CVok RX7 88 kX4_result := ⟨wd_354, wd_355, wd_356⟩
theorem wd_357 : Cond.methodLink RX7 91 yX6_spentOfBudget ∈ TT := List.mem_filter.mpr ⟨List.mem_of_getElem? (i := 598) (by decide +kernel), by decide +kernel⟩
theorem wd_358 : Cond.instanceMethod yX6_spentOfBudget ∈ TT := List.mem_filter.mpr ⟨List.mem_of_getElem? (i := 599) (by decide +kernel), by decide +kernel⟩
theorem wd_359 : Cond.selects RX6 yX6_spentOfBudget yX6_spentOfBudget ∈ TT := List.mem_filter.mpr ⟨List.mem_of_getElem? (i := 600) (by decide +kernel), by decide +kernel⟩
theorem cl_X7_91 : CVok RX7 91 kX6_spentOfBudget := ⟨wd_357, wd_358, wd_359⟩
theorem wd_360 : Cond.methodLink RX7 94 yX6_spentOfReserve ∈ TT := List.mem_filter.mpr ⟨List.mem_of_getElem? (i := 602) (by decide +kernel), by decide +kernel⟩
theorem wd_361 : Cond.instanceMethod yX6_spentOfReserve ∈ TT := List.mem_filter.mpr ⟨List.mem_of_getElem? (i := 603) (by decide +kernel), by decide +kernel⟩
theorem wd_362 : Cond.selects RX6 yX6_spentOfReserve yX6_spentOfReserve ∈ TT := List.mem_filter.mpr ⟨List.mem_of_getElem? (i := 604) (by decide +kernel), by decide +kernel⟩
theorem cl_X7_94 : CVok RX7 94 kX6_spentOfReserve := ⟨wd_360, wd_361, wd_362⟩
theorem wd_363 : Cond.methodLink RX7 100 yX2_most ∈ TT := List.mem_filter.mpr ⟨List.mem_of_getElem? (i := 606) (by decide +kernel), by decide +kernel⟩
theorem wd_364 : Cond.instanceMethod yX2_most ∈ TT := List.mem_filter.mpr ⟨List.mem_of_getElem? (i := 607) (by decide +kernel), by decide +kernel⟩
theorem wd_365 : Cond.selects RX2 yX2_most yX2_most ∈ TT := List.mem_filter.mpr ⟨List.mem_of_getElem? (i := 608) (by decide +kernel), by decide +kernel⟩
theorem cl_X7_100 : CVok RX7 100 kX2_most := ⟨wd_363, wd_364, wd_365⟩
theorem wd_366 : Cond.methodLink RX7 103 yX2_sum ∈ TT := List.mem_filter.mpr ⟨List.mem_of_getElem? (i := 610) (by decide +kernel), by decide +kernel⟩
theorem wd_367 : Cond.instanceMethod yX2_sum ∈ TT := List.mem_filter.mpr ⟨List.mem_of_getElem? (i := 611) (by decide +kernel), by decide +kernel⟩
theorem wd_368 : Cond.selects RX2 yX2_sum yX2_sum ∈ TT := List.mem_filter.mpr ⟨List.mem_of_getElem? (i := 612) (by decide +kernel), by decide +kernel⟩
theorem cl_X7_103 : CVok RX7 103 kX2_sum := ⟨wd_366, wd_367, wd_368⟩
theorem wd_369 : Cond.methodLink RX7 106 yX7_tell ∈ TT := List.mem_filter.mpr ⟨List.mem_of_getElem? (i := 648) (by decide +kernel), by decide +kernel⟩
theorem cl_X7_106 : CVok RX7 106 kX7_tell := ⟨wd_369, wd_274, wd_275⟩
theorem wd_370 : Cond.methodLink RX7 110 yX4_equalTo ∈ TT := List.mem_filter.mpr ⟨List.mem_of_getElem? (i := 649) (by decide +kernel), by decide +kernel⟩
theorem wd_371 : Cond.instanceMethod yX4_equalTo ∈ TT := List.mem_filter.mpr ⟨List.mem_of_getElem? (i := 650) (by decide +kernel), by decide +kernel⟩
theorem wd_372 : Cond.selects RX4 yX4_equalTo yX4_equalTo ∈ TT := List.mem_filter.mpr ⟨List.mem_of_getElem? (i := 651) (by decide +kernel), by decide +kernel⟩
theorem cl_X7_110 : CVok RX7 110 kX4_equalTo := ⟨wd_370, wd_371, wd_372⟩
theorem wd_373 : Cond.methodLink RX7 114 yX4_clear ∈ TT := List.mem_filter.mpr ⟨List.mem_of_getElem? (i := 352) (by decide +kernel), by decide +kernel⟩
theorem wd_374 : Cond.instanceMethod yX4_clear ∈ TT := List.mem_filter.mpr ⟨List.mem_of_getElem? (i := 353) (by decide +kernel), by decide +kernel⟩
theorem wd_375 : Cond.selects RX4 yX4_clear yX4_clear ∈ TT := List.mem_filter.mpr ⟨List.mem_of_getElem? (i := 354) (by decide +kernel), by decide +kernel⟩
theorem cl_X7_114 : CVok RX7 114 kX4_clear := ⟨wd_373, wd_374, wd_375⟩
theorem wd_376 : Cond.methodLink RX7 116 yX4_write ∈ TT := List.mem_filter.mpr ⟨List.mem_of_getElem? (i := 356) (by decide +kernel), by decide +kernel⟩
theorem wd_377 : Cond.instanceMethod yX4_write ∈ TT := List.mem_filter.mpr ⟨List.mem_of_getElem? (i := 357) (by decide +kernel), by decide +kernel⟩
theorem wd_378 : Cond.selects RX4 yX4_write yX4_write ∈ TT := List.mem_filter.mpr ⟨List.mem_of_getElem? (i := 358) (by decide +kernel), by decide +kernel⟩
theorem cl_X7_116 : CVok RX7 116 kX4_write := ⟨wd_376, wd_377, wd_378⟩
theorem wd_379 : Cond.methodLink RX7 119 yX6_fill ∈ TT := List.mem_filter.mpr ⟨List.mem_of_getElem? (i := 361) (by decide +kernel), by decide +kernel⟩
theorem wd_380 : Cond.instanceMethod yX6_fill ∈ TT := List.mem_filter.mpr ⟨List.mem_of_getElem? (i := 362) (by decide +kernel), by decide +kernel⟩
theorem wd_381 : Cond.selects RX6 yX6_fill yX6_fill ∈ TT := List.mem_filter.mpr ⟨List.mem_of_getElem? (i := 363) (by decide +kernel), by decide +kernel⟩
theorem cl_X7_119 : CVok RX7 119 kX6_fill := ⟨wd_379, wd_380, wd_381⟩
theorem wd_382 : Cond.methodLink RX7 122 yX2_clear ∈ TT := List.mem_filter.mpr ⟨List.mem_of_getElem? (i := 366) (by decide +kernel), by decide +kernel⟩
theorem wd_383 : Cond.instanceMethod yX2_clear ∈ TT := List.mem_filter.mpr ⟨List.mem_of_getElem? (i := 367) (by decide +kernel), by decide +kernel⟩
theorem wd_384 : Cond.selects RX2 yX2_clear yX2_clear ∈ TT := List.mem_filter.mpr ⟨List.mem_of_getElem? (i := 368) (by decide +kernel), by decide +kernel⟩
theorem cl_X7_122 : CVok RX7 122 kX2_clear := ⟨wd_382, wd_383, wd_384⟩
theorem wd_385 : Cond.methodLink RX7 123 yX0_clear ∈ TT := List.mem_filter.mpr ⟨List.mem_of_getElem? (i := 371) (by decide +kernel), by decide +kernel⟩
theorem wd_386 : Cond.instanceMethod yX0_clear ∈ TT := List.mem_filter.mpr ⟨List.mem_of_getElem? (i := 372) (by decide +kernel), by decide +kernel⟩
theorem wd_387 : Cond.selects RX0 yX0_clear yX0_clear ∈ TT := List.mem_filter.mpr ⟨List.mem_of_getElem? (i := 373) (by decide +kernel), by decide +kernel⟩
theorem cl_X7_123 : CVok RX7 123 kX0_clear := ⟨wd_385, wd_386, wd_387⟩
theorem wd_388 : Cond.methodLink RX7 127 yX5_firstOf ∈ TT := List.mem_filter.mpr ⟨List.mem_of_getElem? (i := 406) (by decide +kernel), by decide +kernel⟩
theorem wd_389 : Cond.instanceMethod yX5_firstOf ∈ TT := List.mem_filter.mpr ⟨List.mem_of_getElem? (i := 407) (by decide +kernel), by decide +kernel⟩
theorem wd_390 : Cond.selects RX5 yX5_firstOf yX5_firstOf ∈ TT := List.mem_filter.mpr ⟨List.mem_of_getElem? (i := 408) (by decide +kernel), by decide +kernel⟩
theorem cl_X7_127 : CVok RX7 127 kX5_firstOf := ⟨wd_388, wd_389, wd_390⟩
theorem wd_391 : Cond.methodLink RX7 132 yX5_secondOf ∈ TT := List.mem_filter.mpr ⟨List.mem_of_getElem? (i := 410) (by decide +kernel), by decide +kernel⟩
theorem wd_392 : Cond.instanceMethod yX5_secondOf ∈ TT := List.mem_filter.mpr ⟨List.mem_of_getElem? (i := 411) (by decide +kernel), by decide +kernel⟩
theorem wd_393 : Cond.selects RX5 yX5_secondOf yX5_secondOf ∈ TT := List.mem_filter.mpr ⟨List.mem_of_getElem? (i := 412) (by decide +kernel), by decide +kernel⟩
theorem cl_X7_132 : CVok RX7 132 kX5_secondOf := ⟨wd_391, wd_392, wd_393⟩
theorem wd_394 : Cond.methodLink RX7 135 yX5_thirdOf ∈ TT := List.mem_filter.mpr ⟨List.mem_of_getElem? (i := 414) (by decide +kernel), by decide +kernel⟩
theorem wd_395 : Cond.instanceMethod yX5_thirdOf ∈ TT := List.mem_filter.mpr ⟨List.mem_of_getElem? (i := 415) (by decide +kernel), by decide +kernel⟩
theorem wd_396 : Cond.selects RX5 yX5_thirdOf yX5_thirdOf ∈ TT := List.mem_filter.mpr ⟨List.mem_of_getElem? (i := 416) (by decide +kernel), by decide +kernel⟩
theorem cl_X7_135 : CVok RX7 135 kX5_thirdOf := ⟨wd_394, wd_395, wd_396⟩
theorem wd_397 : Cond.methodLink RX7 138 yX5_sortOf ∈ TT := List.mem_filter.mpr ⟨List.mem_of_getElem? (i := 418) (by decide +kernel), by decide +kernel⟩
theorem wd_398 : Cond.instanceMethod yX5_sortOf ∈ TT := List.mem_filter.mpr ⟨List.mem_of_getElem? (i := 419) (by decide +kernel), by decide +kernel⟩
theorem wd_399 : Cond.selects RX5 yX5_sortOf yX5_sortOf ∈ TT := List.mem_filter.mpr ⟨List.mem_of_getElem? (i := 420) (by decide +kernel), by decide +kernel⟩
theorem cl_X7_138 : CVok RX7 138 kX5_sortOf := ⟨wd_397, wd_398, wd_399⟩
theorem wd_400 : Cond.methodLink RX7 141 yX7_doPart ∈ TT := List.mem_filter.mpr ⟨List.mem_of_getElem? (i := 422) (by decide +kernel), by decide +kernel⟩
theorem wd_401 : Cond.instanceMethod yX7_doPart ∈ TT := List.mem_filter.mpr ⟨List.mem_of_getElem? (i := 424) (by decide +kernel), by decide +kernel⟩
theorem wd_402 : Cond.selects RX7 yX7_doPart yX7_doPart ∈ TT := List.mem_filter.mpr ⟨List.mem_of_getElem? (i := 6) (by decide +kernel), by decide +kernel⟩
theorem cl_X7_141 : CVok RX7 141 kX7_doPart := ⟨wd_400, wd_401, wd_402⟩
theorem wd_403 : Cond.methodLink RX7 144 yX4_read ∈ TT := List.mem_filter.mpr ⟨List.mem_of_getElem? (i := 430) (by decide +kernel), by decide +kernel⟩
theorem cl_X7_144 : CVok RX7 144 kX4_read := ⟨wd_403, wd_283, wd_284⟩
theorem wd_404 : Cond.methodLink RX7 147 yX7_loopOrEnd ∈ TT := List.mem_filter.mpr ⟨List.mem_of_getElem? (i := 434) (by decide +kernel), by decide +kernel⟩
theorem wd_405 : Cond.instanceMethod yX7_loopOrEnd ∈ TT := List.mem_filter.mpr ⟨List.mem_of_getElem? (i := 436) (by decide +kernel), by decide +kernel⟩
theorem wd_406 : Cond.selects RX7 yX7_loopOrEnd yX7_loopOrEnd ∈ TT := List.mem_filter.mpr ⟨List.mem_of_getElem? (i := 7) (by decide +kernel), by decide +kernel⟩
theorem cl_X7_147 : CVok RX7 147 kX7_loopOrEnd := ⟨wd_404, wd_405, wd_406⟩
theorem wd_407 : Cond.methodLink RX7 150 yX7_call ∈ TT := List.mem_filter.mpr ⟨List.mem_of_getElem? (i := 442) (by decide +kernel), by decide +kernel⟩
theorem wd_408 : Cond.instanceMethod yX7_call ∈ TT := List.mem_filter.mpr ⟨List.mem_of_getElem? (i := 444) (by decide +kernel), by decide +kernel⟩
theorem wd_409 : Cond.selects RX7 yX7_call yX7_call ∈ TT := List.mem_filter.mpr ⟨List.mem_of_getElem? (i := 8) (by decide +kernel), by decide +kernel⟩
theorem cl_X7_150 : CVok RX7 150 kX7_call := ⟨wd_407, wd_408, wd_409⟩
theorem wd_410 : Cond.methodLink RX7 153 yX2_take ∈ TT := List.mem_filter.mpr ⟨List.mem_of_getElem? (i := 455) (by decide +kernel), by decide +kernel⟩
theorem wd_411 : Cond.instanceMethod yX2_take ∈ TT := List.mem_filter.mpr ⟨List.mem_of_getElem? (i := 456) (by decide +kernel), by decide +kernel⟩
theorem wd_412 : Cond.selects RX2 yX2_take yX2_take ∈ TT := List.mem_filter.mpr ⟨List.mem_of_getElem? (i := 457) (by decide +kernel), by decide +kernel⟩
theorem cl_X7_153 : CVok RX7 153 kX2_take := ⟨wd_410, wd_411, wd_412⟩
theorem wd_413 : Cond.methodLink RX7 156 yX7_doAtOnce ∈ TT := List.mem_filter.mpr ⟨List.mem_of_getElem? (i := 461) (by decide +kernel), by decide +kernel⟩
theorem wd_414 : Cond.instanceMethod yX7_doAtOnce ∈ TT := List.mem_filter.mpr ⟨List.mem_of_getElem? (i := 463) (by decide +kernel), by decide +kernel⟩
theorem wd_415 : Cond.selects RX7 yX7_doAtOnce yX7_doAtOnce ∈ TT := List.mem_filter.mpr ⟨List.mem_of_getElem? (i := 11) (by decide +kernel), by decide +kernel⟩
theorem cl_X7_156 : CVok RX7 156 kX7_doAtOnce := ⟨wd_413, wd_414, wd_415⟩
theorem wd_416 : Cond.methodLink RX7 160 yX7_goOnWithBoth ∈ TT := List.mem_filter.mpr ⟨List.mem_of_getElem? (i := 530) (by decide +kernel), by decide +kernel⟩
theorem wd_417 : Cond.instanceMethod yX7_goOnWithBoth ∈ TT := List.mem_filter.mpr ⟨List.mem_of_getElem? (i := 532) (by decide +kernel), by decide +kernel⟩
theorem wd_418 : Cond.selects RX7 yX7_goOnWithBoth yX7_goOnWithBoth ∈ TT := List.mem_filter.mpr ⟨List.mem_of_getElem? (i := 19) (by decide +kernel), by decide +kernel⟩
theorem cl_X7_160 : CVok RX7 160 kX7_goOnWithBoth := ⟨wd_416, wd_417, wd_418⟩
theorem wd_419 : Cond.methodLink RX7 163 yX7_goOnWithLoop ∈ TT := List.mem_filter.mpr ⟨List.mem_of_getElem? (i := 534) (by decide +kernel), by decide +kernel⟩
theorem wd_420 : Cond.instanceMethod yX7_goOnWithLoop ∈ TT := List.mem_filter.mpr ⟨List.mem_of_getElem? (i := 536) (by decide +kernel), by decide +kernel⟩
theorem wd_421 : Cond.selects RX7 yX7_goOnWithLoop yX7_goOnWithLoop ∈ TT := List.mem_filter.mpr ⟨List.mem_of_getElem? (i := 20) (by decide +kernel), by decide +kernel⟩
theorem cl_X7_163 : CVok RX7 163 kX7_goOnWithLoop := ⟨wd_419, wd_420, wd_421⟩
theorem wd_422 : Cond.methodLink RX7 166 yX7_end ∈ TT := List.mem_filter.mpr ⟨List.mem_of_getElem? (i := 451) (by decide +kernel), by decide +kernel⟩
theorem wd_423 : Cond.instanceMethod yX7_end ∈ TT := List.mem_filter.mpr ⟨List.mem_of_getElem? (i := 453) (by decide +kernel), by decide +kernel⟩
theorem wd_424 : Cond.selects RX7 yX7_end yX7_end ∈ TT := List.mem_filter.mpr ⟨List.mem_of_getElem? (i := 10) (by decide +kernel), by decide +kernel⟩
theorem cl_X7_166 : CVok RX7 166 kX7_end := ⟨wd_422, wd_423, wd_424⟩
theorem wd_425 : Cond.methodLink RX7 169 yX7_goOnWithTry ∈ TT := List.mem_filter.mpr ⟨List.mem_of_getElem? (i := 538) (by decide +kernel), by decide +kernel⟩
theorem wd_426 : Cond.instanceMethod yX7_goOnWithTry ∈ TT := List.mem_filter.mpr ⟨List.mem_of_getElem? (i := 540) (by decide +kernel), by decide +kernel⟩
theorem wd_427 : Cond.selects RX7 yX7_goOnWithTry yX7_goOnWithTry ∈ TT := List.mem_filter.mpr ⟨List.mem_of_getElem? (i := 21) (by decide +kernel), by decide +kernel⟩
theorem cl_X7_169 : CVok RX7 169 kX7_goOnWithTry := ⟨wd_425, wd_426, wd_427⟩
theorem wd_428 : Cond.methodLink RX7 172 yX7_beginLastPart ∈ TT := List.mem_filter.mpr ⟨List.mem_of_getElem? (i := 546) (by decide +kernel), by decide +kernel⟩
theorem wd_429 : Cond.instanceMethod yX7_beginLastPart ∈ TT := List.mem_filter.mpr ⟨List.mem_of_getElem? (i := 548) (by decide +kernel), by decide +kernel⟩
theorem wd_430 : Cond.selects RX7 yX7_beginLastPart yX7_beginLastPart ∈ TT := List.mem_filter.mpr ⟨List.mem_of_getElem? (i := 22) (by decide +kernel), by decide +kernel⟩
theorem cl_X7_172 : CVok RX7 172 kX7_beginLastPart := ⟨wd_428, wd_429, wd_430⟩
theorem wd_431 : Cond.methodLink RX7 175 yX7_endLastPart ∈ TT := List.mem_filter.mpr ⟨List.mem_of_getElem? (i := 566) (by decide +kernel), by decide +kernel⟩
theorem wd_432 : Cond.instanceMethod yX7_endLastPart ∈ TT := List.mem_filter.mpr ⟨List.mem_of_getElem? (i := 568) (by decide +kernel), by decide +kernel⟩
theorem wd_433 : Cond.selects RX7 yX7_endLastPart yX7_endLastPart ∈ TT := List.mem_filter.mpr ⟨List.mem_of_getElem? (i := 24) (by decide +kernel), by decide +kernel⟩
theorem cl_X7_175 : CVok RX7 175 kX7_endLastPart := ⟨wd_431, wd_432, wd_433⟩
theorem wd_434 : Cond.methodLink RX7 178 yX2_free ∈ TT := List.mem_filter.mpr ⟨List.mem_of_getElem? (i := 582) (by decide +kernel), by decide +kernel⟩
theorem wd_435 : Cond.instanceMethod yX2_free ∈ TT := List.mem_filter.mpr ⟨List.mem_of_getElem? (i := 583) (by decide +kernel), by decide +kernel⟩
theorem wd_436 : Cond.selects RX2 yX2_free yX2_free ∈ TT := List.mem_filter.mpr ⟨List.mem_of_getElem? (i := 584) (by decide +kernel), by decide +kernel⟩
theorem cl_X7_178 : CVok RX7 178 kX2_free := ⟨wd_434, wd_435, wd_436⟩
theorem wd_437 : Cond.methodLink RX7 181 yX0_close ∈ TT := List.mem_filter.mpr ⟨List.mem_of_getElem? (i := 438) (by decide +kernel), by decide +kernel⟩
theorem wd_438 : Cond.instanceMethod yX0_close ∈ TT := List.mem_filter.mpr ⟨List.mem_of_getElem? (i := 439) (by decide +kernel), by decide +kernel⟩
theorem wd_439 : Cond.selects RX0 yX0_close yX0_close ∈ TT := List.mem_filter.mpr ⟨List.mem_of_getElem? (i := 440) (by decide +kernel), by decide +kernel⟩
theorem cl_X7_181 : CVok RX7 181 kX0_close := ⟨wd_437, wd_438, wd_439⟩
theorem wd_440 : Cond.methodLink RX7 184 yX6_noteBegun ∈ TT := List.mem_filter.mpr ⟨List.mem_of_getElem? (i := 542) (by decide +kernel), by decide +kernel⟩
theorem wd_441 : Cond.instanceMethod yX6_noteBegun ∈ TT := List.mem_filter.mpr ⟨List.mem_of_getElem? (i := 543) (by decide +kernel), by decide +kernel⟩
theorem wd_442 : Cond.selects RX6 yX6_noteBegun yX6_noteBegun ∈ TT := List.mem_filter.mpr ⟨List.mem_of_getElem? (i := 544) (by decide +kernel), by decide +kernel⟩
theorem cl_X7_184 : CVok RX7 184 kX6_noteBegun := ⟨wd_440, wd_441, wd_442⟩
theorem wd_443 : Cond.methodLink RX7 189 yX7_payForLastPart ∈ TT := List.mem_filter.mpr ⟨List.mem_of_getElem? (i := 550) (by decide +kernel), by decide +kernel⟩
theorem wd_444 : Cond.instanceMethod yX7_payForLastPart ∈ TT := List.mem_filter.mpr ⟨List.mem_of_getElem? (i := 552) (by decide +kernel), by decide +kernel⟩
theorem wd_445 : Cond.selects RX7 yX7_payForLastPart yX7_payForLastPart ∈ TT := List.mem_filter.mpr ⟨List.mem_of_getElem? (i := 23) (by decide +kernel), by decide +kernel⟩
theorem cl_X7_189 : CVok RX7 189 kX7_payForLastPart := ⟨wd_443, wd_444, wd_445⟩
theorem wd_446 : Cond.methodLink RX7 192 yX0_keep ∈ TT := List.mem_filter.mpr ⟨List.mem_of_getElem? (i := 562) (by decide +kernel), by decide +kernel⟩
theorem wd_447 : Cond.instanceMethod yX0_keep ∈ TT := List.mem_filter.mpr ⟨List.mem_of_getElem? (i := 563) (by decide +kernel), by decide +kernel⟩
theorem wd_448 : Cond.selects RX0 yX0_keep yX0_keep ∈ TT := List.mem_filter.mpr ⟨List.mem_of_getElem? (i := 564) (by decide +kernel), by decide +kernel⟩
theorem cl_X7_192 : CVok RX7 192 kX0_keep := ⟨wd_446, wd_447, wd_448⟩
theorem wd_449 : Cond.methodLink RX7 196 yX6_isByReserve ∈ TT := List.mem_filter.mpr ⟨List.mem_of_getElem? (i := 554) (by decide +kernel), by decide +kernel⟩
theorem wd_450 : Cond.instanceMethod yX6_isByReserve ∈ TT := List.mem_filter.mpr ⟨List.mem_of_getElem? (i := 555) (by decide +kernel), by decide +kernel⟩
theorem wd_451 : Cond.selects RX6 yX6_isByReserve yX6_isByReserve ∈ TT := List.mem_filter.mpr ⟨List.mem_of_getElem? (i := 556) (by decide +kernel), by decide +kernel⟩
theorem cl_X7_196 : CVok RX7 196 kX6_isByReserve := ⟨wd_449, wd_450, wd_451⟩
theorem wd_452 : Cond.methodLink RX7 199 yX6_setByReserve ∈ TT := List.mem_filter.mpr ⟨List.mem_of_getElem? (i := 558) (by decide +kernel), by decide +kernel⟩
theorem wd_453 : Cond.instanceMethod yX6_setByReserve ∈ TT := List.mem_filter.mpr ⟨List.mem_of_getElem? (i := 559) (by decide +kernel), by decide +kernel⟩
theorem wd_454 : Cond.selects RX6 yX6_setByReserve yX6_setByReserve ∈ TT := List.mem_filter.mpr ⟨List.mem_of_getElem? (i := 560) (by decide +kernel), by decide +kernel⟩
theorem cl_X7_199 : CVok RX7 199 kX6_setByReserve := ⟨wd_452, wd_453, wd_454⟩
theorem wd_455 : Cond.methodLink RX7 203 yX0_keptEnding ∈ TT := List.mem_filter.mpr ⟨List.mem_of_getElem? (i := 570) (by decide +kernel), by decide +kernel⟩
theorem wd_456 : Cond.instanceMethod yX0_keptEnding ∈ TT := List.mem_filter.mpr ⟨List.mem_of_getElem? (i := 571) (by decide +kernel), by decide +kernel⟩
theorem wd_457 : Cond.selects RX0 yX0_keptEnding yX0_keptEnding ∈ TT := List.mem_filter.mpr ⟨List.mem_of_getElem? (i := 572) (by decide +kernel), by decide +kernel⟩
theorem cl_X7_203 : CVok RX7 203 kX0_keptEnding := ⟨wd_455, wd_456, wd_457⟩
theorem wd_458 : Cond.methodLink RX7 206 yX0_keptKind ∈ TT := List.mem_filter.mpr ⟨List.mem_of_getElem? (i := 574) (by decide +kernel), by decide +kernel⟩
theorem wd_459 : Cond.instanceMethod yX0_keptKind ∈ TT := List.mem_filter.mpr ⟨List.mem_of_getElem? (i := 575) (by decide +kernel), by decide +kernel⟩
theorem wd_460 : Cond.selects RX0 yX0_keptKind yX0_keptKind ∈ TT := List.mem_filter.mpr ⟨List.mem_of_getElem? (i := 576) (by decide +kernel), by decide +kernel⟩
theorem cl_X7_206 : CVok RX7 206 kX0_keptKind := ⟨wd_458, wd_459, wd_460⟩
theorem wd_461 : Cond.methodLink RX7 209 yX0_keptNumber ∈ TT := List.mem_filter.mpr ⟨List.mem_of_getElem? (i := 578) (by decide +kernel), by decide +kernel⟩
theorem wd_462 : Cond.instanceMethod yX0_keptNumber ∈ TT := List.mem_filter.mpr ⟨List.mem_of_getElem? (i := 579) (by decide +kernel), by decide +kernel⟩
theorem wd_463 : Cond.selects RX0 yX0_keptNumber yX0_keptNumber ∈ TT := List.mem_filter.mpr ⟨List.mem_of_getElem? (i := 580) (by decide +kernel), by decide +kernel⟩
theorem cl_X7_209 : CVok RX7 209 kX0_keptNumber := ⟨wd_461, wd_462, wd_463⟩
theorem wd_464 : Cond.methodLink RX7 212 yX5_bodyOf ∈ TT := List.mem_filter.mpr ⟨List.mem_of_getElem? (i := 446) (by decide +kernel), by decide +kernel⟩
theorem cl_X7_212 : CVok RX7 212 kX5_bodyOf := ⟨wd_464, wd_263, wd_264⟩
theorem wd_465 : Cond.methodLink RX7 215 yX7_raise ∈ TT := List.mem_filter.mpr ⟨List.mem_of_getElem? (i := 447) (by decide +kernel), by decide +kernel⟩
theorem wd_466 : Cond.instanceMethod yX7_raise ∈ TT := List.mem_filter.mpr ⟨List.mem_of_getElem? (i := 449) (by decide +kernel), by decide +kernel⟩
theorem wd_467 : Cond.selects RX7 yX7_raise yX7_raise ∈ TT := List.mem_filter.mpr ⟨List.mem_of_getElem? (i := 9) (by decide +kernel), by decide +kernel⟩
theorem cl_X7_215 : CVok RX7 215 kX7_raise := ⟨wd_465, wd_466, wd_467⟩
theorem wd_468 : Cond.methodLink RX7 218 yX0_setStage ∈ TT := List.mem_filter.mpr ⟨List.mem_of_getElem? (i := 426) (by decide +kernel), by decide +kernel⟩
theorem wd_469 : Cond.instanceMethod yX0_setStage ∈ TT := List.mem_filter.mpr ⟨List.mem_of_getElem? (i := 427) (by decide +kernel), by decide +kernel⟩
theorem wd_470 : Cond.selects RX0 yX0_setStage yX0_setStage ∈ TT := List.mem_filter.mpr ⟨List.mem_of_getElem? (i := 428) (by decide +kernel), by decide +kernel⟩
theorem cl_X7_218 : CVok RX7 218 kX0_setStage := ⟨wd_468, wd_469, wd_470⟩
theorem wd_471 : Cond.methodLink RX7 221 yJ9_max_7cf53 ∈ TT := List.mem_filter.mpr ⟨List.mem_of_getElem? (i := 384) (by decide +kernel), by decide +kernel⟩
theorem cl_X7_221 : CSok RX7 221 kJ9_max_7cf53 := ⟨Or.inl wd_471, wd_301⟩
theorem wd_472 : Cond.methodLink RX7 227 yX0_open ∈ TT := List.mem_filter.mpr ⟨List.mem_of_getElem? (i := 385) (by decide +kernel), by decide +kernel⟩
theorem wd_473 : Cond.instanceMethod yX0_open ∈ TT := List.mem_filter.mpr ⟨List.mem_of_getElem? (i := 386) (by decide +kernel), by decide +kernel⟩
theorem wd_474 : Cond.selects RX0 yX0_open yX0_open ∈ TT := List.mem_filter.mpr ⟨List.mem_of_getElem? (i := 387) (by decide +kernel), by decide +kernel⟩
theorem cl_X7_227 : CVok RX7 227 kX0_open := ⟨wd_472, wd_473, wd_474⟩
theorem wd_475 : Cond.methodLink RX7 232 yX7_calculate ∈ TT := List.mem_filter.mpr ⟨List.mem_of_getElem? (i := 465) (by decide +kernel), by decide +kernel⟩
theorem wd_476 : Cond.instanceMethod yX7_calculate ∈ TT := List.mem_filter.mpr ⟨List.mem_of_getElem? (i := 467) (by decide +kernel), by decide +kernel⟩
theorem wd_477 : Cond.selects RX7 yX7_calculate yX7_calculate ∈ TT := List.mem_filter.mpr ⟨List.mem_of_getElem? (i := 12) (by decide +kernel), by decide +kernel⟩
theorem cl_X7_232 : CVok RX7 232 kX7_calculate := ⟨wd_475, wd_476, wd_477⟩
theorem wd_478 : Cond.methodLink RX7 235 yX7_doWithRow ∈ TT := List.mem_filter.mpr ⟨List.mem_of_getElem? (i := 473) (by decide +kernel), by decide +kernel⟩
theorem wd_479 : Cond.instanceMethod yX7_doWithRow ∈ TT := List.mem_filter.mpr ⟨List.mem_of_getElem? (i := 475) (by decide +kernel), by decide +kernel⟩
theorem wd_480 : Cond.selects RX7 yX7_doWithRow yX7_doWithRow ∈ TT := List.mem_filter.mpr ⟨List.mem_of_getElem? (i := 14) (by decide +kernel), by decide +kernel⟩
theorem cl_X7_235 : CVok RX7 235 kX7_doWithRow := ⟨wd_478, wd_479, wd_480⟩
theorem wd_481 : Cond.methodLink RX7 238 yX4_setResult ∈ TT := List.mem_filter.mpr ⟨List.mem_of_getElem? (i := 518) (by decide +kernel), by decide +kernel⟩
theorem wd_482 : Cond.instanceMethod yX4_setResult ∈ TT := List.mem_filter.mpr ⟨List.mem_of_getElem? (i := 519) (by decide +kernel), by decide +kernel⟩
theorem wd_483 : Cond.selects RX4 yX4_setResult yX4_setResult ∈ TT := List.mem_filter.mpr ⟨List.mem_of_getElem? (i := 520) (by decide +kernel), by decide +kernel⟩
theorem cl_X7_238 : CVok RX7 238 kX4_setResult := ⟨wd_481, wd_482, wd_483⟩
theorem wd_484 : Cond.methodLink RX7 241 yX7_divide ∈ TT := List.mem_filter.mpr ⟨List.mem_of_getElem? (i := 469) (by decide +kernel), by decide +kernel⟩
theorem wd_485 : Cond.instanceMethod yX7_divide ∈ TT := List.mem_filter.mpr ⟨List.mem_of_getElem? (i := 471) (by decide +kernel), by decide +kernel⟩
theorem wd_486 : Cond.selects RX7 yX7_divide yX7_divide ∈ TT := List.mem_filter.mpr ⟨List.mem_of_getElem? (i := 13) (by decide +kernel), by decide +kernel⟩
theorem cl_X7_241 : CVok RX7 241 kX7_divide := ⟨wd_484, wd_485, wd_486⟩
theorem wd_487 : Cond.methodLink RX7 244 yX7_makeRow ∈ TT := List.mem_filter.mpr ⟨List.mem_of_getElem? (i := 477) (by decide +kernel), by decide +kernel⟩
theorem wd_488 : Cond.instanceMethod yX7_makeRow ∈ TT := List.mem_filter.mpr ⟨List.mem_of_getElem? (i := 479) (by decide +kernel), by decide +kernel⟩
theorem wd_489 : Cond.selects RX7 yX7_makeRow yX7_makeRow ∈ TT := List.mem_filter.mpr ⟨List.mem_of_getElem? (i := 15) (by decide +kernel), by decide +kernel⟩
theorem cl_X7_244 : CVok RX7 244 kX7_makeRow := ⟨wd_487, wd_488, wd_489⟩
theorem wd_490 : Cond.methodLink RX7 247 yX7_reaches ∈ TT := List.mem_filter.mpr ⟨List.mem_of_getElem? (i := 488) (by decide +kernel), by decide +kernel⟩
theorem wd_491 : Cond.instanceMethod yX7_reaches ∈ TT := List.mem_filter.mpr ⟨List.mem_of_getElem? (i := 490) (by decide +kernel), by decide +kernel⟩
theorem wd_492 : Cond.selects RX7 yX7_reaches yX7_reaches ∈ TT := List.mem_filter.mpr ⟨List.mem_of_getElem? (i := 16) (by decide +kernel), by decide +kernel⟩
theorem cl_X7_247 : CVok RX7 247 kX7_reaches := ⟨wd_490, wd_491, wd_492⟩
theorem wd_493 : Cond.methodLink RX7 250 yX4_load ∈ TT := List.mem_filter.mpr ⟨List.mem_of_getElem? (i := 497) (by decide +kernel), by decide +kernel⟩
theorem cl_X7_250 : CVok RX7 250 kX4_load := ⟨wd_493, wd_309, wd_310⟩
theorem wd_494 : Cond.methodLink RX7 253 yX4_store ∈ TT := List.mem_filter.mpr ⟨List.mem_of_getElem? (i := 502) (by decide +kernel), by decide +kernel⟩
theorem wd_495 : Cond.instanceMethod yX4_store ∈ TT := List.mem_filter.mpr ⟨List.mem_of_getElem? (i := 503) (by decide +kernel), by decide +kernel⟩
theorem wd_496 : Cond.selects RX4 yX4_store yX4_store ∈ TT := List.mem_filter.mpr ⟨List.mem_of_getElem? (i := 504) (by decide +kernel), by decide +kernel⟩
theorem cl_X7_253 : CVok RX7 253 kX4_store := ⟨wd_494, wd_495, wd_496⟩
theorem wd_497 : Cond.methodLink RX7 256 yX7_measureRow ∈ TT := List.mem_filter.mpr ⟨List.mem_of_getElem? (i := 506) (by decide +kernel), by decide +kernel⟩
theorem wd_498 : Cond.instanceMethod yX7_measureRow ∈ TT := List.mem_filter.mpr ⟨List.mem_of_getElem? (i := 508) (by decide +kernel), by decide +kernel⟩
theorem wd_499 : Cond.selects RX7 yX7_measureRow yX7_measureRow ∈ TT := List.mem_filter.mpr ⟨List.mem_of_getElem? (i := 17) (by decide +kernel), by decide +kernel⟩
theorem cl_X7_256 : CVok RX7 256 kX7_measureRow := ⟨wd_497, wd_498, wd_499⟩
theorem wd_500 : Cond.methodLink RX7 259 yX4_forgetRow ∈ TT := List.mem_filter.mpr ⟨List.mem_of_getElem? (i := 510) (by decide +kernel), by decide +kernel⟩
theorem wd_501 : Cond.instanceMethod yX4_forgetRow ∈ TT := List.mem_filter.mpr ⟨List.mem_of_getElem? (i := 511) (by decide +kernel), by decide +kernel⟩
theorem wd_502 : Cond.selects RX4 yX4_forgetRow yX4_forgetRow ∈ TT := List.mem_filter.mpr ⟨List.mem_of_getElem? (i := 512) (by decide +kernel), by decide +kernel⟩
theorem cl_X7_259 : CVok RX7 259 kX4_forgetRow := ⟨wd_500, wd_501, wd_502⟩
theorem wd_503 : Cond.methodLink RX7 262 yX4_shareRow ∈ TT := List.mem_filter.mpr ⟨List.mem_of_getElem? (i := 514) (by decide +kernel), by decide +kernel⟩
theorem wd_504 : Cond.instanceMethod yX4_shareRow ∈ TT := List.mem_filter.mpr ⟨List.mem_of_getElem? (i := 515) (by decide +kernel), by decide +kernel⟩
theorem wd_505 : Cond.selects RX4 yX4_shareRow yX4_shareRow ∈ TT := List.mem_filter.mpr ⟨List.mem_of_getElem? (i := 516) (by decide +kernel), by decide +kernel⟩
theorem cl_X7_262 : CVok RX7 262 kX4_shareRow := ⟨wd_503, wd_504, wd_505⟩
theorem wd_506 : Cond.methodLink RX7 265 yX3_makingPrice ∈ TT := List.mem_filter.mpr ⟨List.mem_of_getElem? (i := 481) (by decide +kernel), by decide +kernel⟩
theorem wd_507 : Cond.static yX3_makingPrice ∈ TT := List.mem_filter.mpr ⟨List.mem_of_getElem? (i := 482) (by decide +kernel), by decide +kernel⟩
theorem cl_X7_265 : CSok RX7 265 kX3_makingPrice := ⟨Or.inl wd_506, wd_507⟩
theorem wd_508 : Cond.methodLink RX7 268 yX4_makeRow ∈ TT := List.mem_filter.mpr ⟨List.mem_of_getElem? (i := 484) (by decide +kernel), by decide +kernel⟩
theorem wd_509 : Cond.instanceMethod yX4_makeRow ∈ TT := List.mem_filter.mpr ⟨List.mem_of_getElem? (i := 485) (by decide +kernel), by decide +kernel⟩
theorem wd_510 : Cond.selects RX4 yX4_makeRow yX4_makeRow ∈ TT := List.mem_filter.mpr ⟨List.mem_of_getElem? (i := 486) (by decide +kernel), by decide +kernel⟩
theorem cl_X7_268 : CVok RX7 268 kX4_makeRow := ⟨wd_508, wd_509, wd_510⟩
theorem wd_511 : Cond.methodLink RX7 269 yX4_lengthOf ∈ TT := List.mem_filter.mpr ⟨List.mem_of_getElem? (i := 492) (by decide +kernel), by decide +kernel⟩
theorem cl_X7_269 : CVok RX7 269 kX4_lengthOf := ⟨wd_511, wd_286, wd_287⟩
theorem wd_512 : Cond.methodLinkNest RX7 272 yX9_isBelow "MarkedRuns" ∈ NN := List.mem_filter.mpr ⟨List.mem_of_getElem? (i := 496) (by decide +kernel), by decide +kernel⟩
theorem cl_X7_272 : CSok RX7 272 kX9_isBelow := ⟨Or.inr ⟨_, wd_512⟩, wd_258⟩
theorem wd_513 : Cond.methodLink RX10 86 yX10_isIn ∈ TT := List.mem_filter.mpr ⟨List.mem_of_getElem? (i := 941) (by decide +kernel), by decide +kernel⟩
theorem wd_514 : Cond.static yX10_isIn ∈ TT := List.mem_filter.mpr ⟨List.mem_of_getElem? (i := 942) (by decide +kernel), by decide +kernel⟩
theorem cl_X10_86 : CSok RX10 86 kX10_isIn := ⟨Or.inl wd_513, wd_514⟩
theorem wd_515 : Cond.methodLink RX10 90 yX10_isStatement ∈ TT := List.mem_filter.mpr ⟨List.mem_of_getElem? (i := 944) (by decide +kernel), by decide +kernel⟩
theorem wd_516 : Cond.instanceMethod yX10_isStatement ∈ TT := List.mem_filter.mpr ⟨List.mem_of_getElem? (i := 946) (by decide +kernel), by decide +kernel⟩
theorem wd_517 : Cond.selects RX10 yX10_isStatement yX10_isStatement ∈ TT := List.mem_filter.mpr ⟨List.mem_of_getElem? (i := 30) (by decide +kernel), by decide +kernel⟩
theorem cl_X10_90 : CVok RX10 90 kX10_isStatement := ⟨wd_515, wd_516, wd_517⟩
theorem wd_518 : Cond.methodLink RX10 94 yX10_highest ∈ TT := List.mem_filter.mpr ⟨List.mem_of_getElem? (i := 952) (by decide +kernel), by decide +kernel⟩
theorem wd_519 : Cond.instanceMethod yX10_highest ∈ TT := List.mem_filter.mpr ⟨List.mem_of_getElem? (i := 954) (by decide +kernel), by decide +kernel⟩
theorem wd_520 : Cond.selects RX10 yX10_highest yX10_highest ∈ TT := List.mem_filter.mpr ⟨List.mem_of_getElem? (i := 32) (by decide +kernel), by decide +kernel⟩
theorem cl_X10_94 : CVok RX10 94 kX10_highest := ⟨wd_518, wd_519, wd_520⟩
theorem wd_521 : Cond.methodLink RX10 98 yX10_isRight ∈ TT := List.mem_filter.mpr ⟨List.mem_of_getElem? (i := 937) (by decide +kernel), by decide +kernel⟩
theorem wd_522 : Cond.instanceMethod yX10_isRight ∈ TT := List.mem_filter.mpr ⟨List.mem_of_getElem? (i := 939) (by decide +kernel), by decide +kernel⟩
theorem wd_523 : Cond.selects RX10 yX10_isRight yX10_isRight ∈ TT := List.mem_filter.mpr ⟨List.mem_of_getElem? (i := 29) (by decide +kernel), by decide +kernel⟩
theorem cl_X10_98 : CVok RX10 98 kX10_isRight := ⟨wd_521, wd_522, wd_523⟩
theorem wd_524 : Cond.methodLink RX10 102 yX10_heightOf ∈ TT := List.mem_filter.mpr ⟨List.mem_of_getElem? (i := 948) (by decide +kernel), by decide +kernel⟩
theorem wd_525 : Cond.instanceMethod yX10_heightOf ∈ TT := List.mem_filter.mpr ⟨List.mem_of_getElem? (i := 950) (by decide +kernel), by decide +kernel⟩
theorem wd_526 : Cond.selects RX10 yX10_heightOf yX10_heightOf ∈ TT := List.mem_filter.mpr ⟨List.mem_of_getElem? (i := 31) (by decide +kernel), by decide +kernel⟩
theorem cl_X10_102 : CVok RX10 102 kX10_heightOf := ⟨wd_524, wd_525, wd_526⟩
theorem wd_527 : Cond.methodLink RX10 118 yX10_comes ∈ TT := List.mem_filter.mpr ⟨List.mem_of_getElem? (i := 1000) (by decide +kernel), by decide +kernel⟩
theorem wd_528 : Cond.instanceMethod yX10_comes ∈ TT := List.mem_filter.mpr ⟨List.mem_of_getElem? (i := 1002) (by decide +kernel), by decide +kernel⟩
theorem wd_529 : Cond.selects RX10 yX10_comes yX10_comes ∈ TT := List.mem_filter.mpr ⟨List.mem_of_getElem? (i := 41) (by decide +kernel), by decide +kernel⟩
theorem cl_X10_118 : CVok RX10 118 kX10_comes := ⟨wd_527, wd_528, wd_529⟩
theorem wd_530 : Cond.methodLink RX10 131 yX10_endReserve ∈ TT := List.mem_filter.mpr ⟨List.mem_of_getElem? (i := 984) (by decide +kernel), by decide +kernel⟩
theorem wd_531 : Cond.instanceMethod yX10_endReserve ∈ TT := List.mem_filter.mpr ⟨List.mem_of_getElem? (i := 986) (by decide +kernel), by decide +kernel⟩
theorem wd_532 : Cond.selects RX10 yX10_endReserve yX10_endReserve ∈ TT := List.mem_filter.mpr ⟨List.mem_of_getElem? (i := 37) (by decide +kernel), by decide +kernel⟩
theorem cl_X10_131 : CVok RX10 131 kX10_endReserve := ⟨wd_530, wd_531, wd_532⟩
theorem wd_533 : Cond.methodLink RX10 140 yX10_leave ∈ TT := List.mem_filter.mpr ⟨List.mem_of_getElem? (i := 988) (by decide +kernel), by decide +kernel⟩
theorem wd_534 : Cond.instanceMethod yX10_leave ∈ TT := List.mem_filter.mpr ⟨List.mem_of_getElem? (i := 990) (by decide +kernel), by decide +kernel⟩
theorem wd_535 : Cond.selects RX10 yX10_leave yX10_leave ∈ TT := List.mem_filter.mpr ⟨List.mem_of_getElem? (i := 38) (by decide +kernel), by decide +kernel⟩
theorem cl_X10_140 : CVok RX10 140 kX10_leave := ⟨wd_533, wd_534, wd_535⟩
theorem wd_536 : Cond.methodLink RX10 149 yX10_throwing ∈ TT := List.mem_filter.mpr ⟨List.mem_of_getElem? (i := 1008) (by decide +kernel), by decide +kernel⟩
theorem wd_537 : Cond.instanceMethod yX10_throwing ∈ TT := List.mem_filter.mpr ⟨List.mem_of_getElem? (i := 1010) (by decide +kernel), by decide +kernel⟩
theorem wd_538 : Cond.selects RX10 yX10_throwing yX10_throwing ∈ TT := List.mem_filter.mpr ⟨List.mem_of_getElem? (i := 43) (by decide +kernel), by decide +kernel⟩
theorem cl_X10_149 : CVok RX10 149 kX10_throwing := ⟨wd_536, wd_537, wd_538⟩
theorem wd_539 : Cond.methodLink RX10 153 yX10_pays ∈ TT := List.mem_filter.mpr ⟨List.mem_of_getElem? (i := 980) (by decide +kernel), by decide +kernel⟩
theorem wd_540 : Cond.instanceMethod yX10_pays ∈ TT := List.mem_filter.mpr ⟨List.mem_of_getElem? (i := 982) (by decide +kernel), by decide +kernel⟩
theorem wd_541 : Cond.selects RX10 yX10_pays yX10_pays ∈ TT := List.mem_filter.mpr ⟨List.mem_of_getElem? (i := 36) (by decide +kernel), by decide +kernel⟩
theorem cl_X10_153 : CVok RX10 153 kX10_pays := ⟨wd_539, wd_540, wd_541⟩
theorem wd_542 : Cond.methodLink RX10 162 yX10_making ∈ TT := List.mem_filter.mpr ⟨List.mem_of_getElem? (i := 1024) (by decide +kernel), by decide +kernel⟩
theorem wd_543 : Cond.instanceMethod yX10_making ∈ TT := List.mem_filter.mpr ⟨List.mem_of_getElem? (i := 1026) (by decide +kernel), by decide +kernel⟩
theorem wd_544 : Cond.selects RX10 yX10_making yX10_making ∈ TT := List.mem_filter.mpr ⟨List.mem_of_getElem? (i := 47) (by decide +kernel), by decide +kernel⟩
theorem cl_X10_162 : CVok RX10 162 kX10_making := ⟨wd_542, wd_543, wd_544⟩
theorem wd_545 : Cond.methodLink RX10 165 yX10_has ∈ TT := List.mem_filter.mpr ⟨List.mem_of_getElem? (i := 1028) (by decide +kernel), by decide +kernel⟩
theorem wd_546 : Cond.instanceMethod yX10_has ∈ TT := List.mem_filter.mpr ⟨List.mem_of_getElem? (i := 1030) (by decide +kernel), by decide +kernel⟩
theorem wd_547 : Cond.selects RX10 yX10_has yX10_has ∈ TT := List.mem_filter.mpr ⟨List.mem_of_getElem? (i := 48) (by decide +kernel), by decide +kernel⟩
theorem cl_X10_165 : CVok RX10 165 kX10_has := ⟨wd_545, wd_546, wd_547⟩
theorem wd_548 : Cond.methodLink RX10 171 yX10_reckon ∈ TT := List.mem_filter.mpr ⟨List.mem_of_getElem? (i := 1032) (by decide +kernel), by decide +kernel⟩
theorem wd_549 : Cond.instanceMethod yX10_reckon ∈ TT := List.mem_filter.mpr ⟨List.mem_of_getElem? (i := 1034) (by decide +kernel), by decide +kernel⟩
theorem wd_550 : Cond.selects RX10 yX10_reckon yX10_reckon ∈ TT := List.mem_filter.mpr ⟨List.mem_of_getElem? (i := 49) (by decide +kernel), by decide +kernel⟩
theorem cl_X10_171 : CVok RX10 171 kX10_reckon := ⟨wd_548, wd_549, wd_550⟩
theorem wd_551 : Cond.methodLink RX10 174 yX10_enter ∈ TT := List.mem_filter.mpr ⟨List.mem_of_getElem? (i := 1012) (by decide +kernel), by decide +kernel⟩
theorem wd_552 : Cond.instanceMethod yX10_enter ∈ TT := List.mem_filter.mpr ⟨List.mem_of_getElem? (i := 1014) (by decide +kernel), by decide +kernel⟩
theorem wd_553 : Cond.selects RX10 yX10_enter yX10_enter ∈ TT := List.mem_filter.mpr ⟨List.mem_of_getElem? (i := 44) (by decide +kernel), by decide +kernel⟩
theorem cl_X10_174 : CVok RX10 174 kX10_enter := ⟨wd_551, wd_552, wd_553⟩
theorem wd_554 : Cond.methodLink RX10 180 yX10_push ∈ TT := List.mem_filter.mpr ⟨List.mem_of_getElem? (i := 992) (by decide +kernel), by decide +kernel⟩
theorem wd_555 : Cond.instanceMethod yX10_push ∈ TT := List.mem_filter.mpr ⟨List.mem_of_getElem? (i := 994) (by decide +kernel), by decide +kernel⟩
theorem wd_556 : Cond.selects RX10 yX10_push yX10_push ∈ TT := List.mem_filter.mpr ⟨List.mem_of_getElem? (i := 39) (by decide +kernel), by decide +kernel⟩
theorem cl_X10_180 : CVok RX10 180 kX10_push := ⟨wd_554, wd_555, wd_556⟩
theorem wd_557 : Cond.methodLink RX10 186 yX10_calls ∈ TT := List.mem_filter.mpr ⟨List.mem_of_getElem? (i := 1004) (by decide +kernel), by decide +kernel⟩
theorem wd_558 : Cond.instanceMethod yX10_calls ∈ TT := List.mem_filter.mpr ⟨List.mem_of_getElem? (i := 1006) (by decide +kernel), by decide +kernel⟩
theorem wd_559 : Cond.selects RX10 yX10_calls yX10_calls ∈ TT := List.mem_filter.mpr ⟨List.mem_of_getElem? (i := 42) (by decide +kernel), by decide +kernel⟩
theorem cl_X10_186 : CVok RX10 186 kX10_calls := ⟨wd_557, wd_558, wd_559⟩
theorem wd_560 : Cond.methodLink RX10 189 yX10_locks ∈ TT := List.mem_filter.mpr ⟨List.mem_of_getElem? (i := 1016) (by decide +kernel), by decide +kernel⟩
theorem wd_561 : Cond.instanceMethod yX10_locks ∈ TT := List.mem_filter.mpr ⟨List.mem_of_getElem? (i := 1018) (by decide +kernel), by decide +kernel⟩
theorem wd_562 : Cond.selects RX10 yX10_locks yX10_locks ∈ TT := List.mem_filter.mpr ⟨List.mem_of_getElem? (i := 45) (by decide +kernel), by decide +kernel⟩
theorem cl_X10_189 : CVok RX10 189 kX10_locks := ⟨wd_560, wd_561, wd_562⟩
theorem wd_563 : Cond.methodLink RX10 192 yX10_simple ∈ TT := List.mem_filter.mpr ⟨List.mem_of_getElem? (i := 1020) (by decide +kernel), by decide +kernel⟩
theorem wd_564 : Cond.instanceMethod yX10_simple ∈ TT := List.mem_filter.mpr ⟨List.mem_of_getElem? (i := 1022) (by decide +kernel), by decide +kernel⟩
theorem wd_565 : Cond.selects RX10 yX10_simple yX10_simple ∈ TT := List.mem_filter.mpr ⟨List.mem_of_getElem? (i := 46) (by decide +kernel), by decide +kernel⟩
theorem cl_X10_192 : CVok RX10 192 kX10_simple := ⟨wd_563, wd_564, wd_565⟩
theorem wd_566 : Cond.methodLink RX10 195 yX10_note ∈ TT := List.mem_filter.mpr ⟨List.mem_of_getElem? (i := 1048) (by decide +kernel), by decide +kernel⟩
theorem wd_567 : Cond.instanceMethod yX10_note ∈ TT := List.mem_filter.mpr ⟨List.mem_of_getElem? (i := 1050) (by decide +kernel), by decide +kernel⟩
theorem wd_568 : Cond.selects RX10 yX10_note yX10_note ∈ TT := List.mem_filter.mpr ⟨List.mem_of_getElem? (i := 53) (by decide +kernel), by decide +kernel⟩
theorem cl_X10_195 : CVok RX10 195 kX10_note := ⟨wd_566, wd_567, wd_568⟩
theorem wd_569 : Cond.methodLink RX10 198 yX10_second ∈ TT := List.mem_filter.mpr ⟨List.mem_of_getElem? (i := 1040) (by decide +kernel), by decide +kernel⟩
theorem wd_570 : Cond.instanceMethod yX10_second ∈ TT := List.mem_filter.mpr ⟨List.mem_of_getElem? (i := 1042) (by decide +kernel), by decide +kernel⟩
theorem wd_571 : Cond.selects RX10 yX10_second yX10_second ∈ TT := List.mem_filter.mpr ⟨List.mem_of_getElem? (i := 51) (by decide +kernel), by decide +kernel⟩
theorem cl_X10_198 : CVok RX10 198 kX10_second := ⟨wd_569, wd_570, wd_571⟩
theorem wd_572 : Cond.methodLink RX10 201 yX10_handles ∈ TT := List.mem_filter.mpr ⟨List.mem_of_getElem? (i := 1044) (by decide +kernel), by decide +kernel⟩
theorem wd_573 : Cond.instanceMethod yX10_handles ∈ TT := List.mem_filter.mpr ⟨List.mem_of_getElem? (i := 1046) (by decide +kernel), by decide +kernel⟩
theorem wd_574 : Cond.selects RX10 yX10_handles yX10_handles ∈ TT := List.mem_filter.mpr ⟨List.mem_of_getElem? (i := 52) (by decide +kernel), by decide +kernel⟩
theorem cl_X10_201 : CVok RX10 201 kX10_handles := ⟨wd_572, wd_573, wd_574⟩
theorem wd_575 : Cond.methodLink RX10 204 yX10_finalOf ∈ TT := List.mem_filter.mpr ⟨List.mem_of_getElem? (i := 1052) (by decide +kernel), by decide +kernel⟩
theorem wd_576 : Cond.instanceMethod yX10_finalOf ∈ TT := List.mem_filter.mpr ⟨List.mem_of_getElem? (i := 1054) (by decide +kernel), by decide +kernel⟩
theorem wd_577 : Cond.selects RX10 yX10_finalOf yX10_finalOf ∈ TT := List.mem_filter.mpr ⟨List.mem_of_getElem? (i := 54) (by decide +kernel), by decide +kernel⟩
theorem cl_X10_204 : CVok RX10 204 kX10_finalOf := ⟨wd_575, wd_576, wd_577⟩
theorem wd_578 : Cond.methodLink RX10 207 yX10_lastDone ∈ TT := List.mem_filter.mpr ⟨List.mem_of_getElem? (i := 1056) (by decide +kernel), by decide +kernel⟩
theorem wd_579 : Cond.instanceMethod yX10_lastDone ∈ TT := List.mem_filter.mpr ⟨List.mem_of_getElem? (i := 1058) (by decide +kernel), by decide +kernel⟩
theorem wd_580 : Cond.selects RX10 yX10_lastDone yX10_lastDone ∈ TT := List.mem_filter.mpr ⟨List.mem_of_getElem? (i := 55) (by decide +kernel), by decide +kernel⟩
theorem cl_X10_207 : CVok RX10 207 kX10_lastDone := ⟨wd_578, wd_579, wd_580⟩
theorem wd_581 : Cond.methodLink RX10 210 yX10_reset ∈ TT := List.mem_filter.mpr ⟨List.mem_of_getElem? (i := 976) (by decide +kernel), by decide +kernel⟩
theorem wd_582 : Cond.instanceMethod yX10_reset ∈ TT := List.mem_filter.mpr ⟨List.mem_of_getElem? (i := 978) (by decide +kernel), by decide +kernel⟩
theorem wd_583 : Cond.selects RX10 yX10_reset yX10_reset ∈ TT := List.mem_filter.mpr ⟨List.mem_of_getElem? (i := 35) (by decide +kernel), by decide +kernel⟩
theorem cl_X10_210 : CVok RX10 210 kX10_reset := ⟨wd_581, wd_582, wd_583⟩
theorem wd_584 : Cond.methodLink RX10 213 yX10_begin ∈ TT := List.mem_filter.mpr ⟨List.mem_of_getElem? (i := 996) (by decide +kernel), by decide +kernel⟩
theorem wd_585 : Cond.instanceMethod yX10_begin ∈ TT := List.mem_filter.mpr ⟨List.mem_of_getElem? (i := 998) (by decide +kernel), by decide +kernel⟩
theorem wd_586 : Cond.selects RX10 yX10_begin yX10_begin ∈ TT := List.mem_filter.mpr ⟨List.mem_of_getElem? (i := 40) (by decide +kernel), by decide +kernel⟩
theorem cl_X10_213 : CVok RX10 213 kX10_begin := ⟨wd_584, wd_585, wd_586⟩
theorem wd_587 : Cond.methodLink RX10 216 yX10_tell ∈ TT := List.mem_filter.mpr ⟨List.mem_of_getElem? (i := 1036) (by decide +kernel), by decide +kernel⟩
theorem wd_588 : Cond.instanceMethod yX10_tell ∈ TT := List.mem_filter.mpr ⟨List.mem_of_getElem? (i := 1038) (by decide +kernel), by decide +kernel⟩
theorem wd_589 : Cond.selects RX10 yX10_tell yX10_tell ∈ TT := List.mem_filter.mpr ⟨List.mem_of_getElem? (i := 50) (by decide +kernel), by decide +kernel⟩
theorem cl_X10_216 : CVok RX10 216 kX10_tell := ⟨wd_587, wd_588, wd_589⟩
theorem wd_590 : Cond.methodLink RX10 219 yX10_isRun ∈ TT := List.mem_filter.mpr ⟨List.mem_of_getElem? (i := 968) (by decide +kernel), by decide +kernel⟩
theorem wd_591 : Cond.instanceMethod yX10_isRun ∈ TT := List.mem_filter.mpr ⟨List.mem_of_getElem? (i := 970) (by decide +kernel), by decide +kernel⟩
theorem wd_592 : Cond.selects RX10 yX10_isRun yX10_isRun ∈ TT := List.mem_filter.mpr ⟨List.mem_of_getElem? (i := 33) (by decide +kernel), by decide +kernel⟩
theorem cl_X10_219 : CVok RX10 219 kX10_isRun := ⟨wd_590, wd_591, wd_592⟩
theorem wd_593 : Cond.methodLink RX10 222 yX10_runs ∈ TT := List.mem_filter.mpr ⟨List.mem_of_getElem? (i := 972) (by decide +kernel), by decide +kernel⟩
theorem wd_594 : Cond.instanceMethod yX10_runs ∈ TT := List.mem_filter.mpr ⟨List.mem_of_getElem? (i := 974) (by decide +kernel), by decide +kernel⟩
theorem wd_595 : Cond.selects RX10 yX10_runs yX10_runs ∈ TT := List.mem_filter.mpr ⟨List.mem_of_getElem? (i := 34) (by decide +kernel), by decide +kernel⟩
theorem cl_X10_222 : CVok RX10 222 kX10_runs := ⟨wd_593, wd_594, wd_595⟩
theorem wd_596 : Cond.methodLink RX10 225 yX10_fail ∈ TT := List.mem_filter.mpr ⟨List.mem_of_getElem? (i := 1084) (by decide +kernel), by decide +kernel⟩
theorem wd_597 : Cond.instanceMethod yX10_fail ∈ TT := List.mem_filter.mpr ⟨List.mem_of_getElem? (i := 1086) (by decide +kernel), by decide +kernel⟩
theorem wd_598 : Cond.selects RX10 yX10_fail yX10_fail ∈ TT := List.mem_filter.mpr ⟨List.mem_of_getElem? (i := 56) (by decide +kernel), by decide +kernel⟩
theorem cl_X10_225 : CVok RX10 225 kX10_fail := ⟨wd_596, wd_597, wd_598⟩
theorem wd_599 : Cond.methodLink RX10 229 yX10_size ∈ TT := List.mem_filter.mpr ⟨List.mem_of_getElem? (i := 1092) (by decide +kernel), by decide +kernel⟩
theorem wd_600 : Cond.instanceMethod yX10_size ∈ TT := List.mem_filter.mpr ⟨List.mem_of_getElem? (i := 1077) (by decide +kernel), by decide +kernel⟩
theorem wd_601 : Cond.selects RX10 yX10_size yX10_size ∈ TT := List.mem_filter.mpr ⟨List.mem_of_getElem? (i := 1078) (by decide +kernel), by decide +kernel⟩
theorem cl_X10_229 : CVok RX10 229 kX10_size := ⟨wd_599, wd_600, wd_601⟩
theorem wd_602 : Cond.methodLink RX10 232 yX10_item ∈ TT := List.mem_filter.mpr ⟨List.mem_of_getElem? (i := 1093) (by decide +kernel), by decide +kernel⟩
theorem wd_603 : Cond.instanceMethod yX10_item ∈ TT := List.mem_filter.mpr ⟨List.mem_of_getElem? (i := 1081) (by decide +kernel), by decide +kernel⟩
theorem wd_604 : Cond.selects RX10 yX10_item yX10_item ∈ TT := List.mem_filter.mpr ⟨List.mem_of_getElem? (i := 1082) (by decide +kernel), by decide +kernel⟩
theorem cl_X10_232 : CVok RX10 232 kX10_item := ⟨wd_602, wd_603, wd_604⟩
theorem wd_605 : Cond.constant RX7 64 1000000000 ∈ TT := List.mem_filter.mpr ⟨List.mem_of_getElem? (i := 389) (by decide +kernel), by decide +kernel⟩
theorem cn_X7_64 : Cond.constant RX7 64 1000000000 ∈ TT := wd_605
end
section
theorem dX0_clear_0 : decode cX0_clear 0 = .ok (.aload_n 0, 1) := by decide +kernel
theorem dX0_clear_1 : decode cX0_clear 1 = .ok (.iconst 0, 1) := by decide +kernel
theorem dX0_clear_2 : decode cX0_clear 2 = .ok (.putfield 27, 3) := by decide +kernel
theorem dX0_clear_5 : decode cX0_clear 5 = .ok (.return_, 1) := by decide +kernel
theorem dX0_isEmpty_0 : decode cX0_isEmpty 0 = .ok (.aload_n 0, 1) := by decide +kernel
theorem dX0_isEmpty_1 : decode cX0_isEmpty 1 = .ok (.getfield 27, 3) := by decide +kernel
theorem dX0_isEmpty_4 : decode cX0_isEmpty 4 = .ok (.ifCond .ne 7, 3) := by decide +kernel
theorem dX0_isEmpty_7 : decode cX0_isEmpty 7 = .ok (.iconst 1, 1) := by decide +kernel
theorem dX0_isEmpty_8 : decode cX0_isEmpty 8 = .ok (.goto 4, 3) := by decide +kernel
theorem dX0_isEmpty_11 : decode cX0_isEmpty 11 = .ok (.iconst 0, 1) := by decide +kernel
theorem dX0_isEmpty_12 : decode cX0_isEmpty 12 = .ok (.ireturn, 1) := by decide +kernel
theorem dX0_open_0 : decode cX0_open 0 = .ok (.aload_n 0, 1) := by decide +kernel
theorem dX0_open_1 : decode cX0_open 1 = .ok (.getfield 27, 3) := by decide +kernel
theorem dX0_open_4 : decode cX0_open 4 = .ok (.sipush 128, 3) := by decide +kernel
theorem dX0_open_7 : decode cX0_open 7 = .ok (.if_icmp .ge 33, 3) := by decide +kernel
theorem dX0_open_10 : decode cX0_open 10 = .ok (.aload_n 0, 1) := by decide +kernel
theorem dX0_open_11 : decode cX0_open 11 = .ok (.getfield 11, 3) := by decide +kernel
theorem dX0_open_14 : decode cX0_open 14 = .ok (.aload_n 0, 1) := by decide +kernel
theorem dX0_open_15 : decode cX0_open 15 = .ok (.getfield 27, 3) := by decide +kernel
theorem dX0_open_18 : decode cX0_open 18 = .ok (.iload_n 1, 1) := by decide +kernel
theorem dX0_open_19 : decode cX0_open 19 = .ok (.iastore, 1) := by decide +kernel
theorem dX0_open_20 : decode cX0_open 20 = .ok (.aload_n 0, 1) := by decide +kernel
theorem dX0_open_21 : decode cX0_open 21 = .ok (.getfield 15, 3) := by decide +kernel
theorem dX0_open_24 : decode cX0_open 24 = .ok (.aload_n 0, 1) := by decide +kernel
theorem dX0_open_25 : decode cX0_open 25 = .ok (.getfield 27, 3) := by decide +kernel
theorem dX0_open_28 : decode cX0_open 28 = .ok (.iconst 0, 1) := by decide +kernel
theorem dX0_open_29 : decode cX0_open 29 = .ok (.iastore, 1) := by decide +kernel
theorem dX0_open_30 : decode cX0_open 30 = .ok (.aload_n 0, 1) := by decide +kernel
theorem dX0_open_31 : decode cX0_open 31 = .ok (.dup, 1) := by decide +kernel
theorem dX0_open_32 : decode cX0_open 32 = .ok (.getfield 27, 3) := by decide +kernel
theorem dX0_open_35 : decode cX0_open 35 = .ok (.iconst 1, 1) := by decide +kernel
theorem dX0_open_36 : decode cX0_open 36 = .ok (.iadd, 1) := by decide +kernel
theorem dX0_open_37 : decode cX0_open 37 = .ok (.putfield 27, 3) := by decide +kernel
theorem dX0_open_40 : decode cX0_open 40 = .ok (.return_, 1) := by decide +kernel
theorem dX0_close_0 : decode cX0_close 0 = .ok (.aload_n 0, 1) := by decide +kernel
theorem dX0_close_1 : decode cX0_close 1 = .ok (.getfield 27, 3) := by decide +kernel
theorem dX0_close_4 : decode cX0_close 4 = .ok (.ifCond .le 13, 3) := by decide +kernel
theorem dX0_close_7 : decode cX0_close 7 = .ok (.aload_n 0, 1) := by decide +kernel
theorem dX0_close_8 : decode cX0_close 8 = .ok (.dup, 1) := by decide +kernel
theorem dX0_close_9 : decode cX0_close 9 = .ok (.getfield 27, 3) := by decide +kernel
theorem dX0_close_12 : decode cX0_close 12 = .ok (.iconst 1, 1) := by decide +kernel
theorem dX0_close_13 : decode cX0_close 13 = .ok (.isub, 1) := by decide +kernel
theorem dX0_close_14 : decode cX0_close 14 = .ok (.putfield 27, 3) := by decide +kernel
theorem dX0_close_17 : decode cX0_close 17 = .ok (.return_, 1) := by decide +kernel
theorem dX0_statement_0 : decode cX0_statement 0 = .ok (.aload_n 0, 1) := by decide +kernel
theorem dX0_statement_1 : decode cX0_statement 1 = .ok (.getfield 27, 3) := by decide +kernel
theorem dX0_statement_4 : decode cX0_statement 4 = .ok (.ifCond .le 17, 3) := by decide +kernel
theorem dX0_statement_7 : decode cX0_statement 7 = .ok (.aload_n 0, 1) := by decide +kernel
theorem dX0_statement_8 : decode cX0_statement 8 = .ok (.getfield 11, 3) := by decide +kernel
theorem dX0_statement_11 : decode cX0_statement 11 = .ok (.aload_n 0, 1) := by decide +kernel
theorem dX0_statement_12 : decode cX0_statement 12 = .ok (.getfield 27, 3) := by decide +kernel
theorem dX0_statement_15 : decode cX0_statement 15 = .ok (.iconst 1, 1) := by decide +kernel
theorem dX0_statement_16 : decode cX0_statement 16 = .ok (.isub, 1) := by decide +kernel
theorem dX0_statement_17 : decode cX0_statement 17 = .ok (.iaload, 1) := by decide +kernel
theorem dX0_statement_18 : decode cX0_statement 18 = .ok (.goto 4, 3) := by decide +kernel
theorem dX0_statement_21 : decode cX0_statement 21 = .ok (.iconst (-1), 1) := by decide +kernel
theorem dX0_statement_22 : decode cX0_statement 22 = .ok (.ireturn, 1) := by decide +kernel
theorem dX0_stage_0 : decode cX0_stage 0 = .ok (.aload_n 0, 1) := by decide +kernel
theorem dX0_stage_1 : decode cX0_stage 1 = .ok (.getfield 27, 3) := by decide +kernel
theorem dX0_stage_4 : decode cX0_stage 4 = .ok (.ifCond .le 17, 3) := by decide +kernel
theorem dX0_stage_7 : decode cX0_stage 7 = .ok (.aload_n 0, 1) := by decide +kernel
theorem dX0_stage_8 : decode cX0_stage 8 = .ok (.getfield 15, 3) := by decide +kernel
theorem dX0_stage_11 : decode cX0_stage 11 = .ok (.aload_n 0, 1) := by decide +kernel
theorem dX0_stage_12 : decode cX0_stage 12 = .ok (.getfield 27, 3) := by decide +kernel
theorem dX0_stage_15 : decode cX0_stage 15 = .ok (.iconst 1, 1) := by decide +kernel
theorem dX0_stage_16 : decode cX0_stage 16 = .ok (.isub, 1) := by decide +kernel
theorem dX0_stage_17 : decode cX0_stage 17 = .ok (.iaload, 1) := by decide +kernel
theorem dX0_stage_18 : decode cX0_stage 18 = .ok (.goto 4, 3) := by decide +kernel
theorem dX0_stage_21 : decode cX0_stage 21 = .ok (.iconst 0, 1) := by decide +kernel
theorem dX0_stage_22 : decode cX0_stage 22 = .ok (.ireturn, 1) := by decide +kernel
theorem dX0_setStage_0 : decode cX0_setStage 0 = .ok (.aload_n 0, 1) := by decide +kernel
theorem dX0_setStage_1 : decode cX0_setStage 1 = .ok (.getfield 27, 3) := by decide +kernel
theorem dX0_setStage_4 : decode cX0_setStage 4 = .ok (.ifCond .le 15, 3) := by decide +kernel
theorem dX0_setStage_7 : decode cX0_setStage 7 = .ok (.aload_n 0, 1) := by decide +kernel
theorem dX0_setStage_8 : decode cX0_setStage 8 = .ok (.getfield 15, 3) := by decide +kernel
theorem dX0_setStage_11 : decode cX0_setStage 11 = .ok (.aload_n 0, 1) := by decide +kernel
theorem dX0_setStage_12 : decode cX0_setStage 12 = .ok (.getfield 27, 3) := by decide +kernel
theorem dX0_setStage_15 : decode cX0_setStage 15 = .ok (.iconst 1, 1) := by decide +kernel
theorem dX0_setStage_16 : decode cX0_setStage 16 = .ok (.isub, 1) := by decide +kernel
theorem dX0_setStage_17 : decode cX0_setStage 17 = .ok (.iload_n 1, 1) := by decide +kernel
theorem dX0_setStage_18 : decode cX0_setStage 18 = .ok (.iastore, 1) := by decide +kernel
theorem dX0_setStage_19 : decode cX0_setStage 19 = .ok (.return_, 1) := by decide +kernel
theorem dX0_keep_0 : decode cX0_keep 0 = .ok (.aload_n 0, 1) := by decide +kernel
theorem dX0_keep_1 : decode cX0_keep 1 = .ok (.getfield 27, 3) := by decide +kernel
theorem dX0_keep_4 : decode cX0_keep 4 = .ok (.ifCond .le 39, 3) := by decide +kernel
theorem dX0_keep_7 : decode cX0_keep 7 = .ok (.aload_n 0, 1) := by decide +kernel
theorem dX0_keep_8 : decode cX0_keep 8 = .ok (.getfield 18, 3) := by decide +kernel
theorem dX0_keep_11 : decode cX0_keep 11 = .ok (.aload_n 0, 1) := by decide +kernel
theorem dX0_keep_12 : decode cX0_keep 12 = .ok (.getfield 27, 3) := by decide +kernel
theorem dX0_keep_15 : decode cX0_keep 15 = .ok (.iconst 1, 1) := by decide +kernel
theorem dX0_keep_16 : decode cX0_keep 16 = .ok (.isub, 1) := by decide +kernel
theorem dX0_keep_17 : decode cX0_keep 17 = .ok (.iload_n 1, 1) := by decide +kernel
theorem dX0_keep_18 : decode cX0_keep 18 = .ok (.iastore, 1) := by decide +kernel
theorem dX0_keep_19 : decode cX0_keep 19 = .ok (.aload_n 0, 1) := by decide +kernel
theorem dX0_keep_20 : decode cX0_keep 20 = .ok (.getfield 21, 3) := by decide +kernel
theorem dX0_keep_23 : decode cX0_keep 23 = .ok (.aload_n 0, 1) := by decide +kernel
theorem dX0_keep_24 : decode cX0_keep 24 = .ok (.getfield 27, 3) := by decide +kernel
theorem dX0_keep_27 : decode cX0_keep 27 = .ok (.iconst 1, 1) := by decide +kernel
theorem dX0_keep_28 : decode cX0_keep 28 = .ok (.isub, 1) := by decide +kernel
theorem dX0_keep_29 : decode cX0_keep 29 = .ok (.iload_n 2, 1) := by decide +kernel
theorem dX0_keep_30 : decode cX0_keep 30 = .ok (.iastore, 1) := by decide +kernel
theorem dX0_keep_31 : decode cX0_keep 31 = .ok (.aload_n 0, 1) := by decide +kernel
theorem dX0_keep_32 : decode cX0_keep 32 = .ok (.getfield 24, 3) := by decide +kernel
theorem dX0_keep_35 : decode cX0_keep 35 = .ok (.aload_n 0, 1) := by decide +kernel
theorem dX0_keep_36 : decode cX0_keep 36 = .ok (.getfield 27, 3) := by decide +kernel
theorem dX0_keep_39 : decode cX0_keep 39 = .ok (.iconst 1, 1) := by decide +kernel
theorem dX0_keep_40 : decode cX0_keep 40 = .ok (.isub, 1) := by decide +kernel
theorem dX0_keep_41 : decode cX0_keep 41 = .ok (.iload_n 3, 1) := by decide +kernel
theorem dX0_keep_42 : decode cX0_keep 42 = .ok (.iastore, 1) := by decide +kernel
theorem dX0_keep_43 : decode cX0_keep 43 = .ok (.return_, 1) := by decide +kernel
theorem dX0_keptEnding_0 : decode cX0_keptEnding 0 = .ok (.aload_n 0, 1) := by decide +kernel
theorem dX0_keptEnding_1 : decode cX0_keptEnding 1 = .ok (.getfield 27, 3) := by decide +kernel
theorem dX0_keptEnding_4 : decode cX0_keptEnding 4 = .ok (.ifCond .le 17, 3) := by decide +kernel
theorem dX0_keptEnding_7 : decode cX0_keptEnding 7 = .ok (.aload_n 0, 1) := by decide +kernel
theorem dX0_keptEnding_8 : decode cX0_keptEnding 8 = .ok (.getfield 18, 3) := by decide +kernel
theorem dX0_keptEnding_11 : decode cX0_keptEnding 11 = .ok (.aload_n 0, 1) := by decide +kernel
theorem dX0_keptEnding_12 : decode cX0_keptEnding 12 = .ok (.getfield 27, 3) := by decide +kernel
theorem dX0_keptEnding_15 : decode cX0_keptEnding 15 = .ok (.iconst 1, 1) := by decide +kernel
theorem dX0_keptEnding_16 : decode cX0_keptEnding 16 = .ok (.isub, 1) := by decide +kernel
theorem dX0_keptEnding_17 : decode cX0_keptEnding 17 = .ok (.iaload, 1) := by decide +kernel
theorem dX0_keptEnding_18 : decode cX0_keptEnding 18 = .ok (.goto 4, 3) := by decide +kernel
theorem dX0_keptEnding_21 : decode cX0_keptEnding 21 = .ok (.iconst 0, 1) := by decide +kernel
theorem dX0_keptEnding_22 : decode cX0_keptEnding 22 = .ok (.ireturn, 1) := by decide +kernel
theorem dX0_keptKind_0 : decode cX0_keptKind 0 = .ok (.aload_n 0, 1) := by decide +kernel
theorem dX0_keptKind_1 : decode cX0_keptKind 1 = .ok (.getfield 27, 3) := by decide +kernel
theorem dX0_keptKind_4 : decode cX0_keptKind 4 = .ok (.ifCond .le 17, 3) := by decide +kernel
theorem dX0_keptKind_7 : decode cX0_keptKind 7 = .ok (.aload_n 0, 1) := by decide +kernel
theorem dX0_keptKind_8 : decode cX0_keptKind 8 = .ok (.getfield 21, 3) := by decide +kernel
theorem dX0_keptKind_11 : decode cX0_keptKind 11 = .ok (.aload_n 0, 1) := by decide +kernel
theorem dX0_keptKind_12 : decode cX0_keptKind 12 = .ok (.getfield 27, 3) := by decide +kernel
theorem dX0_keptKind_15 : decode cX0_keptKind 15 = .ok (.iconst 1, 1) := by decide +kernel
theorem dX0_keptKind_16 : decode cX0_keptKind 16 = .ok (.isub, 1) := by decide +kernel
theorem dX0_keptKind_17 : decode cX0_keptKind 17 = .ok (.iaload, 1) := by decide +kernel
theorem dX0_keptKind_18 : decode cX0_keptKind 18 = .ok (.goto 4, 3) := by decide +kernel
theorem dX0_keptKind_21 : decode cX0_keptKind 21 = .ok (.iconst 0, 1) := by decide +kernel
theorem dX0_keptKind_22 : decode cX0_keptKind 22 = .ok (.ireturn, 1) := by decide +kernel
theorem dX0_keptNumber_0 : decode cX0_keptNumber 0 = .ok (.aload_n 0, 1) := by decide +kernel
theorem dX0_keptNumber_1 : decode cX0_keptNumber 1 = .ok (.getfield 27, 3) := by decide +kernel
theorem dX0_keptNumber_4 : decode cX0_keptNumber 4 = .ok (.ifCond .le 17, 3) := by decide +kernel
theorem dX0_keptNumber_7 : decode cX0_keptNumber 7 = .ok (.aload_n 0, 1) := by decide +kernel
theorem dX0_keptNumber_8 : decode cX0_keptNumber 8 = .ok (.getfield 24, 3) := by decide +kernel
theorem dX0_keptNumber_11 : decode cX0_keptNumber 11 = .ok (.aload_n 0, 1) := by decide +kernel
theorem dX0_keptNumber_12 : decode cX0_keptNumber 12 = .ok (.getfield 27, 3) := by decide +kernel
theorem dX0_keptNumber_15 : decode cX0_keptNumber 15 = .ok (.iconst 1, 1) := by decide +kernel
theorem dX0_keptNumber_16 : decode cX0_keptNumber 16 = .ok (.isub, 1) := by decide +kernel
theorem dX0_keptNumber_17 : decode cX0_keptNumber 17 = .ok (.iaload, 1) := by decide +kernel
theorem dX0_keptNumber_18 : decode cX0_keptNumber 18 = .ok (.goto 4, 3) := by decide +kernel
theorem dX0_keptNumber_21 : decode cX0_keptNumber 21 = .ok (.iconst 0, 1) := by decide +kernel
theorem dX0_keptNumber_22 : decode cX0_keptNumber 22 = .ok (.ireturn, 1) := by decide +kernel
theorem dX2_clear_0 : decode cX2_clear 0 = .ok (.aload_n 0, 1) := by decide +kernel
theorem dX2_clear_1 : decode cX2_clear 1 = .ok (.getfield 9, 3) := by decide +kernel
theorem dX2_clear_4 : decode cX2_clear 4 = .ok (.iconst 0, 1) := by decide +kernel
theorem dX2_clear_5 : decode cX2_clear 5 = .ok (.invokestatic 15, 3) := by decide +kernel
theorem dX2_clear_8 : decode cX2_clear 8 = .ok (.aload_n 0, 1) := by decide +kernel
theorem dX2_clear_9 : decode cX2_clear 9 = .ok (.iconst 0, 1) := by decide +kernel
theorem dX2_clear_10 : decode cX2_clear 10 = .ok (.putfield 21, 3) := by decide +kernel
theorem dX2_clear_13 : decode cX2_clear 13 = .ok (.return_, 1) := by decide +kernel
theorem dX2_take_0 : decode cX2_take 0 = .ok (.iload_n 1, 1) := by decide +kernel
theorem dX2_take_1 : decode cX2_take 1 = .ok (.iconst 4, 1) := by decide +kernel
theorem dX2_take_2 : decode cX2_take 2 = .ok (.invokestatic 25, 3) := by decide +kernel
theorem dX2_take_5 : decode cX2_take 5 = .ok (.ifCond .eq 30, 3) := by decide +kernel
theorem dX2_take_8 : decode cX2_take 8 = .ok (.aload_n 0, 1) := by decide +kernel
theorem dX2_take_9 : decode cX2_take 9 = .ok (.getfield 9, 3) := by decide +kernel
theorem dX2_take_12 : decode cX2_take 12 = .ok (.iload_n 1, 1) := by decide +kernel
theorem dX2_take_13 : decode cX2_take 13 = .ok (.dup2, 1) := by decide +kernel
theorem dX2_take_14 : decode cX2_take 14 = .ok (.iaload, 1) := by decide +kernel
theorem dX2_take_15 : decode cX2_take 15 = .ok (.iconst 1, 1) := by decide +kernel
theorem dX2_take_16 : decode cX2_take 16 = .ok (.iadd, 1) := by decide +kernel
theorem dX2_take_17 : decode cX2_take 17 = .ok (.iastore, 1) := by decide +kernel
theorem dX2_take_18 : decode cX2_take 18 = .ok (.aload_n 0, 1) := by decide +kernel
theorem dX2_take_19 : decode cX2_take 19 = .ok (.aload_n 0, 1) := by decide +kernel
theorem dX2_take_20 : decode cX2_take 20 = .ok (.getfield 21, 3) := by decide +kernel
theorem dX2_take_23 : decode cX2_take 23 = .ok (.aload_n 0, 1) := by decide +kernel
theorem dX2_take_24 : decode cX2_take 24 = .ok (.getfield 9, 3) := by decide +kernel
theorem dX2_take_27 : decode cX2_take 27 = .ok (.iload_n 1, 1) := by decide +kernel
theorem dX2_take_28 : decode cX2_take 28 = .ok (.iaload, 1) := by decide +kernel
theorem dX2_take_29 : decode cX2_take 29 = .ok (.invokestatic 29, 3) := by decide +kernel
theorem dX2_take_32 : decode cX2_take 32 = .ok (.putfield 21, 3) := by decide +kernel
theorem dX2_take_35 : decode cX2_take 35 = .ok (.return_, 1) := by decide +kernel
theorem dX2_free_0 : decode cX2_free 0 = .ok (.iload_n 1, 1) := by decide +kernel
theorem dX2_free_1 : decode cX2_free 1 = .ok (.iconst 4, 1) := by decide +kernel
theorem dX2_free_2 : decode cX2_free 2 = .ok (.invokestatic 25, 3) := by decide +kernel
theorem dX2_free_5 : decode cX2_free 5 = .ok (.ifCond .eq 13, 3) := by decide +kernel
theorem dX2_free_8 : decode cX2_free 8 = .ok (.aload_n 0, 1) := by decide +kernel
theorem dX2_free_9 : decode cX2_free 9 = .ok (.getfield 9, 3) := by decide +kernel
theorem dX2_free_12 : decode cX2_free 12 = .ok (.iload_n 1, 1) := by decide +kernel
theorem dX2_free_13 : decode cX2_free 13 = .ok (.dup2, 1) := by decide +kernel
theorem dX2_free_14 : decode cX2_free 14 = .ok (.iaload, 1) := by decide +kernel
theorem dX2_free_15 : decode cX2_free 15 = .ok (.iconst 1, 1) := by decide +kernel
theorem dX2_free_16 : decode cX2_free 16 = .ok (.isub, 1) := by decide +kernel
theorem dX2_free_17 : decode cX2_free 17 = .ok (.iastore, 1) := by decide +kernel
theorem dX2_free_18 : decode cX2_free 18 = .ok (.return_, 1) := by decide +kernel
theorem dX2_most_0 : decode cX2_most 0 = .ok (.aload_n 0, 1) := by decide +kernel
theorem dX2_most_1 : decode cX2_most 1 = .ok (.getfield 21, 3) := by decide +kernel
theorem dX2_most_4 : decode cX2_most 4 = .ok (.ireturn, 1) := by decide +kernel
theorem dX2_sum_0 : decode cX2_sum 0 = .ok (.iconst 0, 1) := by decide +kernel
theorem dX2_sum_1 : decode cX2_sum 1 = .ok (.istore_n 1, 1) := by decide +kernel
theorem dX2_sum_2 : decode cX2_sum 2 = .ok (.iconst 0, 1) := by decide +kernel
theorem dX2_sum_3 : decode cX2_sum 3 = .ok (.istore_n 2, 1) := by decide +kernel
theorem dX2_sum_4 : decode cX2_sum 4 = .ok (.iload_n 2, 1) := by decide +kernel
theorem dX2_sum_5 : decode cX2_sum 5 = .ok (.iconst 4, 1) := by decide +kernel
theorem dX2_sum_6 : decode cX2_sum 6 = .ok (.if_icmp .ge 18, 3) := by decide +kernel
theorem dX2_sum_9 : decode cX2_sum 9 = .ok (.iload_n 1, 1) := by decide +kernel
theorem dX2_sum_10 : decode cX2_sum 10 = .ok (.aload_n 0, 1) := by decide +kernel
theorem dX2_sum_11 : decode cX2_sum 11 = .ok (.getfield 9, 3) := by decide +kernel
theorem dX2_sum_14 : decode cX2_sum 14 = .ok (.iload_n 2, 1) := by decide +kernel
theorem dX2_sum_15 : decode cX2_sum 15 = .ok (.iaload, 1) := by decide +kernel
theorem dX2_sum_16 : decode cX2_sum 16 = .ok (.iadd, 1) := by decide +kernel
theorem dX2_sum_17 : decode cX2_sum 17 = .ok (.istore_n 1, 1) := by decide +kernel
theorem dX2_sum_18 : decode cX2_sum 18 = .ok (.iinc 2 1, 3) := by decide +kernel
theorem dX2_sum_21 : decode cX2_sum 21 = .ok (.goto (-17), 3) := by decide +kernel
theorem dX2_sum_24 : decode cX2_sum 24 = .ok (.iload_n 1, 1) := by decide +kernel
theorem dX2_sum_25 : decode cX2_sum 25 = .ok (.ireturn, 1) := by decide +kernel
theorem dX3_makingPrice_0 : decode cX3_makingPrice 0 = .ok (.iload_n 0, 1) := by decide +kernel
theorem dX3_makingPrice_1 : decode cX3_makingPrice 1 = .ok (.ifCond .ge 7, 3) := by decide +kernel
theorem dX3_makingPrice_4 : decode cX3_makingPrice 4 = .ok (.iconst 1, 1) := by decide +kernel
theorem dX3_makingPrice_5 : decode cX3_makingPrice 5 = .ok (.goto 8, 3) := by decide +kernel
theorem dX3_makingPrice_8 : decode cX3_makingPrice 8 = .ok (.iconst 1, 1) := by decide +kernel
theorem dX3_makingPrice_9 : decode cX3_makingPrice 9 = .ok (.iload_n 0, 1) := by decide +kernel
theorem dX3_makingPrice_10 : decode cX3_makingPrice 10 = .ok (.iconst 4, 1) := by decide +kernel
theorem dX3_makingPrice_11 : decode cX3_makingPrice 11 = .ok (.idiv, 1) := by decide +kernel
theorem dX3_makingPrice_12 : decode cX3_makingPrice 12 = .ok (.iadd, 1) := by decide +kernel
theorem dX3_makingPrice_13 : decode cX3_makingPrice 13 = .ok (.ireturn, 1) := by decide +kernel
theorem dX4_clear_0 : decode cX4_clear 0 = .ok (.aload_n 0, 1) := by decide +kernel
theorem dX4_clear_1 : decode cX4_clear 1 = .ok (.getfield 9, 3) := by decide +kernel
theorem dX4_clear_4 : decode cX4_clear 4 = .ok (.iconst 0, 1) := by decide +kernel
theorem dX4_clear_5 : decode cX4_clear 5 = .ok (.invokestatic 24, 3) := by decide +kernel
theorem dX4_clear_8 : decode cX4_clear 8 = .ok (.aload_n 0, 1) := by decide +kernel
theorem dX4_clear_9 : decode cX4_clear 9 = .ok (.getfield 18, 3) := by decide +kernel
theorem dX4_clear_12 : decode cX4_clear 12 = .ok (.iconst (-1), 1) := by decide +kernel
theorem dX4_clear_13 : decode cX4_clear 13 = .ok (.invokestatic 24, 3) := by decide +kernel
theorem dX4_clear_16 : decode cX4_clear 16 = .ok (.aload_n 0, 1) := by decide +kernel
theorem dX4_clear_17 : decode cX4_clear 17 = .ok (.getfield 21, 3) := by decide +kernel
theorem dX4_clear_20 : decode cX4_clear 20 = .ok (.iconst 0, 1) := by decide +kernel
theorem dX4_clear_21 : decode cX4_clear 21 = .ok (.invokestatic 24, 3) := by decide +kernel
theorem dX4_clear_24 : decode cX4_clear 24 = .ok (.aload_n 0, 1) := by decide +kernel
theorem dX4_clear_25 : decode cX4_clear 25 = .ok (.iconst 0, 1) := by decide +kernel
theorem dX4_clear_26 : decode cX4_clear 26 = .ok (.putfield 30, 3) := by decide +kernel
theorem dX4_clear_29 : decode cX4_clear 29 = .ok (.aload_n 0, 1) := by decide +kernel
theorem dX4_clear_30 : decode cX4_clear 30 = .ok (.iconst 0, 1) := by decide +kernel
theorem dX4_clear_31 : decode cX4_clear 31 = .ok (.putfield 34, 3) := by decide +kernel
theorem dX4_clear_34 : decode cX4_clear 34 = .ok (.return_, 1) := by decide +kernel
theorem dX4_read_0 : decode cX4_read 0 = .ok (.iload_n 1, 1) := by decide +kernel
theorem dX4_read_1 : decode cX4_read 1 = .ok (.bipush 8, 2) := by decide +kernel
theorem dX4_read_3 : decode cX4_read 3 = .ok (.invokestatic 37, 3) := by decide +kernel
theorem dX4_read_6 : decode cX4_read 6 = .ok (.ifCond .eq 12, 3) := by decide +kernel
theorem dX4_read_9 : decode cX4_read 9 = .ok (.aload_n 0, 1) := by decide +kernel
theorem dX4_read_10 : decode cX4_read 10 = .ok (.getfield 9, 3) := by decide +kernel
theorem dX4_read_13 : decode cX4_read 13 = .ok (.iload_n 1, 1) := by decide +kernel
theorem dX4_read_14 : decode cX4_read 14 = .ok (.iaload, 1) := by decide +kernel
theorem dX4_read_15 : decode cX4_read 15 = .ok (.goto 4, 3) := by decide +kernel
theorem dX4_read_18 : decode cX4_read 18 = .ok (.iconst 0, 1) := by decide +kernel
theorem dX4_read_19 : decode cX4_read 19 = .ok (.ireturn, 1) := by decide +kernel
theorem dX4_write_0 : decode cX4_write 0 = .ok (.iload_n 1, 1) := by decide +kernel
theorem dX4_write_1 : decode cX4_write 1 = .ok (.bipush 8, 2) := by decide +kernel
theorem dX4_write_3 : decode cX4_write 3 = .ok (.invokestatic 37, 3) := by decide +kernel
theorem dX4_write_6 : decode cX4_write 6 = .ok (.ifCond .eq 10, 3) := by decide +kernel
theorem dX4_write_9 : decode cX4_write 9 = .ok (.aload_n 0, 1) := by decide +kernel
theorem dX4_write_10 : decode cX4_write 10 = .ok (.getfield 9, 3) := by decide +kernel
theorem dX4_write_13 : decode cX4_write 13 = .ok (.iload_n 1, 1) := by decide +kernel
theorem dX4_write_14 : decode cX4_write 14 = .ok (.iload_n 2, 1) := by decide +kernel
theorem dX4_write_15 : decode cX4_write 15 = .ok (.iastore, 1) := by decide +kernel
theorem dX4_write_16 : decode cX4_write 16 = .ok (.return_, 1) := by decide +kernel
theorem dX4_result_0 : decode cX4_result 0 = .ok (.aload_n 0, 1) := by decide +kernel
theorem dX4_result_1 : decode cX4_result 1 = .ok (.getfield 34, 3) := by decide +kernel
theorem dX4_result_4 : decode cX4_result 4 = .ok (.ireturn, 1) := by decide +kernel
theorem dX4_setResult_0 : decode cX4_setResult 0 = .ok (.aload_n 0, 1) := by decide +kernel
theorem dX4_setResult_1 : decode cX4_setResult 1 = .ok (.iload_n 1, 1) := by decide +kernel
theorem dX4_setResult_2 : decode cX4_setResult 2 = .ok (.putfield 34, 3) := by decide +kernel
theorem dX4_setResult_5 : decode cX4_setResult 5 = .ok (.return_, 1) := by decide +kernel
theorem dX4_lengthOf_0 : decode cX4_lengthOf 0 = .ok (.iload_n 1, 1) := by decide +kernel
theorem dX4_lengthOf_1 : decode cX4_lengthOf 1 = .ok (.iconst 4, 1) := by decide +kernel
theorem dX4_lengthOf_2 : decode cX4_lengthOf 2 = .ok (.invokestatic 37, 3) := by decide +kernel
theorem dX4_lengthOf_5 : decode cX4_lengthOf 5 = .ok (.ifCond .eq 12, 3) := by decide +kernel
theorem dX4_lengthOf_8 : decode cX4_lengthOf 8 = .ok (.aload_n 0, 1) := by decide +kernel
theorem dX4_lengthOf_9 : decode cX4_lengthOf 9 = .ok (.getfield 18, 3) := by decide +kernel
theorem dX4_lengthOf_12 : decode cX4_lengthOf 12 = .ok (.iload_n 1, 1) := by decide +kernel
theorem dX4_lengthOf_13 : decode cX4_lengthOf 13 = .ok (.iaload, 1) := by decide +kernel
theorem dX4_lengthOf_14 : decode cX4_lengthOf 14 = .ok (.goto 4, 3) := by decide +kernel
theorem dX4_lengthOf_17 : decode cX4_lengthOf 17 = .ok (.iconst (-1), 1) := by decide +kernel
theorem dX4_lengthOf_18 : decode cX4_lengthOf 18 = .ok (.ireturn, 1) := by decide +kernel
theorem dX4_makeRow_0 : decode cX4_makeRow 0 = .ok (.iload_n 1, 1) := by decide +kernel
theorem dX4_makeRow_1 : decode cX4_makeRow 1 = .ok (.iconst 4, 1) := by decide +kernel
theorem dX4_makeRow_2 : decode cX4_makeRow 2 = .ok (.invokestatic 37, 3) := by decide +kernel
theorem dX4_makeRow_5 : decode cX4_makeRow 5 = .ok (.ifCond .eq 20, 3) := by decide +kernel
theorem dX4_makeRow_8 : decode cX4_makeRow 8 = .ok (.iload_n 2, 1) := by decide +kernel
theorem dX4_makeRow_9 : decode cX4_makeRow 9 = .ok (.sipush 800, 3) := by decide +kernel
theorem dX4_makeRow_12 : decode cX4_makeRow 12 = .ok (.aload_n 0, 1) := by decide +kernel
theorem dX4_makeRow_13 : decode cX4_makeRow 13 = .ok (.getfield 30, 3) := by decide +kernel
theorem dX4_makeRow_16 : decode cX4_makeRow 16 = .ok (.isub, 1) := by decide +kernel
theorem dX4_makeRow_17 : decode cX4_makeRow 17 = .ok (.iconst 1, 1) := by decide +kernel
theorem dX4_makeRow_18 : decode cX4_makeRow 18 = .ok (.iadd, 1) := by decide +kernel
theorem dX4_makeRow_19 : decode cX4_makeRow 19 = .ok (.invokestatic 37, 3) := by decide +kernel
theorem dX4_makeRow_22 : decode cX4_makeRow 22 = .ok (.ifCond .ne 4, 3) := by decide +kernel
theorem dX4_makeRow_25 : decode cX4_makeRow 25 = .ok (.return_, 1) := by decide +kernel
theorem dX4_makeRow_26 : decode cX4_makeRow 26 = .ok (.aload_n 0, 1) := by decide +kernel
theorem dX4_makeRow_27 : decode cX4_makeRow 27 = .ok (.getfield 15, 3) := by decide +kernel
theorem dX4_makeRow_30 : decode cX4_makeRow 30 = .ok (.iload_n 1, 1) := by decide +kernel
theorem dX4_makeRow_31 : decode cX4_makeRow 31 = .ok (.aload_n 0, 1) := by decide +kernel
theorem dX4_makeRow_32 : decode cX4_makeRow 32 = .ok (.getfield 30, 3) := by decide +kernel
theorem dX4_makeRow_35 : decode cX4_makeRow 35 = .ok (.iastore, 1) := by decide +kernel
theorem dX4_makeRow_36 : decode cX4_makeRow 36 = .ok (.aload_n 0, 1) := by decide +kernel
theorem dX4_makeRow_37 : decode cX4_makeRow 37 = .ok (.getfield 18, 3) := by decide +kernel
theorem dX4_makeRow_40 : decode cX4_makeRow 40 = .ok (.iload_n 1, 1) := by decide +kernel
theorem dX4_makeRow_41 : decode cX4_makeRow 41 = .ok (.iload_n 2, 1) := by decide +kernel
theorem dX4_makeRow_42 : decode cX4_makeRow 42 = .ok (.iastore, 1) := by decide +kernel
theorem dX4_makeRow_43 : decode cX4_makeRow 43 = .ok (.aload_n 0, 1) := by decide +kernel
theorem dX4_makeRow_44 : decode cX4_makeRow 44 = .ok (.dup, 1) := by decide +kernel
theorem dX4_makeRow_45 : decode cX4_makeRow 45 = .ok (.getfield 30, 3) := by decide +kernel
theorem dX4_makeRow_48 : decode cX4_makeRow 48 = .ok (.iload_n 2, 1) := by decide +kernel
theorem dX4_makeRow_49 : decode cX4_makeRow 49 = .ok (.iadd, 1) := by decide +kernel
theorem dX4_makeRow_50 : decode cX4_makeRow 50 = .ok (.putfield 30, 3) := by decide +kernel
theorem dX4_makeRow_53 : decode cX4_makeRow 53 = .ok (.return_, 1) := by decide +kernel
theorem dX4_forgetRow_0 : decode cX4_forgetRow 0 = .ok (.iload_n 1, 1) := by decide +kernel
theorem dX4_forgetRow_1 : decode cX4_forgetRow 1 = .ok (.iconst 4, 1) := by decide +kernel
theorem dX4_forgetRow_2 : decode cX4_forgetRow 2 = .ok (.invokestatic 37, 3) := by decide +kernel
theorem dX4_forgetRow_5 : decode cX4_forgetRow 5 = .ok (.ifCond .eq 10, 3) := by decide +kernel
theorem dX4_forgetRow_8 : decode cX4_forgetRow 8 = .ok (.aload_n 0, 1) := by decide +kernel
theorem dX4_forgetRow_9 : decode cX4_forgetRow 9 = .ok (.getfield 18, 3) := by decide +kernel
theorem dX4_forgetRow_12 : decode cX4_forgetRow 12 = .ok (.iload_n 1, 1) := by decide +kernel
theorem dX4_forgetRow_13 : decode cX4_forgetRow 13 = .ok (.iconst (-1), 1) := by decide +kernel
theorem dX4_forgetRow_14 : decode cX4_forgetRow 14 = .ok (.iastore, 1) := by decide +kernel
theorem dX4_forgetRow_15 : decode cX4_forgetRow 15 = .ok (.return_, 1) := by decide +kernel
theorem dX4_shareRow_0 : decode cX4_shareRow 0 = .ok (.iload_n 1, 1) := by decide +kernel
theorem dX4_shareRow_1 : decode cX4_shareRow 1 = .ok (.iconst 4, 1) := by decide +kernel
theorem dX4_shareRow_2 : decode cX4_shareRow 2 = .ok (.invokestatic 37, 3) := by decide +kernel
theorem dX4_shareRow_5 : decode cX4_shareRow 5 = .ok (.ifCond .eq 35, 3) := by decide +kernel
theorem dX4_shareRow_8 : decode cX4_shareRow 8 = .ok (.iload_n 2, 1) := by decide +kernel
theorem dX4_shareRow_9 : decode cX4_shareRow 9 = .ok (.iconst 4, 1) := by decide +kernel
theorem dX4_shareRow_10 : decode cX4_shareRow 10 = .ok (.invokestatic 37, 3) := by decide +kernel
theorem dX4_shareRow_13 : decode cX4_shareRow 13 = .ok (.ifCond .eq 27, 3) := by decide +kernel
theorem dX4_shareRow_16 : decode cX4_shareRow 16 = .ok (.aload_n 0, 1) := by decide +kernel
theorem dX4_shareRow_17 : decode cX4_shareRow 17 = .ok (.getfield 15, 3) := by decide +kernel
theorem dX4_shareRow_20 : decode cX4_shareRow 20 = .ok (.iload_n 1, 1) := by decide +kernel
theorem dX4_shareRow_21 : decode cX4_shareRow 21 = .ok (.aload_n 0, 1) := by decide +kernel
theorem dX4_shareRow_22 : decode cX4_shareRow 22 = .ok (.getfield 15, 3) := by decide +kernel
theorem dX4_shareRow_25 : decode cX4_shareRow 25 = .ok (.iload_n 2, 1) := by decide +kernel
theorem dX4_shareRow_26 : decode cX4_shareRow 26 = .ok (.iaload, 1) := by decide +kernel
theorem dX4_shareRow_27 : decode cX4_shareRow 27 = .ok (.iastore, 1) := by decide +kernel
theorem dX4_shareRow_28 : decode cX4_shareRow 28 = .ok (.aload_n 0, 1) := by decide +kernel
theorem dX4_shareRow_29 : decode cX4_shareRow 29 = .ok (.getfield 18, 3) := by decide +kernel
theorem dX4_shareRow_32 : decode cX4_shareRow 32 = .ok (.iload_n 1, 1) := by decide +kernel
theorem dX4_shareRow_33 : decode cX4_shareRow 33 = .ok (.aload_n 0, 1) := by decide +kernel
theorem dX4_shareRow_34 : decode cX4_shareRow 34 = .ok (.getfield 18, 3) := by decide +kernel
theorem dX4_shareRow_37 : decode cX4_shareRow 37 = .ok (.iload_n 2, 1) := by decide +kernel
theorem dX4_shareRow_38 : decode cX4_shareRow 38 = .ok (.iaload, 1) := by decide +kernel
theorem dX4_shareRow_39 : decode cX4_shareRow 39 = .ok (.iastore, 1) := by decide +kernel
theorem dX4_shareRow_40 : decode cX4_shareRow 40 = .ok (.return_, 1) := by decide +kernel
theorem dX4_load_0 : decode cX4_load 0 = .ok (.iload_n 2, 1) := by decide +kernel
theorem dX4_load_1 : decode cX4_load 1 = .ok (.aload_n 0, 1) := by decide +kernel
theorem dX4_load_2 : decode cX4_load 2 = .ok (.iload_n 1, 1) := by decide +kernel
theorem dX4_load_3 : decode cX4_load 3 = .ok (.invokevirtual 41, 3) := by decide +kernel
theorem dX4_load_6 : decode cX4_load 6 = .ok (.invokestatic 37, 3) := by decide +kernel
theorem dX4_load_9 : decode cX4_load 9 = .ok (.ifCond .eq 19, 3) := by decide +kernel
theorem dX4_load_12 : decode cX4_load 12 = .ok (.aload_n 0, 1) := by decide +kernel
theorem dX4_load_13 : decode cX4_load 13 = .ok (.getfield 21, 3) := by decide +kernel
theorem dX4_load_16 : decode cX4_load 16 = .ok (.aload_n 0, 1) := by decide +kernel
theorem dX4_load_17 : decode cX4_load 17 = .ok (.getfield 15, 3) := by decide +kernel
theorem dX4_load_20 : decode cX4_load 20 = .ok (.iload_n 1, 1) := by decide +kernel
theorem dX4_load_21 : decode cX4_load 21 = .ok (.iaload, 1) := by decide +kernel
theorem dX4_load_22 : decode cX4_load 22 = .ok (.iload_n 2, 1) := by decide +kernel
theorem dX4_load_23 : decode cX4_load 23 = .ok (.iadd, 1) := by decide +kernel
theorem dX4_load_24 : decode cX4_load 24 = .ok (.iaload, 1) := by decide +kernel
theorem dX4_load_25 : decode cX4_load 25 = .ok (.goto 4, 3) := by decide +kernel
theorem dX4_load_28 : decode cX4_load 28 = .ok (.iconst 0, 1) := by decide +kernel
theorem dX4_load_29 : decode cX4_load 29 = .ok (.ireturn, 1) := by decide +kernel
theorem dX4_store_0 : decode cX4_store 0 = .ok (.iload_n 2, 1) := by decide +kernel
theorem dX4_store_1 : decode cX4_store 1 = .ok (.aload_n 0, 1) := by decide +kernel
theorem dX4_store_2 : decode cX4_store 2 = .ok (.iload_n 1, 1) := by decide +kernel
theorem dX4_store_3 : decode cX4_store 3 = .ok (.invokevirtual 41, 3) := by decide +kernel
theorem dX4_store_6 : decode cX4_store 6 = .ok (.invokestatic 37, 3) := by decide +kernel
theorem dX4_store_9 : decode cX4_store 9 = .ok (.ifCond .eq 17, 3) := by decide +kernel
theorem dX4_store_12 : decode cX4_store 12 = .ok (.aload_n 0, 1) := by decide +kernel
theorem dX4_store_13 : decode cX4_store 13 = .ok (.getfield 21, 3) := by decide +kernel
theorem dX4_store_16 : decode cX4_store 16 = .ok (.aload_n 0, 1) := by decide +kernel
theorem dX4_store_17 : decode cX4_store 17 = .ok (.getfield 15, 3) := by decide +kernel
theorem dX4_store_20 : decode cX4_store 20 = .ok (.iload_n 1, 1) := by decide +kernel
theorem dX4_store_21 : decode cX4_store 21 = .ok (.iaload, 1) := by decide +kernel
theorem dX4_store_22 : decode cX4_store 22 = .ok (.iload_n 2, 1) := by decide +kernel
theorem dX4_store_23 : decode cX4_store 23 = .ok (.iadd, 1) := by decide +kernel
theorem dX4_store_24 : decode cX4_store 24 = .ok (.iload_n 3, 1) := by decide +kernel
theorem dX4_store_25 : decode cX4_store 25 = .ok (.iastore, 1) := by decide +kernel
theorem dX4_store_26 : decode cX4_store 26 = .ok (.return_, 1) := by decide +kernel
theorem dX4_equalTo_0 : decode cX4_equalTo 0 = .ok (.aload_n 1, 1) := by decide +kernel
theorem dX4_equalTo_1 : decode cX4_equalTo 1 = .ok (.ifnull 14, 3) := by decide +kernel
theorem dX4_equalTo_4 : decode cX4_equalTo 4 = .ok (.aload_n 0, 1) := by decide +kernel
theorem dX4_equalTo_5 : decode cX4_equalTo 5 = .ok (.getfield 34, 3) := by decide +kernel
theorem dX4_equalTo_8 : decode cX4_equalTo 8 = .ok (.aload_n 1, 1) := by decide +kernel
theorem dX4_equalTo_9 : decode cX4_equalTo 9 = .ok (.getfield 34, 3) := by decide +kernel
theorem dX4_equalTo_12 : decode cX4_equalTo 12 = .ok (.if_icmp .eq 5, 3) := by decide +kernel
theorem dX4_equalTo_15 : decode cX4_equalTo 15 = .ok (.iconst 0, 1) := by decide +kernel
theorem dX4_equalTo_16 : decode cX4_equalTo 16 = .ok (.ireturn, 1) := by decide +kernel
theorem dX4_equalTo_17 : decode cX4_equalTo 17 = .ok (.iconst 0, 1) := by decide +kernel
theorem dX4_equalTo_18 : decode cX4_equalTo 18 = .ok (.istore_n 2, 1) := by decide +kernel
theorem dX4_equalTo_19 : decode cX4_equalTo 19 = .ok (.iload_n 2, 1) := by decide +kernel
theorem dX4_equalTo_20 : decode cX4_equalTo 20 = .ok (.bipush 8, 2) := by decide +kernel
theorem dX4_equalTo_22 : decode cX4_equalTo 22 = .ok (.if_icmp .ge 26, 3) := by decide +kernel
theorem dX4_equalTo_25 : decode cX4_equalTo 25 = .ok (.aload_n 0, 1) := by decide +kernel
theorem dX4_equalTo_26 : decode cX4_equalTo 26 = .ok (.getfield 9, 3) := by decide +kernel
theorem dX4_equalTo_29 : decode cX4_equalTo 29 = .ok (.iload_n 2, 1) := by decide +kernel
theorem dX4_equalTo_30 : decode cX4_equalTo 30 = .ok (.iaload, 1) := by decide +kernel
theorem dX4_equalTo_31 : decode cX4_equalTo 31 = .ok (.aload_n 1, 1) := by decide +kernel
theorem dX4_equalTo_32 : decode cX4_equalTo 32 = .ok (.getfield 9, 3) := by decide +kernel
theorem dX4_equalTo_35 : decode cX4_equalTo 35 = .ok (.iload_n 2, 1) := by decide +kernel
theorem dX4_equalTo_36 : decode cX4_equalTo 36 = .ok (.iaload, 1) := by decide +kernel
theorem dX4_equalTo_37 : decode cX4_equalTo 37 = .ok (.if_icmp .eq 5, 3) := by decide +kernel
theorem dX4_equalTo_40 : decode cX4_equalTo 40 = .ok (.iconst 0, 1) := by decide +kernel
theorem dX4_equalTo_41 : decode cX4_equalTo 41 = .ok (.ireturn, 1) := by decide +kernel
theorem dX4_equalTo_42 : decode cX4_equalTo 42 = .ok (.iinc 2 1, 3) := by decide +kernel
theorem dX4_equalTo_45 : decode cX4_equalTo 45 = .ok (.goto (-26), 3) := by decide +kernel
theorem dX4_equalTo_48 : decode cX4_equalTo 48 = .ok (.iconst 0, 1) := by decide +kernel
theorem dX4_equalTo_49 : decode cX4_equalTo 49 = .ok (.istore_n 2, 1) := by decide +kernel
theorem dX4_equalTo_50 : decode cX4_equalTo 50 = .ok (.iload_n 2, 1) := by decide +kernel
theorem dX4_equalTo_51 : decode cX4_equalTo 51 = .ok (.iconst 4, 1) := by decide +kernel
theorem dX4_equalTo_52 : decode cX4_equalTo 52 = .ok (.if_icmp .ge 20, 3) := by decide +kernel
theorem dX4_equalTo_55 : decode cX4_equalTo 55 = .ok (.aload_n 0, 1) := by decide +kernel
theorem dX4_equalTo_56 : decode cX4_equalTo 56 = .ok (.aload_n 1, 1) := by decide +kernel
theorem dX4_equalTo_57 : decode cX4_equalTo 57 = .ok (.iload_n 2, 1) := by decide +kernel
theorem dX4_equalTo_58 : decode cX4_equalTo 58 = .ok (.invokevirtual 45, 3) := by decide +kernel
theorem dX4_equalTo_61 : decode cX4_equalTo 61 = .ok (.ifCond .ne 5, 3) := by decide +kernel
theorem dX4_equalTo_64 : decode cX4_equalTo 64 = .ok (.iconst 0, 1) := by decide +kernel
theorem dX4_equalTo_65 : decode cX4_equalTo 65 = .ok (.ireturn, 1) := by decide +kernel
theorem dX4_equalTo_66 : decode cX4_equalTo 66 = .ok (.iinc 2 1, 3) := by decide +kernel
theorem dX4_equalTo_69 : decode cX4_equalTo 69 = .ok (.goto (-19), 3) := by decide +kernel
theorem dX4_equalTo_72 : decode cX4_equalTo 72 = .ok (.iconst 1, 1) := by decide +kernel
theorem dX4_equalTo_73 : decode cX4_equalTo 73 = .ok (.ireturn, 1) := by decide +kernel
theorem dX4_rowEqualTo_0 : decode cX4_rowEqualTo 0 = .ok (.aload_n 0, 1) := by decide +kernel
theorem dX4_rowEqualTo_1 : decode cX4_rowEqualTo 1 = .ok (.iload_n 2, 1) := by decide +kernel
theorem dX4_rowEqualTo_2 : decode cX4_rowEqualTo 2 = .ok (.invokevirtual 41, 3) := by decide +kernel
theorem dX4_rowEqualTo_5 : decode cX4_rowEqualTo 5 = .ok (.istore_n 3, 1) := by decide +kernel
theorem dX4_rowEqualTo_6 : decode cX4_rowEqualTo 6 = .ok (.iload_n 3, 1) := by decide +kernel
theorem dX4_rowEqualTo_7 : decode cX4_rowEqualTo 7 = .ok (.aload_n 1, 1) := by decide +kernel
theorem dX4_rowEqualTo_8 : decode cX4_rowEqualTo 8 = .ok (.iload_n 2, 1) := by decide +kernel
theorem dX4_rowEqualTo_9 : decode cX4_rowEqualTo 9 = .ok (.invokevirtual 41, 3) := by decide +kernel
theorem dX4_rowEqualTo_12 : decode cX4_rowEqualTo 12 = .ok (.if_icmp .eq 5, 3) := by decide +kernel
theorem dX4_rowEqualTo_15 : decode cX4_rowEqualTo 15 = .ok (.iconst 0, 1) := by decide +kernel
theorem dX4_rowEqualTo_16 : decode cX4_rowEqualTo 16 = .ok (.ireturn, 1) := by decide +kernel
theorem dX4_rowEqualTo_17 : decode cX4_rowEqualTo 17 = .ok (.iconst 0, 1) := by decide +kernel
theorem dX4_rowEqualTo_18 : decode cX4_rowEqualTo 18 = .ok (.istore 4, 2) := by decide +kernel
theorem dX4_rowEqualTo_20 : decode cX4_rowEqualTo 20 = .ok (.iload 4, 2) := by decide +kernel
theorem dX4_rowEqualTo_22 : decode cX4_rowEqualTo 22 = .ok (.iload_n 3, 1) := by decide +kernel
theorem dX4_rowEqualTo_23 : decode cX4_rowEqualTo 23 = .ok (.if_icmp .ge 28, 3) := by decide +kernel
theorem dX4_rowEqualTo_26 : decode cX4_rowEqualTo 26 = .ok (.aload_n 0, 1) := by decide +kernel
theorem dX4_rowEqualTo_27 : decode cX4_rowEqualTo 27 = .ok (.iload_n 2, 1) := by decide +kernel
theorem dX4_rowEqualTo_28 : decode cX4_rowEqualTo 28 = .ok (.iload 4, 2) := by decide +kernel
theorem dX4_rowEqualTo_30 : decode cX4_rowEqualTo 30 = .ok (.invokevirtual 49, 3) := by decide +kernel
theorem dX4_rowEqualTo_33 : decode cX4_rowEqualTo 33 = .ok (.aload_n 1, 1) := by decide +kernel
theorem dX4_rowEqualTo_34 : decode cX4_rowEqualTo 34 = .ok (.iload_n 2, 1) := by decide +kernel
theorem dX4_rowEqualTo_35 : decode cX4_rowEqualTo 35 = .ok (.iload 4, 2) := by decide +kernel
theorem dX4_rowEqualTo_37 : decode cX4_rowEqualTo 37 = .ok (.invokevirtual 49, 3) := by decide +kernel
theorem dX4_rowEqualTo_40 : decode cX4_rowEqualTo 40 = .ok (.if_icmp .eq 5, 3) := by decide +kernel
theorem dX4_rowEqualTo_43 : decode cX4_rowEqualTo 43 = .ok (.iconst 0, 1) := by decide +kernel
theorem dX4_rowEqualTo_44 : decode cX4_rowEqualTo 44 = .ok (.ireturn, 1) := by decide +kernel
theorem dX4_rowEqualTo_45 : decode cX4_rowEqualTo 45 = .ok (.iinc 4 1, 3) := by decide +kernel
theorem dX4_rowEqualTo_48 : decode cX4_rowEqualTo 48 = .ok (.goto (-28), 3) := by decide +kernel
theorem dX4_rowEqualTo_51 : decode cX4_rowEqualTo 51 = .ok (.iconst 1, 1) := by decide +kernel
theorem dX4_rowEqualTo_52 : decode cX4_rowEqualTo 52 = .ok (.ireturn, 1) := by decide +kernel
theorem dX5_statements_0 : decode cX5_statements 0 = .ok (.aload_n 0, 1) := by decide +kernel
theorem dX5_statements_1 : decode cX5_statements 1 = .ok (.getfield 36, 3) := by decide +kernel
theorem dX5_statements_4 : decode cX5_statements 4 = .ok (.ireturn, 1) := by decide +kernel
theorem dX5_bodies_0 : decode cX5_bodies 0 = .ok (.iconst 0, 1) := by decide +kernel
theorem dX5_bodies_1 : decode cX5_bodies 1 = .ok (.istore_n 1, 1) := by decide +kernel
theorem dX5_bodies_2 : decode cX5_bodies 2 = .ok (.iconst 0, 1) := by decide +kernel
theorem dX5_bodies_3 : decode cX5_bodies 3 = .ok (.istore_n 2, 1) := by decide +kernel
theorem dX5_bodies_4 : decode cX5_bodies 4 = .ok (.iload_n 2, 1) := by decide +kernel
theorem dX5_bodies_5 : decode cX5_bodies 5 = .ok (.bipush 8, 2) := by decide +kernel
theorem dX5_bodies_7 : decode cX5_bodies 7 = .ok (.if_icmp .ge 22, 3) := by decide +kernel
theorem dX5_bodies_10 : decode cX5_bodies 10 = .ok (.aload_n 0, 1) := by decide +kernel
theorem dX5_bodies_11 : decode cX5_bodies 11 = .ok (.getfield 27, 3) := by decide +kernel
theorem dX5_bodies_14 : decode cX5_bodies 14 = .ok (.iload_n 2, 1) := by decide +kernel
theorem dX5_bodies_15 : decode cX5_bodies 15 = .ok (.iaload, 1) := by decide +kernel
theorem dX5_bodies_16 : decode cX5_bodies 16 = .ok (.iconst (-1), 1) := by decide +kernel
theorem dX5_bodies_17 : decode cX5_bodies 17 = .ok (.if_icmp .eq 6, 3) := by decide +kernel
theorem dX5_bodies_20 : decode cX5_bodies 20 = .ok (.iinc 1 1, 3) := by decide +kernel
theorem dX5_bodies_23 : decode cX5_bodies 23 = .ok (.iinc 2 1, 3) := by decide +kernel
theorem dX5_bodies_26 : decode cX5_bodies 26 = .ok (.goto (-22), 3) := by decide +kernel
theorem dX5_bodies_29 : decode cX5_bodies 29 = .ok (.iload_n 1, 1) := by decide +kernel
theorem dX5_bodies_30 : decode cX5_bodies 30 = .ok (.ireturn, 1) := by decide +kernel
theorem dX5_isFull_0 : decode cX5_isFull 0 = .ok (.aload_n 0, 1) := by decide +kernel
theorem dX5_isFull_1 : decode cX5_isFull 1 = .ok (.getfield 36, 3) := by decide +kernel
theorem dX5_isFull_4 : decode cX5_isFull 4 = .ok (.bipush 120, 2) := by decide +kernel
theorem dX5_isFull_6 : decode cX5_isFull 6 = .ok (.if_icmp .lt 7, 3) := by decide +kernel
theorem dX5_isFull_9 : decode cX5_isFull 9 = .ok (.iconst 1, 1) := by decide +kernel
theorem dX5_isFull_10 : decode cX5_isFull 10 = .ok (.goto 4, 3) := by decide +kernel
theorem dX5_isFull_13 : decode cX5_isFull 13 = .ok (.iconst 0, 1) := by decide +kernel
theorem dX5_isFull_14 : decode cX5_isFull 14 = .ok (.ireturn, 1) := by decide +kernel
theorem dX5_has_0 : decode cX5_has 0 = .ok (.iload_n 1, 1) := by decide +kernel
theorem dX5_has_1 : decode cX5_has 1 = .ok (.aload_n 0, 1) := by decide +kernel
theorem dX5_has_2 : decode cX5_has 2 = .ok (.getfield 36, 3) := by decide +kernel
theorem dX5_has_5 : decode cX5_has 5 = .ok (.invokestatic 40, 3) := by decide +kernel
theorem dX5_has_8 : decode cX5_has 8 = .ok (.ireturn, 1) := by decide +kernel
theorem dX5_sortOf_0 : decode cX5_sortOf 0 = .ok (.aload_n 0, 1) := by decide +kernel
theorem dX5_sortOf_1 : decode cX5_sortOf 1 = .ok (.iload_n 1, 1) := by decide +kernel
theorem dX5_sortOf_2 : decode cX5_sortOf 2 = .ok (.invokevirtual 44, 3) := by decide +kernel
theorem dX5_sortOf_5 : decode cX5_sortOf 5 = .ok (.ifCond .eq 12, 3) := by decide +kernel
theorem dX5_sortOf_8 : decode cX5_sortOf 8 = .ok (.aload_n 0, 1) := by decide +kernel
theorem dX5_sortOf_9 : decode cX5_sortOf 9 = .ok (.getfield 9, 3) := by decide +kernel
theorem dX5_sortOf_12 : decode cX5_sortOf 12 = .ok (.iload_n 1, 1) := by decide +kernel
theorem dX5_sortOf_13 : decode cX5_sortOf 13 = .ok (.iaload, 1) := by decide +kernel
theorem dX5_sortOf_14 : decode cX5_sortOf 14 = .ok (.goto 4, 3) := by decide +kernel
theorem dX5_sortOf_17 : decode cX5_sortOf 17 = .ok (.iconst (-1), 1) := by decide +kernel
theorem dX5_sortOf_18 : decode cX5_sortOf 18 = .ok (.ireturn, 1) := by decide +kernel
theorem dX5_firstOf_0 : decode cX5_firstOf 0 = .ok (.aload_n 0, 1) := by decide +kernel
theorem dX5_firstOf_1 : decode cX5_firstOf 1 = .ok (.iload_n 1, 1) := by decide +kernel
theorem dX5_firstOf_2 : decode cX5_firstOf 2 = .ok (.invokevirtual 44, 3) := by decide +kernel
theorem dX5_firstOf_5 : decode cX5_firstOf 5 = .ok (.ifCond .eq 12, 3) := by decide +kernel
theorem dX5_firstOf_8 : decode cX5_firstOf 8 = .ok (.aload_n 0, 1) := by decide +kernel
theorem dX5_firstOf_9 : decode cX5_firstOf 9 = .ok (.getfield 15, 3) := by decide +kernel
theorem dX5_firstOf_12 : decode cX5_firstOf 12 = .ok (.iload_n 1, 1) := by decide +kernel
theorem dX5_firstOf_13 : decode cX5_firstOf 13 = .ok (.iaload, 1) := by decide +kernel
theorem dX5_firstOf_14 : decode cX5_firstOf 14 = .ok (.goto 4, 3) := by decide +kernel
theorem dX5_firstOf_17 : decode cX5_firstOf 17 = .ok (.iconst (-1), 1) := by decide +kernel
theorem dX5_firstOf_18 : decode cX5_firstOf 18 = .ok (.ireturn, 1) := by decide +kernel
theorem dX5_secondOf_0 : decode cX5_secondOf 0 = .ok (.aload_n 0, 1) := by decide +kernel
theorem dX5_secondOf_1 : decode cX5_secondOf 1 = .ok (.iload_n 1, 1) := by decide +kernel
theorem dX5_secondOf_2 : decode cX5_secondOf 2 = .ok (.invokevirtual 44, 3) := by decide +kernel
theorem dX5_secondOf_5 : decode cX5_secondOf 5 = .ok (.ifCond .eq 12, 3) := by decide +kernel
theorem dX5_secondOf_8 : decode cX5_secondOf 8 = .ok (.aload_n 0, 1) := by decide +kernel
theorem dX5_secondOf_9 : decode cX5_secondOf 9 = .ok (.getfield 18, 3) := by decide +kernel
theorem dX5_secondOf_12 : decode cX5_secondOf 12 = .ok (.iload_n 1, 1) := by decide +kernel
theorem dX5_secondOf_13 : decode cX5_secondOf 13 = .ok (.iaload, 1) := by decide +kernel
theorem dX5_secondOf_14 : decode cX5_secondOf 14 = .ok (.goto 4, 3) := by decide +kernel
theorem dX5_secondOf_17 : decode cX5_secondOf 17 = .ok (.iconst (-1), 1) := by decide +kernel
theorem dX5_secondOf_18 : decode cX5_secondOf 18 = .ok (.ireturn, 1) := by decide +kernel
theorem dX5_thirdOf_0 : decode cX5_thirdOf 0 = .ok (.aload_n 0, 1) := by decide +kernel
theorem dX5_thirdOf_1 : decode cX5_thirdOf 1 = .ok (.iload_n 1, 1) := by decide +kernel
theorem dX5_thirdOf_2 : decode cX5_thirdOf 2 = .ok (.invokevirtual 44, 3) := by decide +kernel
theorem dX5_thirdOf_5 : decode cX5_thirdOf 5 = .ok (.ifCond .eq 12, 3) := by decide +kernel
theorem dX5_thirdOf_8 : decode cX5_thirdOf 8 = .ok (.aload_n 0, 1) := by decide +kernel
theorem dX5_thirdOf_9 : decode cX5_thirdOf 9 = .ok (.getfield 21, 3) := by decide +kernel
theorem dX5_thirdOf_12 : decode cX5_thirdOf 12 = .ok (.iload_n 1, 1) := by decide +kernel
theorem dX5_thirdOf_13 : decode cX5_thirdOf 13 = .ok (.iaload, 1) := by decide +kernel
theorem dX5_thirdOf_14 : decode cX5_thirdOf 14 = .ok (.goto 4, 3) := by decide +kernel
theorem dX5_thirdOf_17 : decode cX5_thirdOf 17 = .ok (.iconst (-1), 1) := by decide +kernel
theorem dX5_thirdOf_18 : decode cX5_thirdOf 18 = .ok (.ireturn, 1) := by decide +kernel
theorem dX5_bodyOf_0 : decode cX5_bodyOf 0 = .ok (.iload_n 1, 1) := by decide +kernel
theorem dX5_bodyOf_1 : decode cX5_bodyOf 1 = .ok (.bipush 8, 2) := by decide +kernel
theorem dX5_bodyOf_3 : decode cX5_bodyOf 3 = .ok (.invokestatic 40, 3) := by decide +kernel
theorem dX5_bodyOf_6 : decode cX5_bodyOf 6 = .ok (.ifCond .eq 12, 3) := by decide +kernel
theorem dX5_bodyOf_9 : decode cX5_bodyOf 9 = .ok (.aload_n 0, 1) := by decide +kernel
theorem dX5_bodyOf_10 : decode cX5_bodyOf 10 = .ok (.getfield 27, 3) := by decide +kernel
theorem dX5_bodyOf_13 : decode cX5_bodyOf 13 = .ok (.iload_n 1, 1) := by decide +kernel
theorem dX5_bodyOf_14 : decode cX5_bodyOf 14 = .ok (.iaload, 1) := by decide +kernel
theorem dX5_bodyOf_15 : decode cX5_bodyOf 15 = .ok (.goto 4, 3) := by decide +kernel
theorem dX5_bodyOf_18 : decode cX5_bodyOf 18 = .ok (.iconst (-1), 1) := by decide +kernel
theorem dX5_bodyOf_19 : decode cX5_bodyOf 19 = .ok (.ireturn, 1) := by decide +kernel
theorem dX5_setBody_0 : decode cX5_setBody 0 = .ok (.iload_n 1, 1) := by decide +kernel
theorem dX5_setBody_1 : decode cX5_setBody 1 = .ok (.bipush 8, 2) := by decide +kernel
theorem dX5_setBody_3 : decode cX5_setBody 3 = .ok (.invokestatic 40, 3) := by decide +kernel
theorem dX5_setBody_6 : decode cX5_setBody 6 = .ok (.ifCond .eq 10, 3) := by decide +kernel
theorem dX5_setBody_9 : decode cX5_setBody 9 = .ok (.aload_n 0, 1) := by decide +kernel
theorem dX5_setBody_10 : decode cX5_setBody 10 = .ok (.getfield 27, 3) := by decide +kernel
theorem dX5_setBody_13 : decode cX5_setBody 13 = .ok (.iload_n 1, 1) := by decide +kernel
theorem dX5_setBody_14 : decode cX5_setBody 14 = .ok (.iload_n 2, 1) := by decide +kernel
theorem dX5_setBody_15 : decode cX5_setBody 15 = .ok (.iastore, 1) := by decide +kernel
theorem dX5_setBody_16 : decode cX5_setBody 16 = .ok (.return_, 1) := by decide +kernel
theorem dX5_takes_0 : decode cX5_takes 0 = .ok (.aload_n 0, 1) := by decide +kernel
theorem dX5_takes_1 : decode cX5_takes 1 = .ok (.iload_n 1, 1) := by decide +kernel
theorem dX5_takes_2 : decode cX5_takes 2 = .ok (.iload_n 2, 1) := by decide +kernel
theorem dX5_takes_3 : decode cX5_takes 3 = .ok (.iload_n 3, 1) := by decide +kernel
theorem dX5_takes_4 : decode cX5_takes 4 = .ok (.iload 4, 2) := by decide +kernel
theorem dX5_takes_6 : decode cX5_takes 6 = .ok (.invokevirtual 48, 3) := by decide +kernel
theorem dX5_takes_9 : decode cX5_takes 9 = .ok (.ifCond .eq 21, 3) := by decide +kernel
theorem dX5_takes_12 : decode cX5_takes 12 = .ok (.aload_n 0, 1) := by decide +kernel
theorem dX5_takes_13 : decode cX5_takes 13 = .ok (.iload_n 1, 1) := by decide +kernel
theorem dX5_takes_14 : decode cX5_takes 14 = .ok (.iload_n 2, 1) := by decide +kernel
theorem dX5_takes_15 : decode cX5_takes 15 = .ok (.iload_n 3, 1) := by decide +kernel
theorem dX5_takes_16 : decode cX5_takes 16 = .ok (.iload 4, 2) := by decide +kernel
theorem dX5_takes_18 : decode cX5_takes 18 = .ok (.invokevirtual 52, 3) := by decide +kernel
theorem dX5_takes_21 : decode cX5_takes 21 = .ok (.bipush 16, 2) := by decide +kernel
theorem dX5_takes_23 : decode cX5_takes 23 = .ok (.if_icmp .gt 7, 3) := by decide +kernel
theorem dX5_takes_26 : decode cX5_takes 26 = .ok (.iconst 1, 1) := by decide +kernel
theorem dX5_takes_27 : decode cX5_takes 27 = .ok (.goto 4, 3) := by decide +kernel
theorem dX5_takes_30 : decode cX5_takes 30 = .ok (.iconst 0, 1) := by decide +kernel
theorem dX5_takes_31 : decode cX5_takes 31 = .ok (.ireturn, 1) := by decide +kernel
theorem dX5_add_0 : decode cX5_add 0 = .ok (.aload_n 0, 1) := by decide +kernel
theorem dX5_add_1 : decode cX5_add 1 = .ok (.invokevirtual 56, 3) := by decide +kernel
theorem dX5_add_4 : decode cX5_add 4 = .ok (.ifCond .eq 6, 3) := by decide +kernel
theorem dX5_add_7 : decode cX5_add 7 = .ok (.bipush (-3), 2) := by decide +kernel
theorem dX5_add_9 : decode cX5_add 9 = .ok (.ireturn, 1) := by decide +kernel
theorem dX5_add_10 : decode cX5_add 10 = .ok (.aload_n 0, 1) := by decide +kernel
theorem dX5_add_11 : decode cX5_add 11 = .ok (.getfield 9, 3) := by decide +kernel
theorem dX5_add_14 : decode cX5_add 14 = .ok (.aload_n 0, 1) := by decide +kernel
theorem dX5_add_15 : decode cX5_add 15 = .ok (.getfield 36, 3) := by decide +kernel
theorem dX5_add_18 : decode cX5_add 18 = .ok (.iload_n 1, 1) := by decide +kernel
theorem dX5_add_19 : decode cX5_add 19 = .ok (.iastore, 1) := by decide +kernel
theorem dX5_add_20 : decode cX5_add 20 = .ok (.aload_n 0, 1) := by decide +kernel
theorem dX5_add_21 : decode cX5_add 21 = .ok (.getfield 15, 3) := by decide +kernel
theorem dX5_add_24 : decode cX5_add 24 = .ok (.aload_n 0, 1) := by decide +kernel
theorem dX5_add_25 : decode cX5_add 25 = .ok (.getfield 36, 3) := by decide +kernel
theorem dX5_add_28 : decode cX5_add 28 = .ok (.iload_n 2, 1) := by decide +kernel
theorem dX5_add_29 : decode cX5_add 29 = .ok (.iastore, 1) := by decide +kernel
theorem dX5_add_30 : decode cX5_add 30 = .ok (.aload_n 0, 1) := by decide +kernel
theorem dX5_add_31 : decode cX5_add 31 = .ok (.getfield 18, 3) := by decide +kernel
theorem dX5_add_34 : decode cX5_add 34 = .ok (.aload_n 0, 1) := by decide +kernel
theorem dX5_add_35 : decode cX5_add 35 = .ok (.getfield 36, 3) := by decide +kernel
theorem dX5_add_38 : decode cX5_add 38 = .ok (.iload_n 3, 1) := by decide +kernel
theorem dX5_add_39 : decode cX5_add 39 = .ok (.iastore, 1) := by decide +kernel
theorem dX5_add_40 : decode cX5_add 40 = .ok (.aload_n 0, 1) := by decide +kernel
theorem dX5_add_41 : decode cX5_add 41 = .ok (.getfield 21, 3) := by decide +kernel
theorem dX5_add_44 : decode cX5_add 44 = .ok (.aload_n 0, 1) := by decide +kernel
theorem dX5_add_45 : decode cX5_add 45 = .ok (.getfield 36, 3) := by decide +kernel
theorem dX5_add_48 : decode cX5_add 48 = .ok (.iload 4, 2) := by decide +kernel
theorem dX5_add_50 : decode cX5_add 50 = .ok (.iastore, 1) := by decide +kernel
theorem dX5_add_51 : decode cX5_add 51 = .ok (.aload_n 0, 1) := by decide +kernel
theorem dX5_add_52 : decode cX5_add 52 = .ok (.getfield 24, 3) := by decide +kernel
theorem dX5_add_55 : decode cX5_add 55 = .ok (.aload_n 0, 1) := by decide +kernel
theorem dX5_add_56 : decode cX5_add 56 = .ok (.getfield 36, 3) := by decide +kernel
theorem dX5_add_59 : decode cX5_add 59 = .ok (.aload_n 0, 1) := by decide +kernel
theorem dX5_add_60 : decode cX5_add 60 = .ok (.iload_n 1, 1) := by decide +kernel
theorem dX5_add_61 : decode cX5_add 61 = .ok (.iload_n 2, 1) := by decide +kernel
theorem dX5_add_62 : decode cX5_add 62 = .ok (.iload_n 3, 1) := by decide +kernel
theorem dX5_add_63 : decode cX5_add 63 = .ok (.iload 4, 2) := by decide +kernel
theorem dX5_add_65 : decode cX5_add 65 = .ok (.invokevirtual 52, 3) := by decide +kernel
theorem dX5_add_68 : decode cX5_add 68 = .ok (.iastore, 1) := by decide +kernel
theorem dX5_add_69 : decode cX5_add 69 = .ok (.aload_n 0, 1) := by decide +kernel
theorem dX5_add_70 : decode cX5_add 70 = .ok (.dup, 1) := by decide +kernel
theorem dX5_add_71 : decode cX5_add 71 = .ok (.getfield 36, 3) := by decide +kernel
theorem dX5_add_74 : decode cX5_add 74 = .ok (.iconst 1, 1) := by decide +kernel
theorem dX5_add_75 : decode cX5_add 75 = .ok (.iadd, 1) := by decide +kernel
theorem dX5_add_76 : decode cX5_add 76 = .ok (.putfield 36, 3) := by decide +kernel
theorem dX5_add_79 : decode cX5_add 79 = .ok (.aload_n 0, 1) := by decide +kernel
theorem dX5_add_80 : decode cX5_add 80 = .ok (.getfield 36, 3) := by decide +kernel
theorem dX5_add_83 : decode cX5_add 83 = .ok (.iconst 1, 1) := by decide +kernel
theorem dX5_add_84 : decode cX5_add 84 = .ok (.isub, 1) := by decide +kernel
theorem dX5_add_85 : decode cX5_add 85 = .ok (.ireturn, 1) := by decide +kernel
theorem dX5_canLoseLast_0 : decode cX5_canLoseLast 0 = .ok (.aload_n 0, 1) := by decide +kernel
theorem dX5_canLoseLast_1 : decode cX5_canLoseLast 1 = .ok (.getfield 36, 3) := by decide +kernel
theorem dX5_canLoseLast_4 : decode cX5_canLoseLast 4 = .ok (.ifCond .ne 5, 3) := by decide +kernel
theorem dX5_canLoseLast_7 : decode cX5_canLoseLast 7 = .ok (.iconst 0, 1) := by decide +kernel
theorem dX5_canLoseLast_8 : decode cX5_canLoseLast 8 = .ok (.ireturn, 1) := by decide +kernel
theorem dX5_canLoseLast_9 : decode cX5_canLoseLast 9 = .ok (.iconst 0, 1) := by decide +kernel
theorem dX5_canLoseLast_10 : decode cX5_canLoseLast 10 = .ok (.istore_n 1, 1) := by decide +kernel
theorem dX5_canLoseLast_11 : decode cX5_canLoseLast 11 = .ok (.iload_n 1, 1) := by decide +kernel
theorem dX5_canLoseLast_12 : decode cX5_canLoseLast 12 = .ok (.bipush 8, 2) := by decide +kernel
theorem dX5_canLoseLast_14 : decode cX5_canLoseLast 14 = .ok (.if_icmp .ge 26, 3) := by decide +kernel
theorem dX5_canLoseLast_17 : decode cX5_canLoseLast 17 = .ok (.aload_n 0, 1) := by decide +kernel
theorem dX5_canLoseLast_18 : decode cX5_canLoseLast 18 = .ok (.getfield 27, 3) := by decide +kernel
theorem dX5_canLoseLast_21 : decode cX5_canLoseLast 21 = .ok (.iload_n 1, 1) := by decide +kernel
theorem dX5_canLoseLast_22 : decode cX5_canLoseLast 22 = .ok (.iaload, 1) := by decide +kernel
theorem dX5_canLoseLast_23 : decode cX5_canLoseLast 23 = .ok (.aload_n 0, 1) := by decide +kernel
theorem dX5_canLoseLast_24 : decode cX5_canLoseLast 24 = .ok (.getfield 36, 3) := by decide +kernel
theorem dX5_canLoseLast_27 : decode cX5_canLoseLast 27 = .ok (.iconst 1, 1) := by decide +kernel
theorem dX5_canLoseLast_28 : decode cX5_canLoseLast 28 = .ok (.isub, 1) := by decide +kernel
theorem dX5_canLoseLast_29 : decode cX5_canLoseLast 29 = .ok (.if_icmp .ne 5, 3) := by decide +kernel
theorem dX5_canLoseLast_32 : decode cX5_canLoseLast 32 = .ok (.iconst 0, 1) := by decide +kernel
theorem dX5_canLoseLast_33 : decode cX5_canLoseLast 33 = .ok (.ireturn, 1) := by decide +kernel
theorem dX5_canLoseLast_34 : decode cX5_canLoseLast 34 = .ok (.iinc 1 1, 3) := by decide +kernel
theorem dX5_canLoseLast_37 : decode cX5_canLoseLast 37 = .ok (.goto (-26), 3) := by decide +kernel
theorem dX5_canLoseLast_40 : decode cX5_canLoseLast 40 = .ok (.iconst 1, 1) := by decide +kernel
theorem dX5_canLoseLast_41 : decode cX5_canLoseLast 41 = .ok (.ireturn, 1) := by decide +kernel
theorem dX5_loseLast_0 : decode cX5_loseLast 0 = .ok (.aload_n 0, 1) := by decide +kernel
theorem dX5_loseLast_1 : decode cX5_loseLast 1 = .ok (.iconst 0, 1) := by decide +kernel
theorem dX5_loseLast_2 : decode cX5_loseLast 2 = .ok (.aload_n 0, 1) := by decide +kernel
theorem dX5_loseLast_3 : decode cX5_loseLast 3 = .ok (.getfield 36, 3) := by decide +kernel
theorem dX5_loseLast_6 : decode cX5_loseLast 6 = .ok (.iconst 1, 1) := by decide +kernel
theorem dX5_loseLast_7 : decode cX5_loseLast 7 = .ok (.isub, 1) := by decide +kernel
theorem dX5_loseLast_8 : decode cX5_loseLast 8 = .ok (.invokestatic 60, 3) := by decide +kernel
theorem dX5_loseLast_11 : decode cX5_loseLast 11 = .ok (.putfield 36, 3) := by decide +kernel
theorem dX5_loseLast_14 : decode cX5_loseLast 14 = .ok (.aload_n 0, 1) := by decide +kernel
theorem dX5_loseLast_15 : decode cX5_loseLast 15 = .ok (.getfield 36, 3) := by decide +kernel
theorem dX5_loseLast_18 : decode cX5_loseLast 18 = .ok (.ireturn, 1) := by decide +kernel
theorem dX5_operandsFit_0 : decode cX5_operandsFit 0 = .ok (.iload_n 1, 1) := by decide +kernel
theorem dX5_operandsFit_1 : decode cX5_operandsFit 1 = .ok (.tableswitch 392 0 21 #[103, 108, 108, 108, 108, 108, 136, 156, 184, 212, 232, 237, 257, 279, 309, 330, 103, 103, 337, 257, 370, 103], 103) := by decide +kernel
theorem dX5_operandsFit_104 : decode cX5_operandsFit 104 = .ok (.iload_n 2, 1) := by decide +kernel
theorem dX5_operandsFit_105 : decode cX5_operandsFit 105 = .ok (.invokestatic 66, 3) := by decide +kernel
theorem dX5_operandsFit_108 : decode cX5_operandsFit 108 = .ok (.ireturn, 1) := by decide +kernel
theorem dX5_operandsFit_109 : decode cX5_operandsFit 109 = .ok (.iload_n 2, 1) := by decide +kernel
theorem dX5_operandsFit_110 : decode cX5_operandsFit 110 = .ok (.invokestatic 66, 3) := by decide +kernel
theorem dX5_operandsFit_113 : decode cX5_operandsFit 113 = .ok (.ifCond .eq 22, 3) := by decide +kernel
theorem dX5_operandsFit_116 : decode cX5_operandsFit 116 = .ok (.iload_n 3, 1) := by decide +kernel
theorem dX5_operandsFit_117 : decode cX5_operandsFit 117 = .ok (.invokestatic 66, 3) := by decide +kernel
theorem dX5_operandsFit_120 : decode cX5_operandsFit 120 = .ok (.ifCond .eq 15, 3) := by decide +kernel
theorem dX5_operandsFit_123 : decode cX5_operandsFit 123 = .ok (.iload 4, 2) := by decide +kernel
theorem dX5_operandsFit_125 : decode cX5_operandsFit 125 = .ok (.invokestatic 66, 3) := by decide +kernel
theorem dX5_operandsFit_128 : decode cX5_operandsFit 128 = .ok (.ifCond .eq 7, 3) := by decide +kernel
theorem dX5_operandsFit_131 : decode cX5_operandsFit 131 = .ok (.iconst 1, 1) := by decide +kernel
theorem dX5_operandsFit_132 : decode cX5_operandsFit 132 = .ok (.goto 4, 3) := by decide +kernel
theorem dX5_operandsFit_135 : decode cX5_operandsFit 135 = .ok (.iconst 0, 1) := by decide +kernel
theorem dX5_operandsFit_136 : decode cX5_operandsFit 136 = .ok (.ireturn, 1) := by decide +kernel
theorem dX5_operandsFit_137 : decode cX5_operandsFit 137 = .ok (.iload_n 2, 1) := by decide +kernel
theorem dX5_operandsFit_138 : decode cX5_operandsFit 138 = .ok (.invokestatic 69, 3) := by decide +kernel
theorem dX5_operandsFit_141 : decode cX5_operandsFit 141 = .ok (.ifCond .eq 14, 3) := by decide +kernel
theorem dX5_operandsFit_144 : decode cX5_operandsFit 144 = .ok (.iload_n 3, 1) := by decide +kernel
theorem dX5_operandsFit_145 : decode cX5_operandsFit 145 = .ok (.invokestatic 66, 3) := by decide +kernel
theorem dX5_operandsFit_148 : decode cX5_operandsFit 148 = .ok (.ifCond .eq 7, 3) := by decide +kernel
theorem dX5_operandsFit_151 : decode cX5_operandsFit 151 = .ok (.iconst 1, 1) := by decide +kernel
theorem dX5_operandsFit_152 : decode cX5_operandsFit 152 = .ok (.goto 4, 3) := by decide +kernel
theorem dX5_operandsFit_155 : decode cX5_operandsFit 155 = .ok (.iconst 0, 1) := by decide +kernel
theorem dX5_operandsFit_156 : decode cX5_operandsFit 156 = .ok (.ireturn, 1) := by decide +kernel
theorem dX5_operandsFit_157 : decode cX5_operandsFit 157 = .ok (.iload_n 2, 1) := by decide +kernel
theorem dX5_operandsFit_158 : decode cX5_operandsFit 158 = .ok (.invokestatic 66, 3) := by decide +kernel
theorem dX5_operandsFit_161 : decode cX5_operandsFit 161 = .ok (.ifCond .eq 22, 3) := by decide +kernel
theorem dX5_operandsFit_164 : decode cX5_operandsFit 164 = .ok (.iload_n 3, 1) := by decide +kernel
theorem dX5_operandsFit_165 : decode cX5_operandsFit 165 = .ok (.invokestatic 69, 3) := by decide +kernel
theorem dX5_operandsFit_168 : decode cX5_operandsFit 168 = .ok (.ifCond .eq 15, 3) := by decide +kernel
theorem dX5_operandsFit_171 : decode cX5_operandsFit 171 = .ok (.iload 4, 2) := by decide +kernel
theorem dX5_operandsFit_173 : decode cX5_operandsFit 173 = .ok (.invokestatic 66, 3) := by decide +kernel
theorem dX5_operandsFit_176 : decode cX5_operandsFit 176 = .ok (.ifCond .eq 7, 3) := by decide +kernel
theorem dX5_operandsFit_179 : decode cX5_operandsFit 179 = .ok (.iconst 1, 1) := by decide +kernel
theorem dX5_operandsFit_180 : decode cX5_operandsFit 180 = .ok (.goto 4, 3) := by decide +kernel
theorem dX5_operandsFit_183 : decode cX5_operandsFit 183 = .ok (.iconst 0, 1) := by decide +kernel
theorem dX5_operandsFit_184 : decode cX5_operandsFit 184 = .ok (.ireturn, 1) := by decide +kernel
theorem dX5_operandsFit_185 : decode cX5_operandsFit 185 = .ok (.iload_n 2, 1) := by decide +kernel
theorem dX5_operandsFit_186 : decode cX5_operandsFit 186 = .ok (.invokestatic 69, 3) := by decide +kernel
theorem dX5_operandsFit_189 : decode cX5_operandsFit 189 = .ok (.ifCond .eq 22, 3) := by decide +kernel
theorem dX5_operandsFit_192 : decode cX5_operandsFit 192 = .ok (.iload_n 3, 1) := by decide +kernel
theorem dX5_operandsFit_193 : decode cX5_operandsFit 193 = .ok (.invokestatic 66, 3) := by decide +kernel
theorem dX5_operandsFit_196 : decode cX5_operandsFit 196 = .ok (.ifCond .eq 15, 3) := by decide +kernel
theorem dX5_operandsFit_199 : decode cX5_operandsFit 199 = .ok (.iload 4, 2) := by decide +kernel
theorem dX5_operandsFit_201 : decode cX5_operandsFit 201 = .ok (.invokestatic 66, 3) := by decide +kernel
theorem dX5_operandsFit_204 : decode cX5_operandsFit 204 = .ok (.ifCond .eq 7, 3) := by decide +kernel
theorem dX5_operandsFit_207 : decode cX5_operandsFit 207 = .ok (.iconst 1, 1) := by decide +kernel
theorem dX5_operandsFit_208 : decode cX5_operandsFit 208 = .ok (.goto 4, 3) := by decide +kernel
theorem dX5_operandsFit_211 : decode cX5_operandsFit 211 = .ok (.iconst 0, 1) := by decide +kernel
theorem dX5_operandsFit_212 : decode cX5_operandsFit 212 = .ok (.ireturn, 1) := by decide +kernel
theorem dX5_operandsFit_213 : decode cX5_operandsFit 213 = .ok (.iload_n 2, 1) := by decide +kernel
theorem dX5_operandsFit_214 : decode cX5_operandsFit 214 = .ok (.invokestatic 66, 3) := by decide +kernel
theorem dX5_operandsFit_217 : decode cX5_operandsFit 217 = .ok (.ifCond .eq 14, 3) := by decide +kernel
theorem dX5_operandsFit_220 : decode cX5_operandsFit 220 = .ok (.iload_n 3, 1) := by decide +kernel
theorem dX5_operandsFit_221 : decode cX5_operandsFit 221 = .ok (.invokestatic 69, 3) := by decide +kernel
theorem dX5_operandsFit_224 : decode cX5_operandsFit 224 = .ok (.ifCond .eq 7, 3) := by decide +kernel
theorem dX5_operandsFit_227 : decode cX5_operandsFit 227 = .ok (.iconst 1, 1) := by decide +kernel
theorem dX5_operandsFit_228 : decode cX5_operandsFit 228 = .ok (.goto 4, 3) := by decide +kernel
theorem dX5_operandsFit_231 : decode cX5_operandsFit 231 = .ok (.iconst 0, 1) := by decide +kernel
theorem dX5_operandsFit_232 : decode cX5_operandsFit 232 = .ok (.ireturn, 1) := by decide +kernel
theorem dX5_operandsFit_233 : decode cX5_operandsFit 233 = .ok (.iload_n 2, 1) := by decide +kernel
theorem dX5_operandsFit_234 : decode cX5_operandsFit 234 = .ok (.invokestatic 69, 3) := by decide +kernel
theorem dX5_operandsFit_237 : decode cX5_operandsFit 237 = .ok (.ireturn, 1) := by decide +kernel
theorem dX5_operandsFit_238 : decode cX5_operandsFit 238 = .ok (.iload_n 2, 1) := by decide +kernel
theorem dX5_operandsFit_239 : decode cX5_operandsFit 239 = .ok (.invokestatic 69, 3) := by decide +kernel
theorem dX5_operandsFit_242 : decode cX5_operandsFit 242 = .ok (.ifCond .eq 14, 3) := by decide +kernel
theorem dX5_operandsFit_245 : decode cX5_operandsFit 245 = .ok (.iload_n 3, 1) := by decide +kernel
theorem dX5_operandsFit_246 : decode cX5_operandsFit 246 = .ok (.invokestatic 69, 3) := by decide +kernel
theorem dX5_operandsFit_249 : decode cX5_operandsFit 249 = .ok (.ifCond .eq 7, 3) := by decide +kernel
theorem dX5_operandsFit_252 : decode cX5_operandsFit 252 = .ok (.iconst 1, 1) := by decide +kernel
theorem dX5_operandsFit_253 : decode cX5_operandsFit 253 = .ok (.goto 4, 3) := by decide +kernel
theorem dX5_operandsFit_256 : decode cX5_operandsFit 256 = .ok (.iconst 0, 1) := by decide +kernel
theorem dX5_operandsFit_257 : decode cX5_operandsFit 257 = .ok (.ireturn, 1) := by decide +kernel
theorem dX5_operandsFit_258 : decode cX5_operandsFit 258 = .ok (.aload_n 0, 1) := by decide +kernel
theorem dX5_operandsFit_259 : decode cX5_operandsFit 259 = .ok (.iload_n 2, 1) := by decide +kernel
theorem dX5_operandsFit_260 : decode cX5_operandsFit 260 = .ok (.invokevirtual 44, 3) := by decide +kernel
theorem dX5_operandsFit_263 : decode cX5_operandsFit 263 = .ok (.ifCond .eq 15, 3) := by decide +kernel
theorem dX5_operandsFit_266 : decode cX5_operandsFit 266 = .ok (.aload_n 0, 1) := by decide +kernel
theorem dX5_operandsFit_267 : decode cX5_operandsFit 267 = .ok (.iload_n 3, 1) := by decide +kernel
theorem dX5_operandsFit_268 : decode cX5_operandsFit 268 = .ok (.invokevirtual 44, 3) := by decide +kernel
theorem dX5_operandsFit_271 : decode cX5_operandsFit 271 = .ok (.ifCond .eq 7, 3) := by decide +kernel
theorem dX5_operandsFit_274 : decode cX5_operandsFit 274 = .ok (.iconst 1, 1) := by decide +kernel
theorem dX5_operandsFit_275 : decode cX5_operandsFit 275 = .ok (.goto 4, 3) := by decide +kernel
theorem dX5_operandsFit_278 : decode cX5_operandsFit 278 = .ok (.iconst 0, 1) := by decide +kernel
theorem dX5_operandsFit_279 : decode cX5_operandsFit 279 = .ok (.ireturn, 1) := by decide +kernel
theorem dX5_operandsFit_280 : decode cX5_operandsFit 280 = .ok (.iload_n 2, 1) := by decide +kernel
theorem dX5_operandsFit_281 : decode cX5_operandsFit 281 = .ok (.invokestatic 66, 3) := by decide +kernel
theorem dX5_operandsFit_284 : decode cX5_operandsFit 284 = .ok (.ifCond .eq 24, 3) := by decide +kernel
theorem dX5_operandsFit_287 : decode cX5_operandsFit 287 = .ok (.aload_n 0, 1) := by decide +kernel
theorem dX5_operandsFit_288 : decode cX5_operandsFit 288 = .ok (.iload_n 3, 1) := by decide +kernel
theorem dX5_operandsFit_289 : decode cX5_operandsFit 289 = .ok (.invokevirtual 44, 3) := by decide +kernel
theorem dX5_operandsFit_292 : decode cX5_operandsFit 292 = .ok (.ifCond .eq 16, 3) := by decide +kernel
theorem dX5_operandsFit_295 : decode cX5_operandsFit 295 = .ok (.aload_n 0, 1) := by decide +kernel
theorem dX5_operandsFit_296 : decode cX5_operandsFit 296 = .ok (.iload 4, 2) := by decide +kernel
theorem dX5_operandsFit_298 : decode cX5_operandsFit 298 = .ok (.invokevirtual 44, 3) := by decide +kernel
theorem dX5_operandsFit_301 : decode cX5_operandsFit 301 = .ok (.ifCond .eq 7, 3) := by decide +kernel
theorem dX5_operandsFit_304 : decode cX5_operandsFit 304 = .ok (.iconst 1, 1) := by decide +kernel
theorem dX5_operandsFit_305 : decode cX5_operandsFit 305 = .ok (.goto 4, 3) := by decide +kernel
theorem dX5_operandsFit_308 : decode cX5_operandsFit 308 = .ok (.iconst 0, 1) := by decide +kernel
theorem dX5_operandsFit_309 : decode cX5_operandsFit 309 = .ok (.ireturn, 1) := by decide +kernel
theorem dX5_operandsFit_310 : decode cX5_operandsFit 310 = .ok (.iload_n 2, 1) := by decide +kernel
theorem dX5_operandsFit_311 : decode cX5_operandsFit 311 = .ok (.invokestatic 66, 3) := by decide +kernel
theorem dX5_operandsFit_314 : decode cX5_operandsFit 314 = .ok (.ifCond .eq 15, 3) := by decide +kernel
theorem dX5_operandsFit_317 : decode cX5_operandsFit 317 = .ok (.aload_n 0, 1) := by decide +kernel
theorem dX5_operandsFit_318 : decode cX5_operandsFit 318 = .ok (.iload_n 3, 1) := by decide +kernel
theorem dX5_operandsFit_319 : decode cX5_operandsFit 319 = .ok (.invokevirtual 44, 3) := by decide +kernel
theorem dX5_operandsFit_322 : decode cX5_operandsFit 322 = .ok (.ifCond .eq 7, 3) := by decide +kernel
theorem dX5_operandsFit_325 : decode cX5_operandsFit 325 = .ok (.iconst 1, 1) := by decide +kernel
theorem dX5_operandsFit_326 : decode cX5_operandsFit 326 = .ok (.goto 4, 3) := by decide +kernel
theorem dX5_operandsFit_329 : decode cX5_operandsFit 329 = .ok (.iconst 0, 1) := by decide +kernel
theorem dX5_operandsFit_330 : decode cX5_operandsFit 330 = .ok (.ireturn, 1) := by decide +kernel
theorem dX5_operandsFit_331 : decode cX5_operandsFit 331 = .ok (.iload_n 2, 1) := by decide +kernel
theorem dX5_operandsFit_332 : decode cX5_operandsFit 332 = .ok (.bipush 8, 2) := by decide +kernel
theorem dX5_operandsFit_334 : decode cX5_operandsFit 334 = .ok (.invokestatic 40, 3) := by decide +kernel
theorem dX5_operandsFit_337 : decode cX5_operandsFit 337 = .ok (.ireturn, 1) := by decide +kernel
theorem dX5_operandsFit_338 : decode cX5_operandsFit 338 = .ok (.aload_n 0, 1) := by decide +kernel
theorem dX5_operandsFit_339 : decode cX5_operandsFit 339 = .ok (.iload_n 2, 1) := by decide +kernel
theorem dX5_operandsFit_340 : decode cX5_operandsFit 340 = .ok (.invokevirtual 44, 3) := by decide +kernel
theorem dX5_operandsFit_343 : decode cX5_operandsFit 343 = .ok (.ifCond .eq 26, 3) := by decide +kernel
theorem dX5_operandsFit_346 : decode cX5_operandsFit 346 = .ok (.iload_n 3, 1) := by decide +kernel
theorem dX5_operandsFit_347 : decode cX5_operandsFit 347 = .ok (.sipush 128, 3) := by decide +kernel
theorem dX5_operandsFit_350 : decode cX5_operandsFit 350 = .ok (.invokestatic 40, 3) := by decide +kernel
theorem dX5_operandsFit_353 : decode cX5_operandsFit 353 = .ok (.ifCond .eq 16, 3) := by decide +kernel
theorem dX5_operandsFit_356 : decode cX5_operandsFit 356 = .ok (.aload_n 0, 1) := by decide +kernel
theorem dX5_operandsFit_357 : decode cX5_operandsFit 357 = .ok (.iload 4, 2) := by decide +kernel
theorem dX5_operandsFit_359 : decode cX5_operandsFit 359 = .ok (.invokevirtual 44, 3) := by decide +kernel
theorem dX5_operandsFit_362 : decode cX5_operandsFit 362 = .ok (.ifCond .eq 7, 3) := by decide +kernel
theorem dX5_operandsFit_365 : decode cX5_operandsFit 365 = .ok (.iconst 1, 1) := by decide +kernel
theorem dX5_operandsFit_366 : decode cX5_operandsFit 366 = .ok (.goto 4, 3) := by decide +kernel
theorem dX5_operandsFit_369 : decode cX5_operandsFit 369 = .ok (.iconst 0, 1) := by decide +kernel
theorem dX5_operandsFit_370 : decode cX5_operandsFit 370 = .ok (.ireturn, 1) := by decide +kernel
theorem dX5_operandsFit_371 : decode cX5_operandsFit 371 = .ok (.iload_n 2, 1) := by decide +kernel
theorem dX5_operandsFit_372 : decode cX5_operandsFit 372 = .ok (.iconst 4, 1) := by decide +kernel
theorem dX5_operandsFit_373 : decode cX5_operandsFit 373 = .ok (.invokestatic 40, 3) := by decide +kernel
theorem dX5_operandsFit_376 : decode cX5_operandsFit 376 = .ok (.ifCond .eq 15, 3) := by decide +kernel
theorem dX5_operandsFit_379 : decode cX5_operandsFit 379 = .ok (.aload_n 0, 1) := by decide +kernel
theorem dX5_operandsFit_380 : decode cX5_operandsFit 380 = .ok (.iload_n 3, 1) := by decide +kernel
theorem dX5_operandsFit_381 : decode cX5_operandsFit 381 = .ok (.invokevirtual 44, 3) := by decide +kernel
theorem dX5_operandsFit_384 : decode cX5_operandsFit 384 = .ok (.ifCond .eq 7, 3) := by decide +kernel
theorem dX5_operandsFit_387 : decode cX5_operandsFit 387 = .ok (.iconst 1, 1) := by decide +kernel
theorem dX5_operandsFit_388 : decode cX5_operandsFit 388 = .ok (.goto 4, 3) := by decide +kernel
theorem dX5_operandsFit_391 : decode cX5_operandsFit 391 = .ok (.iconst 0, 1) := by decide +kernel
theorem dX5_operandsFit_392 : decode cX5_operandsFit 392 = .ok (.ireturn, 1) := by decide +kernel
theorem dX5_operandsFit_393 : decode cX5_operandsFit 393 = .ok (.iconst 0, 1) := by decide +kernel
theorem dX5_operandsFit_394 : decode cX5_operandsFit 394 = .ok (.ireturn, 1) := by decide +kernel
theorem dX5_heightWith_0 : decode cX5_heightWith 0 = .ok (.iload_n 1, 1) := by decide +kernel
theorem dX5_heightWith_1 : decode cX5_heightWith 1 = .ok (.tableswitch 109 12 20 #[51, 67, 84, 109, 109, 109, 92, 51, 84], 51) := by decide +kernel
theorem dX5_heightWith_52 : decode cX5_heightWith 52 = .ok (.iconst 1, 1) := by decide +kernel
theorem dX5_heightWith_53 : decode cX5_heightWith 53 = .ok (.aload_n 0, 1) := by decide +kernel
theorem dX5_heightWith_54 : decode cX5_heightWith 54 = .ok (.iload_n 2, 1) := by decide +kernel
theorem dX5_heightWith_55 : decode cX5_heightWith 55 = .ok (.invokevirtual 74, 3) := by decide +kernel
theorem dX5_heightWith_58 : decode cX5_heightWith 58 = .ok (.aload_n 0, 1) := by decide +kernel
theorem dX5_heightWith_59 : decode cX5_heightWith 59 = .ok (.iload_n 3, 1) := by decide +kernel
theorem dX5_heightWith_60 : decode cX5_heightWith 60 = .ok (.invokevirtual 74, 3) := by decide +kernel
theorem dX5_heightWith_63 : decode cX5_heightWith 63 = .ok (.invokestatic 60, 3) := by decide +kernel
theorem dX5_heightWith_66 : decode cX5_heightWith 66 = .ok (.iadd, 1) := by decide +kernel
theorem dX5_heightWith_67 : decode cX5_heightWith 67 = .ok (.ireturn, 1) := by decide +kernel
theorem dX5_heightWith_68 : decode cX5_heightWith 68 = .ok (.iconst 1, 1) := by decide +kernel
theorem dX5_heightWith_69 : decode cX5_heightWith 69 = .ok (.aload_n 0, 1) := by decide +kernel
theorem dX5_heightWith_70 : decode cX5_heightWith 70 = .ok (.iload_n 3, 1) := by decide +kernel
theorem dX5_heightWith_71 : decode cX5_heightWith 71 = .ok (.invokevirtual 74, 3) := by decide +kernel
theorem dX5_heightWith_74 : decode cX5_heightWith 74 = .ok (.aload_n 0, 1) := by decide +kernel
theorem dX5_heightWith_75 : decode cX5_heightWith 75 = .ok (.iload 4, 2) := by decide +kernel
theorem dX5_heightWith_77 : decode cX5_heightWith 77 = .ok (.invokevirtual 74, 3) := by decide +kernel
theorem dX5_heightWith_80 : decode cX5_heightWith 80 = .ok (.invokestatic 60, 3) := by decide +kernel
theorem dX5_heightWith_83 : decode cX5_heightWith 83 = .ok (.iadd, 1) := by decide +kernel
theorem dX5_heightWith_84 : decode cX5_heightWith 84 = .ok (.ireturn, 1) := by decide +kernel
theorem dX5_heightWith_85 : decode cX5_heightWith 85 = .ok (.iconst 1, 1) := by decide +kernel
theorem dX5_heightWith_86 : decode cX5_heightWith 86 = .ok (.aload_n 0, 1) := by decide +kernel
theorem dX5_heightWith_87 : decode cX5_heightWith 87 = .ok (.iload_n 3, 1) := by decide +kernel
theorem dX5_heightWith_88 : decode cX5_heightWith 88 = .ok (.invokevirtual 74, 3) := by decide +kernel
theorem dX5_heightWith_91 : decode cX5_heightWith 91 = .ok (.iadd, 1) := by decide +kernel
theorem dX5_heightWith_92 : decode cX5_heightWith 92 = .ok (.ireturn, 1) := by decide +kernel
theorem dX5_heightWith_93 : decode cX5_heightWith 93 = .ok (.iconst 1, 1) := by decide +kernel
theorem dX5_heightWith_94 : decode cX5_heightWith 94 = .ok (.aload_n 0, 1) := by decide +kernel
theorem dX5_heightWith_95 : decode cX5_heightWith 95 = .ok (.iload_n 2, 1) := by decide +kernel
theorem dX5_heightWith_96 : decode cX5_heightWith 96 = .ok (.invokevirtual 74, 3) := by decide +kernel
theorem dX5_heightWith_99 : decode cX5_heightWith 99 = .ok (.aload_n 0, 1) := by decide +kernel
theorem dX5_heightWith_100 : decode cX5_heightWith 100 = .ok (.iload 4, 2) := by decide +kernel
theorem dX5_heightWith_102 : decode cX5_heightWith 102 = .ok (.invokevirtual 74, 3) := by decide +kernel
theorem dX5_heightWith_105 : decode cX5_heightWith 105 = .ok (.invokestatic 60, 3) := by decide +kernel
theorem dX5_heightWith_108 : decode cX5_heightWith 108 = .ok (.iadd, 1) := by decide +kernel
theorem dX5_heightWith_109 : decode cX5_heightWith 109 = .ok (.ireturn, 1) := by decide +kernel
theorem dX5_heightWith_110 : decode cX5_heightWith 110 = .ok (.iconst 1, 1) := by decide +kernel
theorem dX5_heightWith_111 : decode cX5_heightWith 111 = .ok (.ireturn, 1) := by decide +kernel
theorem dX5_heightOf_0 : decode cX5_heightOf 0 = .ok (.aload_n 0, 1) := by decide +kernel
theorem dX5_heightOf_1 : decode cX5_heightOf 1 = .ok (.iload_n 1, 1) := by decide +kernel
theorem dX5_heightOf_2 : decode cX5_heightOf 2 = .ok (.invokevirtual 44, 3) := by decide +kernel
theorem dX5_heightOf_5 : decode cX5_heightOf 5 = .ok (.ifCond .eq 12, 3) := by decide +kernel
theorem dX5_heightOf_8 : decode cX5_heightOf 8 = .ok (.aload_n 0, 1) := by decide +kernel
theorem dX5_heightOf_9 : decode cX5_heightOf 9 = .ok (.getfield 24, 3) := by decide +kernel
theorem dX5_heightOf_12 : decode cX5_heightOf 12 = .ok (.iload_n 1, 1) := by decide +kernel
theorem dX5_heightOf_13 : decode cX5_heightOf 13 = .ok (.iaload, 1) := by decide +kernel
theorem dX5_heightOf_14 : decode cX5_heightOf 14 = .ok (.goto 4, 3) := by decide +kernel
theorem dX5_heightOf_17 : decode cX5_heightOf 17 = .ok (.iconst 0, 1) := by decide +kernel
theorem dX5_heightOf_18 : decode cX5_heightOf 18 = .ok (.ireturn, 1) := by decide +kernel
theorem dX5_isVariable_0 : decode cX5_isVariable 0 = .ok (.iload_n 0, 1) := by decide +kernel
theorem dX5_isVariable_1 : decode cX5_isVariable 1 = .ok (.bipush 8, 2) := by decide +kernel
theorem dX5_isVariable_3 : decode cX5_isVariable 3 = .ok (.invokestatic 40, 3) := by decide +kernel
theorem dX5_isVariable_6 : decode cX5_isVariable 6 = .ok (.ireturn, 1) := by decide +kernel
theorem dX5_isRow_0 : decode cX5_isRow 0 = .ok (.iload_n 0, 1) := by decide +kernel
theorem dX5_isRow_1 : decode cX5_isRow 1 = .ok (.iconst 4, 1) := by decide +kernel
theorem dX5_isRow_2 : decode cX5_isRow 2 = .ok (.invokestatic 40, 3) := by decide +kernel
theorem dX5_isRow_5 : decode cX5_isRow 5 = .ok (.ireturn, 1) := by decide +kernel
theorem dX6_fill_0 : decode cX6_fill 0 = .ok (.aload_n 0, 1) := by decide +kernel
theorem dX6_fill_1 : decode cX6_fill 1 = .ok (.getfield 11, 3) := by decide +kernel
theorem dX6_fill_4 : decode cX6_fill 4 = .ok (.iconst 0, 1) := by decide +kernel
theorem dX6_fill_5 : decode cX6_fill 5 = .ok (.invokestatic 20, 3) := by decide +kernel
theorem dX6_fill_8 : decode cX6_fill 8 = .ok (.aload_n 0, 1) := by decide +kernel
theorem dX6_fill_9 : decode cX6_fill 9 = .ok (.iconst 0, 1) := by decide +kernel
theorem dX6_fill_10 : decode cX6_fill 10 = .ok (.putfield 26, 3) := by decide +kernel
theorem dX6_fill_13 : decode cX6_fill 13 = .ok (.aload_n 0, 1) := by decide +kernel
theorem dX6_fill_14 : decode cX6_fill 14 = .ok (.iload_n 1, 1) := by decide +kernel
theorem dX6_fill_15 : decode cX6_fill 15 = .ok (.putfield 30, 3) := by decide +kernel
theorem dX6_fill_18 : decode cX6_fill 18 = .ok (.aload_n 0, 1) := by decide +kernel
theorem dX6_fill_19 : decode cX6_fill 19 = .ok (.bipush 40, 2) := by decide +kernel
theorem dX6_fill_21 : decode cX6_fill 21 = .ok (.putfield 33, 3) := by decide +kernel
theorem dX6_fill_24 : decode cX6_fill 24 = .ok (.aload_n 0, 1) := by decide +kernel
theorem dX6_fill_25 : decode cX6_fill 25 = .ok (.iconst 0, 1) := by decide +kernel
theorem dX6_fill_26 : decode cX6_fill 26 = .ok (.putfield 36, 3) := by decide +kernel
theorem dX6_fill_29 : decode cX6_fill 29 = .ok (.aload_n 0, 1) := by decide +kernel
theorem dX6_fill_30 : decode cX6_fill 30 = .ok (.iconst 0, 1) := by decide +kernel
theorem dX6_fill_31 : decode cX6_fill 31 = .ok (.putfield 39, 3) := by decide +kernel
theorem dX6_fill_34 : decode cX6_fill 34 = .ok (.aload_n 0, 1) := by decide +kernel
theorem dX6_fill_35 : decode cX6_fill 35 = .ok (.iconst 0, 1) := by decide +kernel
theorem dX6_fill_36 : decode cX6_fill 36 = .ok (.putfield 42, 3) := by decide +kernel
theorem dX6_fill_39 : decode cX6_fill 39 = .ok (.return_, 1) := by decide +kernel
theorem dX6_isByReserve_0 : decode cX6_isByReserve 0 = .ok (.aload_n 0, 1) := by decide +kernel
theorem dX6_isByReserve_1 : decode cX6_isByReserve 1 = .ok (.getfield 42, 3) := by decide +kernel
theorem dX6_isByReserve_4 : decode cX6_isByReserve 4 = .ok (.ireturn, 1) := by decide +kernel
theorem dX6_setByReserve_0 : decode cX6_setByReserve 0 = .ok (.aload_n 0, 1) := by decide +kernel
theorem dX6_setByReserve_1 : decode cX6_setByReserve 1 = .ok (.iload_n 1, 1) := by decide +kernel
theorem dX6_setByReserve_2 : decode cX6_setByReserve 2 = .ok (.putfield 42, 3) := by decide +kernel
theorem dX6_setByReserve_5 : decode cX6_setByReserve 5 = .ok (.return_, 1) := by decide +kernel
theorem dX6_pays_0 : decode cX6_pays 0 = .ok (.iload_n 2, 1) := by decide +kernel
theorem dX6_pays_1 : decode cX6_pays 1 = .ok (.aload_n 0, 1) := by decide +kernel
theorem dX6_pays_2 : decode cX6_pays 2 = .ok (.getfield 42, 3) := by decide +kernel
theorem dX6_pays_5 : decode cX6_pays 5 = .ok (.ifCond .eq 10, 3) := by decide +kernel
theorem dX6_pays_8 : decode cX6_pays 8 = .ok (.aload_n 0, 1) := by decide +kernel
theorem dX6_pays_9 : decode cX6_pays 9 = .ok (.getfield 33, 3) := by decide +kernel
theorem dX6_pays_12 : decode cX6_pays 12 = .ok (.goto 7, 3) := by decide +kernel
theorem dX6_pays_15 : decode cX6_pays 15 = .ok (.aload_n 0, 1) := by decide +kernel
theorem dX6_pays_16 : decode cX6_pays 16 = .ok (.getfield 30, 3) := by decide +kernel
theorem dX6_pays_19 : decode cX6_pays 19 = .ok (.if_icmp .gt 11, 3) := by decide +kernel
theorem dX6_pays_22 : decode cX6_pays 22 = .ok (.iload_n 1, 1) := by decide +kernel
theorem dX6_pays_23 : decode cX6_pays 23 = .ok (.iconst 5, 1) := by decide +kernel
theorem dX6_pays_24 : decode cX6_pays 24 = .ok (.invokestatic 46, 3) := by decide +kernel
theorem dX6_pays_27 : decode cX6_pays 27 = .ok (.ifCond .ne 5, 3) := by decide +kernel
theorem dX6_pays_30 : decode cX6_pays 30 = .ok (.iconst 0, 1) := by decide +kernel
theorem dX6_pays_31 : decode cX6_pays 31 = .ok (.ireturn, 1) := by decide +kernel
theorem dX6_pays_32 : decode cX6_pays 32 = .ok (.aload_n 0, 1) := by decide +kernel
theorem dX6_pays_33 : decode cX6_pays 33 = .ok (.getfield 42, 3) := by decide +kernel
theorem dX6_pays_36 : decode cX6_pays 36 = .ok (.ifCond .eq 26, 3) := by decide +kernel
theorem dX6_pays_39 : decode cX6_pays 39 = .ok (.aload_n 0, 1) := by decide +kernel
theorem dX6_pays_40 : decode cX6_pays 40 = .ok (.dup, 1) := by decide +kernel
theorem dX6_pays_41 : decode cX6_pays 41 = .ok (.getfield 33, 3) := by decide +kernel
theorem dX6_pays_44 : decode cX6_pays 44 = .ok (.iload_n 2, 1) := by decide +kernel
theorem dX6_pays_45 : decode cX6_pays 45 = .ok (.isub, 1) := by decide +kernel
theorem dX6_pays_46 : decode cX6_pays 46 = .ok (.putfield 33, 3) := by decide +kernel
theorem dX6_pays_49 : decode cX6_pays 49 = .ok (.aload_n 0, 1) := by decide +kernel
theorem dX6_pays_50 : decode cX6_pays 50 = .ok (.dup, 1) := by decide +kernel
theorem dX6_pays_51 : decode cX6_pays 51 = .ok (.getfield 39, 3) := by decide +kernel
theorem dX6_pays_54 : decode cX6_pays 54 = .ok (.iload_n 2, 1) := by decide +kernel
theorem dX6_pays_55 : decode cX6_pays 55 = .ok (.iadd, 1) := by decide +kernel
theorem dX6_pays_56 : decode cX6_pays 56 = .ok (.putfield 39, 3) := by decide +kernel
theorem dX6_pays_59 : decode cX6_pays 59 = .ok (.goto 23, 3) := by decide +kernel
theorem dX6_pays_62 : decode cX6_pays 62 = .ok (.aload_n 0, 1) := by decide +kernel
theorem dX6_pays_63 : decode cX6_pays 63 = .ok (.dup, 1) := by decide +kernel
theorem dX6_pays_64 : decode cX6_pays 64 = .ok (.getfield 30, 3) := by decide +kernel
theorem dX6_pays_67 : decode cX6_pays 67 = .ok (.iload_n 2, 1) := by decide +kernel
theorem dX6_pays_68 : decode cX6_pays 68 = .ok (.isub, 1) := by decide +kernel
theorem dX6_pays_69 : decode cX6_pays 69 = .ok (.putfield 30, 3) := by decide +kernel
theorem dX6_pays_72 : decode cX6_pays 72 = .ok (.aload_n 0, 1) := by decide +kernel
theorem dX6_pays_73 : decode cX6_pays 73 = .ok (.dup, 1) := by decide +kernel
theorem dX6_pays_74 : decode cX6_pays 74 = .ok (.getfield 36, 3) := by decide +kernel
theorem dX6_pays_77 : decode cX6_pays 77 = .ok (.iload_n 2, 1) := by decide +kernel
theorem dX6_pays_78 : decode cX6_pays 78 = .ok (.iadd, 1) := by decide +kernel
theorem dX6_pays_79 : decode cX6_pays 79 = .ok (.putfield 36, 3) := by decide +kernel
theorem dX6_pays_82 : decode cX6_pays 82 = .ok (.aload_n 0, 1) := by decide +kernel
theorem dX6_pays_83 : decode cX6_pays 83 = .ok (.getfield 11, 3) := by decide +kernel
theorem dX6_pays_86 : decode cX6_pays 86 = .ok (.iload_n 1, 1) := by decide +kernel
theorem dX6_pays_87 : decode cX6_pays 87 = .ok (.dup2, 1) := by decide +kernel
theorem dX6_pays_88 : decode cX6_pays 88 = .ok (.iaload, 1) := by decide +kernel
theorem dX6_pays_89 : decode cX6_pays 89 = .ok (.iconst 1, 1) := by decide +kernel
theorem dX6_pays_90 : decode cX6_pays 90 = .ok (.iadd, 1) := by decide +kernel
theorem dX6_pays_91 : decode cX6_pays 91 = .ok (.iastore, 1) := by decide +kernel
theorem dX6_pays_92 : decode cX6_pays 92 = .ok (.iconst 1, 1) := by decide +kernel
theorem dX6_pays_93 : decode cX6_pays 93 = .ok (.ireturn, 1) := by decide +kernel
theorem dX6_noteBegun_0 : decode cX6_noteBegun 0 = .ok (.aload_n 0, 1) := by decide +kernel
theorem dX6_noteBegun_1 : decode cX6_noteBegun 1 = .ok (.getfield 26, 3) := by decide +kernel
theorem dX6_noteBegun_4 : decode cX6_noteBegun 4 = .ok (.bipush 30, 2) := by decide +kernel
theorem dX6_noteBegun_6 : decode cX6_noteBegun 6 = .ok (.if_icmp .ge 23, 3) := by decide +kernel
theorem dX6_noteBegun_9 : decode cX6_noteBegun 9 = .ok (.aload_n 0, 1) := by decide +kernel
theorem dX6_noteBegun_10 : decode cX6_noteBegun 10 = .ok (.getfield 17, 3) := by decide +kernel
theorem dX6_noteBegun_13 : decode cX6_noteBegun 13 = .ok (.aload_n 0, 1) := by decide +kernel
theorem dX6_noteBegun_14 : decode cX6_noteBegun 14 = .ok (.getfield 26, 3) := by decide +kernel
theorem dX6_noteBegun_17 : decode cX6_noteBegun 17 = .ok (.iload_n 1, 1) := by decide +kernel
theorem dX6_noteBegun_18 : decode cX6_noteBegun 18 = .ok (.iastore, 1) := by decide +kernel
theorem dX6_noteBegun_19 : decode cX6_noteBegun 19 = .ok (.aload_n 0, 1) := by decide +kernel
theorem dX6_noteBegun_20 : decode cX6_noteBegun 20 = .ok (.dup, 1) := by decide +kernel
theorem dX6_noteBegun_21 : decode cX6_noteBegun 21 = .ok (.getfield 26, 3) := by decide +kernel
theorem dX6_noteBegun_24 : decode cX6_noteBegun 24 = .ok (.iconst 1, 1) := by decide +kernel
theorem dX6_noteBegun_25 : decode cX6_noteBegun 25 = .ok (.iadd, 1) := by decide +kernel
theorem dX6_noteBegun_26 : decode cX6_noteBegun 26 = .ok (.putfield 26, 3) := by decide +kernel
theorem dX6_noteBegun_29 : decode cX6_noteBegun 29 = .ok (.return_, 1) := by decide +kernel
theorem dX6_begunAt_0 : decode cX6_begunAt 0 = .ok (.iload_n 1, 1) := by decide +kernel
theorem dX6_begunAt_1 : decode cX6_begunAt 1 = .ok (.aload_n 0, 1) := by decide +kernel
theorem dX6_begunAt_2 : decode cX6_begunAt 2 = .ok (.getfield 26, 3) := by decide +kernel
theorem dX6_begunAt_5 : decode cX6_begunAt 5 = .ok (.invokestatic 46, 3) := by decide +kernel
theorem dX6_begunAt_8 : decode cX6_begunAt 8 = .ok (.ifCond .eq 12, 3) := by decide +kernel
theorem dX6_begunAt_11 : decode cX6_begunAt 11 = .ok (.aload_n 0, 1) := by decide +kernel
theorem dX6_begunAt_12 : decode cX6_begunAt 12 = .ok (.getfield 17, 3) := by decide +kernel
theorem dX6_begunAt_15 : decode cX6_begunAt 15 = .ok (.iload_n 1, 1) := by decide +kernel
theorem dX6_begunAt_16 : decode cX6_begunAt 16 = .ok (.iaload, 1) := by decide +kernel
theorem dX6_begunAt_17 : decode cX6_begunAt 17 = .ok (.goto 4, 3) := by decide +kernel
theorem dX6_begunAt_20 : decode cX6_begunAt 20 = .ok (.iconst (-1), 1) := by decide +kernel
theorem dX6_begunAt_21 : decode cX6_begunAt 21 = .ok (.ireturn, 1) := by decide +kernel
theorem dX6_marksOf_0 : decode cX6_marksOf 0 = .ok (.iload_n 1, 1) := by decide +kernel
theorem dX6_marksOf_1 : decode cX6_marksOf 1 = .ok (.iconst 5, 1) := by decide +kernel
theorem dX6_marksOf_2 : decode cX6_marksOf 2 = .ok (.invokestatic 46, 3) := by decide +kernel
theorem dX6_marksOf_5 : decode cX6_marksOf 5 = .ok (.ifCond .eq 12, 3) := by decide +kernel
theorem dX6_marksOf_8 : decode cX6_marksOf 8 = .ok (.aload_n 0, 1) := by decide +kernel
theorem dX6_marksOf_9 : decode cX6_marksOf 9 = .ok (.getfield 11, 3) := by decide +kernel
theorem dX6_marksOf_12 : decode cX6_marksOf 12 = .ok (.iload_n 1, 1) := by decide +kernel
theorem dX6_marksOf_13 : decode cX6_marksOf 13 = .ok (.iaload, 1) := by decide +kernel
theorem dX6_marksOf_14 : decode cX6_marksOf 14 = .ok (.goto 4, 3) := by decide +kernel
theorem dX6_marksOf_17 : decode cX6_marksOf 17 = .ok (.iconst 0, 1) := by decide +kernel
theorem dX6_marksOf_18 : decode cX6_marksOf 18 = .ok (.ireturn, 1) := by decide +kernel
theorem dX6_spentOfBudget_0 : decode cX6_spentOfBudget 0 = .ok (.aload_n 0, 1) := by decide +kernel
theorem dX6_spentOfBudget_1 : decode cX6_spentOfBudget 1 = .ok (.getfield 36, 3) := by decide +kernel
theorem dX6_spentOfBudget_4 : decode cX6_spentOfBudget 4 = .ok (.ireturn, 1) := by decide +kernel
theorem dX6_spentOfReserve_0 : decode cX6_spentOfReserve 0 = .ok (.aload_n 0, 1) := by decide +kernel
theorem dX6_spentOfReserve_1 : decode cX6_spentOfReserve 1 = .ok (.getfield 39, 3) := by decide +kernel
theorem dX6_spentOfReserve_4 : decode cX6_spentOfReserve 4 = .ok (.ireturn, 1) := by decide +kernel
end
section
theorem dX7_perform_0 : decode cX7_perform 0 = .ok (.aload_n 0, 1) := by decide +kernel
theorem dX7_perform_1 : decode cX7_perform 1 = .ok (.iload_n 2, 1) := by decide +kernel
theorem dX7_perform_2 : decode cX7_perform 2 = .ok (.iload_n 3, 1) := by decide +kernel
theorem dX7_perform_3 : decode cX7_perform 3 = .ok (.invokevirtual 47, 3) := by decide +kernel
theorem dX7_perform_6 : decode cX7_perform 6 = .ok (.aload_n 0, 1) := by decide +kernel
theorem dX7_perform_7 : decode cX7_perform 7 = .ok (.getfield 21, 3) := by decide +kernel
theorem dX7_perform_10 : decode cX7_perform 10 = .ok (.iconst 1, 1) := by decide +kernel
theorem dX7_perform_11 : decode cX7_perform 11 = .ok (.iconst 2, 1) := by decide +kernel
theorem dX7_perform_12 : decode cX7_perform 12 = .ok (.invokevirtual 53, 3) := by decide +kernel
theorem dX7_perform_15 : decode cX7_perform 15 = .ok (.ifCond .eq 11, 3) := by decide +kernel
theorem dX7_perform_18 : decode cX7_perform 18 = .ok (.aload_n 0, 1) := by decide +kernel
theorem dX7_perform_19 : decode cX7_perform 19 = .ok (.iload_n 1, 1) := by decide +kernel
theorem dX7_perform_20 : decode cX7_perform 20 = .ok (.invokevirtual 57, 3) := by decide +kernel
theorem dX7_perform_23 : decode cX7_perform 23 = .ok (.goto 8, 3) := by decide +kernel
theorem dX7_perform_26 : decode cX7_perform 26 = .ok (.aload_n 0, 1) := by decide +kernel
theorem dX7_perform_27 : decode cX7_perform 27 = .ok (.iconst 3, 1) := by decide +kernel
theorem dX7_perform_28 : decode cX7_perform 28 = .ok (.putfield 61, 3) := by decide +kernel
theorem dX7_perform_31 : decode cX7_perform 31 = .ok (.iconst 0, 1) := by decide +kernel
theorem dX7_perform_32 : decode cX7_perform 32 = .ok (.istore 4, 2) := by decide +kernel
theorem dX7_perform_34 : decode cX7_perform 34 = .ok (.iload 4, 2) := by decide +kernel
theorem dX7_perform_36 : decode cX7_perform 36 = .ok (.ldc 64, 2) := by decide +kernel
theorem dX7_perform_38 : decode cX7_perform 38 = .ok (.if_icmp .ge 53, 3) := by decide +kernel
theorem dX7_perform_41 : decode cX7_perform 41 = .ok (.aload_n 0, 1) := by decide +kernel
theorem dX7_perform_42 : decode cX7_perform 42 = .ok (.getfield 35, 3) := by decide +kernel
theorem dX7_perform_45 : decode cX7_perform 45 = .ok (.invokevirtual 65, 3) := by decide +kernel
theorem dX7_perform_48 : decode cX7_perform 48 = .ok (.ifCond .ne 43, 3) := by decide +kernel
theorem dX7_perform_51 : decode cX7_perform 51 = .ok (.aload_n 0, 1) := by decide +kernel
theorem dX7_perform_52 : decode cX7_perform 52 = .ok (.getfield 35, 3) := by decide +kernel
theorem dX7_perform_55 : decode cX7_perform 55 = .ok (.invokevirtual 69, 3) := by decide +kernel
theorem dX7_perform_58 : decode cX7_perform 58 = .ok (.istore 5, 2) := by decide +kernel
theorem dX7_perform_60 : decode cX7_perform 60 = .ok (.aload_n 0, 1) := by decide +kernel
theorem dX7_perform_61 : decode cX7_perform 61 = .ok (.getfield 35, 3) := by decide +kernel
theorem dX7_perform_64 : decode cX7_perform 64 = .ok (.invokevirtual 73, 3) := by decide +kernel
theorem dX7_perform_67 : decode cX7_perform 67 = .ok (.ifCond .ne 12, 3) := by decide +kernel
theorem dX7_perform_70 : decode cX7_perform 70 = .ok (.aload_n 0, 1) := by decide +kernel
theorem dX7_perform_71 : decode cX7_perform 71 = .ok (.iload 5, 2) := by decide +kernel
theorem dX7_perform_73 : decode cX7_perform 73 = .ok (.invokevirtual 76, 3) := by decide +kernel
theorem dX7_perform_76 : decode cX7_perform 76 = .ok (.goto 9, 3) := by decide +kernel
theorem dX7_perform_79 : decode cX7_perform 79 = .ok (.aload_n 0, 1) := by decide +kernel
theorem dX7_perform_80 : decode cX7_perform 80 = .ok (.iload 5, 2) := by decide +kernel
theorem dX7_perform_82 : decode cX7_perform 82 = .ok (.invokevirtual 79, 3) := by decide +kernel
theorem dX7_perform_85 : decode cX7_perform 85 = .ok (.iinc 4 1, 3) := by decide +kernel
theorem dX7_perform_88 : decode cX7_perform 88 = .ok (.goto (-54), 3) := by decide +kernel
theorem dX7_perform_91 : decode cX7_perform 91 = .ok (.aload_n 0, 1) := by decide +kernel
theorem dX7_perform_92 : decode cX7_perform 92 = .ok (.aload_n 0, 1) := by decide +kernel
theorem dX7_perform_93 : decode cX7_perform 93 = .ok (.getfield 61, 3) := by decide +kernel
theorem dX7_perform_96 : decode cX7_perform 96 = .ok (.putfield 39, 3) := by decide +kernel
theorem dX7_perform_99 : decode cX7_perform 99 = .ok (.aload_n 0, 1) := by decide +kernel
theorem dX7_perform_100 : decode cX7_perform 100 = .ok (.getfield 39, 3) := by decide +kernel
theorem dX7_perform_103 : decode cX7_perform 103 = .ok (.ireturn, 1) := by decide +kernel
theorem dX7_tell_0 : decode cX7_tell 0 = .ok (.iload_n 1, 1) := by decide +kernel
theorem dX7_tell_1 : decode cX7_tell 1 = .ok (.tableswitch 135 0 8 #[51, 56, 73, 90, 98, 106, 114, 119, 127], 51) := by decide +kernel
theorem dX7_tell_52 : decode cX7_tell 52 = .ok (.aload_n 0, 1) := by decide +kernel
theorem dX7_tell_53 : decode cX7_tell 53 = .ok (.getfield 39, 3) := by decide +kernel
theorem dX7_tell_56 : decode cX7_tell 56 = .ok (.ireturn, 1) := by decide +kernel
theorem dX7_tell_57 : decode cX7_tell 57 = .ok (.aload_n 0, 1) := by decide +kernel
theorem dX7_tell_58 : decode cX7_tell 58 = .ok (.getfield 39, 3) := by decide +kernel
theorem dX7_tell_61 : decode cX7_tell 61 = .ok (.iconst 2, 1) := by decide +kernel
theorem dX7_tell_62 : decode cX7_tell 62 = .ok (.if_icmp .ne 10, 3) := by decide +kernel
theorem dX7_tell_65 : decode cX7_tell 65 = .ok (.aload_n 0, 1) := by decide +kernel
theorem dX7_tell_66 : decode cX7_tell 66 = .ok (.getfield 82, 3) := by decide +kernel
theorem dX7_tell_69 : decode cX7_tell 69 = .ok (.goto 4, 3) := by decide +kernel
theorem dX7_tell_72 : decode cX7_tell 72 = .ok (.iconst 0, 1) := by decide +kernel
theorem dX7_tell_73 : decode cX7_tell 73 = .ok (.ireturn, 1) := by decide +kernel
theorem dX7_tell_74 : decode cX7_tell 74 = .ok (.aload_n 0, 1) := by decide +kernel
theorem dX7_tell_75 : decode cX7_tell 75 = .ok (.getfield 39, 3) := by decide +kernel
theorem dX7_tell_78 : decode cX7_tell 78 = .ok (.iconst 2, 1) := by decide +kernel
theorem dX7_tell_79 : decode cX7_tell 79 = .ok (.if_icmp .ne 10, 3) := by decide +kernel
theorem dX7_tell_82 : decode cX7_tell 82 = .ok (.aload_n 0, 1) := by decide +kernel
theorem dX7_tell_83 : decode cX7_tell 83 = .ok (.getfield 85, 3) := by decide +kernel
theorem dX7_tell_86 : decode cX7_tell 86 = .ok (.goto 4, 3) := by decide +kernel
theorem dX7_tell_89 : decode cX7_tell 89 = .ok (.iconst 0, 1) := by decide +kernel
theorem dX7_tell_90 : decode cX7_tell 90 = .ok (.ireturn, 1) := by decide +kernel
theorem dX7_tell_91 : decode cX7_tell 91 = .ok (.aload_n 0, 1) := by decide +kernel
theorem dX7_tell_92 : decode cX7_tell 92 = .ok (.getfield 12, 3) := by decide +kernel
theorem dX7_tell_95 : decode cX7_tell 95 = .ok (.invokevirtual 88, 3) := by decide +kernel
theorem dX7_tell_98 : decode cX7_tell 98 = .ok (.ireturn, 1) := by decide +kernel
theorem dX7_tell_99 : decode cX7_tell 99 = .ok (.aload_n 0, 1) := by decide +kernel
theorem dX7_tell_100 : decode cX7_tell 100 = .ok (.getfield 21, 3) := by decide +kernel
theorem dX7_tell_103 : decode cX7_tell 103 = .ok (.invokevirtual 91, 3) := by decide +kernel
theorem dX7_tell_106 : decode cX7_tell 106 = .ok (.ireturn, 1) := by decide +kernel
theorem dX7_tell_107 : decode cX7_tell 107 = .ok (.aload_n 0, 1) := by decide +kernel
theorem dX7_tell_108 : decode cX7_tell 108 = .ok (.getfield 21, 3) := by decide +kernel
theorem dX7_tell_111 : decode cX7_tell 111 = .ok (.invokevirtual 94, 3) := by decide +kernel
theorem dX7_tell_114 : decode cX7_tell 114 = .ok (.ireturn, 1) := by decide +kernel
theorem dX7_tell_115 : decode cX7_tell 115 = .ok (.aload_n 0, 1) := by decide +kernel
theorem dX7_tell_116 : decode cX7_tell 116 = .ok (.getfield 97, 3) := by decide +kernel
theorem dX7_tell_119 : decode cX7_tell 119 = .ok (.ireturn, 1) := by decide +kernel
theorem dX7_tell_120 : decode cX7_tell 120 = .ok (.aload_n 0, 1) := by decide +kernel
theorem dX7_tell_121 : decode cX7_tell 121 = .ok (.getfield 28, 3) := by decide +kernel
theorem dX7_tell_124 : decode cX7_tell 124 = .ok (.invokevirtual 100, 3) := by decide +kernel
theorem dX7_tell_127 : decode cX7_tell 127 = .ok (.ireturn, 1) := by decide +kernel
theorem dX7_tell_128 : decode cX7_tell 128 = .ok (.aload_n 0, 1) := by decide +kernel
theorem dX7_tell_129 : decode cX7_tell 129 = .ok (.getfield 28, 3) := by decide +kernel
theorem dX7_tell_132 : decode cX7_tell 132 = .ok (.invokevirtual 103, 3) := by decide +kernel
theorem dX7_tell_135 : decode cX7_tell 135 = .ok (.ireturn, 1) := by decide +kernel
theorem dX7_tell_136 : decode cX7_tell 136 = .ok (.bipush (-2), 2) := by decide +kernel
theorem dX7_tell_138 : decode cX7_tell 138 = .ok (.ireturn, 1) := by decide +kernel
theorem dX7_tellsTheSameAs_0 : decode cX7_tellsTheSameAs 0 = .ok (.aload_n 1, 1) := by decide +kernel
theorem dX7_tellsTheSameAs_1 : decode cX7_tellsTheSameAs 1 = .ok (.ifnonnull 5, 3) := by decide +kernel
theorem dX7_tellsTheSameAs_4 : decode cX7_tellsTheSameAs 4 = .ok (.iconst 0, 1) := by decide +kernel
theorem dX7_tellsTheSameAs_5 : decode cX7_tellsTheSameAs 5 = .ok (.ireturn, 1) := by decide +kernel
theorem dX7_tellsTheSameAs_6 : decode cX7_tellsTheSameAs 6 = .ok (.iconst 0, 1) := by decide +kernel
theorem dX7_tellsTheSameAs_7 : decode cX7_tellsTheSameAs 7 = .ok (.istore_n 2, 1) := by decide +kernel
theorem dX7_tellsTheSameAs_8 : decode cX7_tellsTheSameAs 8 = .ok (.iload_n 2, 1) := by decide +kernel
theorem dX7_tellsTheSameAs_9 : decode cX7_tellsTheSameAs 9 = .ok (.iconst 2, 1) := by decide +kernel
theorem dX7_tellsTheSameAs_10 : decode cX7_tellsTheSameAs 10 = .ok (.if_icmp .gt 24, 3) := by decide +kernel
theorem dX7_tellsTheSameAs_13 : decode cX7_tellsTheSameAs 13 = .ok (.aload_n 0, 1) := by decide +kernel
theorem dX7_tellsTheSameAs_14 : decode cX7_tellsTheSameAs 14 = .ok (.iload_n 2, 1) := by decide +kernel
theorem dX7_tellsTheSameAs_15 : decode cX7_tellsTheSameAs 15 = .ok (.invokevirtual 106, 3) := by decide +kernel
theorem dX7_tellsTheSameAs_18 : decode cX7_tellsTheSameAs 18 = .ok (.aload_n 1, 1) := by decide +kernel
theorem dX7_tellsTheSameAs_19 : decode cX7_tellsTheSameAs 19 = .ok (.iload_n 2, 1) := by decide +kernel
theorem dX7_tellsTheSameAs_20 : decode cX7_tellsTheSameAs 20 = .ok (.invokevirtual 106, 3) := by decide +kernel
theorem dX7_tellsTheSameAs_23 : decode cX7_tellsTheSameAs 23 = .ok (.if_icmp .eq 5, 3) := by decide +kernel
theorem dX7_tellsTheSameAs_26 : decode cX7_tellsTheSameAs 26 = .ok (.iconst 0, 1) := by decide +kernel
theorem dX7_tellsTheSameAs_27 : decode cX7_tellsTheSameAs 27 = .ok (.ireturn, 1) := by decide +kernel
theorem dX7_tellsTheSameAs_28 : decode cX7_tellsTheSameAs 28 = .ok (.iinc 2 1, 3) := by decide +kernel
theorem dX7_tellsTheSameAs_31 : decode cX7_tellsTheSameAs 31 = .ok (.goto (-23), 3) := by decide +kernel
theorem dX7_tellsTheSameAs_34 : decode cX7_tellsTheSameAs 34 = .ok (.aload_n 0, 1) := by decide +kernel
theorem dX7_tellsTheSameAs_35 : decode cX7_tellsTheSameAs 35 = .ok (.getfield 12, 3) := by decide +kernel
theorem dX7_tellsTheSameAs_38 : decode cX7_tellsTheSameAs 38 = .ok (.aload_n 1, 1) := by decide +kernel
theorem dX7_tellsTheSameAs_39 : decode cX7_tellsTheSameAs 39 = .ok (.getfield 12, 3) := by decide +kernel
theorem dX7_tellsTheSameAs_42 : decode cX7_tellsTheSameAs 42 = .ok (.invokevirtual 110, 3) := by decide +kernel
theorem dX7_tellsTheSameAs_45 : decode cX7_tellsTheSameAs 45 = .ok (.ireturn, 1) := by decide +kernel
theorem dX7_clear_0 : decode cX7_clear 0 = .ok (.aload_n 0, 1) := by decide +kernel
theorem dX7_clear_1 : decode cX7_clear 1 = .ok (.getfield 12, 3) := by decide +kernel
theorem dX7_clear_4 : decode cX7_clear 4 = .ok (.invokevirtual 114, 3) := by decide +kernel
theorem dX7_clear_7 : decode cX7_clear 7 = .ok (.aload_n 0, 1) := by decide +kernel
theorem dX7_clear_8 : decode cX7_clear 8 = .ok (.getfield 12, 3) := by decide +kernel
theorem dX7_clear_11 : decode cX7_clear 11 = .ok (.iconst 0, 1) := by decide +kernel
theorem dX7_clear_12 : decode cX7_clear 12 = .ok (.iload_n 1, 1) := by decide +kernel
theorem dX7_clear_13 : decode cX7_clear 13 = .ok (.invokevirtual 116, 3) := by decide +kernel
theorem dX7_clear_16 : decode cX7_clear 16 = .ok (.aload_n 0, 1) := by decide +kernel
theorem dX7_clear_17 : decode cX7_clear 17 = .ok (.getfield 21, 3) := by decide +kernel
theorem dX7_clear_20 : decode cX7_clear 20 = .ok (.iload_n 2, 1) := by decide +kernel
theorem dX7_clear_21 : decode cX7_clear 21 = .ok (.invokevirtual 119, 3) := by decide +kernel
theorem dX7_clear_24 : decode cX7_clear 24 = .ok (.aload_n 0, 1) := by decide +kernel
theorem dX7_clear_25 : decode cX7_clear 25 = .ok (.getfield 28, 3) := by decide +kernel
theorem dX7_clear_28 : decode cX7_clear 28 = .ok (.invokevirtual 122, 3) := by decide +kernel
theorem dX7_clear_31 : decode cX7_clear 31 = .ok (.aload_n 0, 1) := by decide +kernel
theorem dX7_clear_32 : decode cX7_clear 32 = .ok (.getfield 35, 3) := by decide +kernel
theorem dX7_clear_35 : decode cX7_clear 35 = .ok (.invokevirtual 123, 3) := by decide +kernel
theorem dX7_clear_38 : decode cX7_clear 38 = .ok (.aload_n 0, 1) := by decide +kernel
theorem dX7_clear_39 : decode cX7_clear 39 = .ok (.iconst 0, 1) := by decide +kernel
theorem dX7_clear_40 : decode cX7_clear 40 = .ok (.putfield 124, 3) := by decide +kernel
theorem dX7_clear_43 : decode cX7_clear 43 = .ok (.aload_n 0, 1) := by decide +kernel
theorem dX7_clear_44 : decode cX7_clear 44 = .ok (.iconst 0, 1) := by decide +kernel
theorem dX7_clear_45 : decode cX7_clear 45 = .ok (.putfield 97, 3) := by decide +kernel
theorem dX7_clear_48 : decode cX7_clear 48 = .ok (.aload_n 0, 1) := by decide +kernel
theorem dX7_clear_49 : decode cX7_clear 49 = .ok (.iconst 0, 1) := by decide +kernel
theorem dX7_clear_50 : decode cX7_clear 50 = .ok (.putfield 61, 3) := by decide +kernel
theorem dX7_clear_53 : decode cX7_clear 53 = .ok (.aload_n 0, 1) := by decide +kernel
theorem dX7_clear_54 : decode cX7_clear 54 = .ok (.iconst 0, 1) := by decide +kernel
theorem dX7_clear_55 : decode cX7_clear 55 = .ok (.putfield 82, 3) := by decide +kernel
theorem dX7_clear_58 : decode cX7_clear 58 = .ok (.aload_n 0, 1) := by decide +kernel
theorem dX7_clear_59 : decode cX7_clear 59 = .ok (.iconst 0, 1) := by decide +kernel
theorem dX7_clear_60 : decode cX7_clear 60 = .ok (.putfield 85, 3) := by decide +kernel
theorem dX7_clear_63 : decode cX7_clear 63 = .ok (.return_, 1) := by decide +kernel
theorem dX7_begin_0 : decode cX7_begin 0 = .ok (.aload_n 0, 1) := by decide +kernel
theorem dX7_begin_1 : decode cX7_begin 1 = .ok (.getfield 43, 3) := by decide +kernel
theorem dX7_begin_4 : decode cX7_begin 4 = .ok (.iload_n 1, 1) := by decide +kernel
theorem dX7_begin_5 : decode cX7_begin 5 = .ok (.invokevirtual 127, 3) := by decide +kernel
theorem dX7_begin_8 : decode cX7_begin 8 = .ok (.istore_n 2, 1) := by decide +kernel
theorem dX7_begin_9 : decode cX7_begin 9 = .ok (.aload_n 0, 1) := by decide +kernel
theorem dX7_begin_10 : decode cX7_begin 10 = .ok (.getfield 43, 3) := by decide +kernel
theorem dX7_begin_13 : decode cX7_begin 13 = .ok (.iload_n 1, 1) := by decide +kernel
theorem dX7_begin_14 : decode cX7_begin 14 = .ok (.invokevirtual 132, 3) := by decide +kernel
theorem dX7_begin_17 : decode cX7_begin 17 = .ok (.istore_n 3, 1) := by decide +kernel
theorem dX7_begin_18 : decode cX7_begin 18 = .ok (.aload_n 0, 1) := by decide +kernel
theorem dX7_begin_19 : decode cX7_begin 19 = .ok (.getfield 43, 3) := by decide +kernel
theorem dX7_begin_22 : decode cX7_begin 22 = .ok (.iload_n 1, 1) := by decide +kernel
theorem dX7_begin_23 : decode cX7_begin 23 = .ok (.invokevirtual 135, 3) := by decide +kernel
theorem dX7_begin_26 : decode cX7_begin 26 = .ok (.istore 4, 2) := by decide +kernel
theorem dX7_begin_28 : decode cX7_begin 28 = .ok (.aload_n 0, 1) := by decide +kernel
theorem dX7_begin_29 : decode cX7_begin 29 = .ok (.getfield 43, 3) := by decide +kernel
theorem dX7_begin_32 : decode cX7_begin 32 = .ok (.iload_n 1, 1) := by decide +kernel
theorem dX7_begin_33 : decode cX7_begin 33 = .ok (.invokevirtual 138, 3) := by decide +kernel
theorem dX7_begin_36 : decode cX7_begin 36 = .ok (.istore 5, 2) := by decide +kernel
theorem dX7_begin_38 : decode cX7_begin 38 = .ok (.iload 5, 2) := by decide +kernel
theorem dX7_begin_40 : decode cX7_begin 40 = .ok (.tableswitch 125 12 20 #[52, 61, 86, 100, 125, 125, 52, 52, 108], 52) := by decide +kernel
theorem dX7_begin_92 : decode cX7_begin 92 = .ok (.aload_n 0, 1) := by decide +kernel
theorem dX7_begin_93 : decode cX7_begin 93 = .ok (.iconst 1, 1) := by decide +kernel
theorem dX7_begin_94 : decode cX7_begin 94 = .ok (.iload_n 2, 1) := by decide +kernel
theorem dX7_begin_95 : decode cX7_begin 95 = .ok (.invokevirtual 141, 3) := by decide +kernel
theorem dX7_begin_98 : decode cX7_begin 98 = .ok (.goto 77, 3) := by decide +kernel
theorem dX7_begin_101 : decode cX7_begin 101 = .ok (.aload_n 0, 1) := by decide +kernel
theorem dX7_begin_102 : decode cX7_begin 102 = .ok (.iconst 1, 1) := by decide +kernel
theorem dX7_begin_103 : decode cX7_begin 103 = .ok (.aload_n 0, 1) := by decide +kernel
theorem dX7_begin_104 : decode cX7_begin 104 = .ok (.getfield 12, 3) := by decide +kernel
theorem dX7_begin_107 : decode cX7_begin 107 = .ok (.iload_n 2, 1) := by decide +kernel
theorem dX7_begin_108 : decode cX7_begin 108 = .ok (.invokevirtual 144, 3) := by decide +kernel
theorem dX7_begin_111 : decode cX7_begin 111 = .ok (.ifCond .eq 7, 3) := by decide +kernel
theorem dX7_begin_114 : decode cX7_begin 114 = .ok (.iload_n 3, 1) := by decide +kernel
theorem dX7_begin_115 : decode cX7_begin 115 = .ok (.goto 5, 3) := by decide +kernel
theorem dX7_begin_118 : decode cX7_begin 118 = .ok (.iload 4, 2) := by decide +kernel
theorem dX7_begin_120 : decode cX7_begin 120 = .ok (.invokevirtual 141, 3) := by decide +kernel
theorem dX7_begin_123 : decode cX7_begin 123 = .ok (.goto 52, 3) := by decide +kernel
theorem dX7_begin_126 : decode cX7_begin 126 = .ok (.aload_n 0, 1) := by decide +kernel
theorem dX7_begin_127 : decode cX7_begin 127 = .ok (.iconst 0, 1) := by decide +kernel
theorem dX7_begin_128 : decode cX7_begin 128 = .ok (.putfield 61, 3) := by decide +kernel
theorem dX7_begin_131 : decode cX7_begin 131 = .ok (.aload_n 0, 1) := by decide +kernel
theorem dX7_begin_132 : decode cX7_begin 132 = .ok (.iload_n 2, 1) := by decide +kernel
theorem dX7_begin_133 : decode cX7_begin 133 = .ok (.iload_n 3, 1) := by decide +kernel
theorem dX7_begin_134 : decode cX7_begin 134 = .ok (.invokevirtual 147, 3) := by decide +kernel
theorem dX7_begin_137 : decode cX7_begin 137 = .ok (.goto 38, 3) := by decide +kernel
theorem dX7_begin_140 : decode cX7_begin 140 = .ok (.aload_n 0, 1) := by decide +kernel
theorem dX7_begin_141 : decode cX7_begin 141 = .ok (.iload_n 2, 1) := by decide +kernel
theorem dX7_begin_142 : decode cX7_begin 142 = .ok (.invokevirtual 150, 3) := by decide +kernel
theorem dX7_begin_145 : decode cX7_begin 145 = .ok (.goto 30, 3) := by decide +kernel
theorem dX7_begin_148 : decode cX7_begin 148 = .ok (.aload_n 0, 1) := by decide +kernel
theorem dX7_begin_149 : decode cX7_begin 149 = .ok (.getfield 28, 3) := by decide +kernel
theorem dX7_begin_152 : decode cX7_begin 152 = .ok (.iload_n 2, 1) := by decide +kernel
theorem dX7_begin_153 : decode cX7_begin 153 = .ok (.invokevirtual 153, 3) := by decide +kernel
theorem dX7_begin_156 : decode cX7_begin 156 = .ok (.aload_n 0, 1) := by decide +kernel
theorem dX7_begin_157 : decode cX7_begin 157 = .ok (.iconst 1, 1) := by decide +kernel
theorem dX7_begin_158 : decode cX7_begin 158 = .ok (.iload_n 3, 1) := by decide +kernel
theorem dX7_begin_159 : decode cX7_begin 159 = .ok (.invokevirtual 141, 3) := by decide +kernel
theorem dX7_begin_162 : decode cX7_begin 162 = .ok (.goto 13, 3) := by decide +kernel
theorem dX7_begin_165 : decode cX7_begin 165 = .ok (.aload_n 0, 1) := by decide +kernel
theorem dX7_begin_166 : decode cX7_begin 166 = .ok (.iload 5, 2) := by decide +kernel
theorem dX7_begin_168 : decode cX7_begin 168 = .ok (.iload_n 2, 1) := by decide +kernel
theorem dX7_begin_169 : decode cX7_begin 169 = .ok (.iload_n 3, 1) := by decide +kernel
theorem dX7_begin_170 : decode cX7_begin 170 = .ok (.iload 4, 2) := by decide +kernel
theorem dX7_begin_172 : decode cX7_begin 172 = .ok (.invokevirtual 156, 3) := by decide +kernel
theorem dX7_begin_175 : decode cX7_begin 175 = .ok (.return_, 1) := by decide +kernel
theorem dX7_goOn_0 : decode cX7_goOn 0 = .ok (.aload_n 0, 1) := by decide +kernel
theorem dX7_goOn_1 : decode cX7_goOn 1 = .ok (.getfield 43, 3) := by decide +kernel
theorem dX7_goOn_4 : decode cX7_goOn 4 = .ok (.iload_n 1, 1) := by decide +kernel
theorem dX7_goOn_5 : decode cX7_goOn 5 = .ok (.invokevirtual 138, 3) := by decide +kernel
theorem dX7_goOn_8 : decode cX7_goOn 8 = .ok (.tableswitch 160 12 20 #[52, 160, 60, 68, 160, 160, 101, 109, 135], 52) := by decide +kernel
theorem dX7_goOn_60 : decode cX7_goOn 60 = .ok (.aload_n 0, 1) := by decide +kernel
theorem dX7_goOn_61 : decode cX7_goOn 61 = .ok (.iload_n 1, 1) := by decide +kernel
theorem dX7_goOn_62 : decode cX7_goOn 62 = .ok (.invokevirtual 160, 3) := by decide +kernel
theorem dX7_goOn_65 : decode cX7_goOn 65 = .ok (.goto 110, 3) := by decide +kernel
theorem dX7_goOn_68 : decode cX7_goOn 68 = .ok (.aload_n 0, 1) := by decide +kernel
theorem dX7_goOn_69 : decode cX7_goOn 69 = .ok (.iload_n 1, 1) := by decide +kernel
theorem dX7_goOn_70 : decode cX7_goOn 70 = .ok (.invokevirtual 163, 3) := by decide +kernel
theorem dX7_goOn_73 : decode cX7_goOn 73 = .ok (.goto 102, 3) := by decide +kernel
theorem dX7_goOn_76 : decode cX7_goOn 76 = .ok (.aload_n 0, 1) := by decide +kernel
theorem dX7_goOn_77 : decode cX7_goOn 77 = .ok (.dup, 1) := by decide +kernel
theorem dX7_goOn_78 : decode cX7_goOn 78 = .ok (.getfield 124, 3) := by decide +kernel
theorem dX7_goOn_81 : decode cX7_goOn 81 = .ok (.iconst 1, 1) := by decide +kernel
theorem dX7_goOn_82 : decode cX7_goOn 82 = .ok (.isub, 1) := by decide +kernel
theorem dX7_goOn_83 : decode cX7_goOn 83 = .ok (.putfield 124, 3) := by decide +kernel
theorem dX7_goOn_86 : decode cX7_goOn 86 = .ok (.aload_n 0, 1) := by decide +kernel
theorem dX7_goOn_87 : decode cX7_goOn 87 = .ok (.aload_n 0, 1) := by decide +kernel
theorem dX7_goOn_88 : decode cX7_goOn 88 = .ok (.getfield 61, 3) := by decide +kernel
theorem dX7_goOn_91 : decode cX7_goOn 91 = .ok (.iconst 1, 1) := by decide +kernel
theorem dX7_goOn_92 : decode cX7_goOn 92 = .ok (.if_icmp .ne 7, 3) := by decide +kernel
theorem dX7_goOn_95 : decode cX7_goOn 95 = .ok (.iconst 0, 1) := by decide +kernel
theorem dX7_goOn_96 : decode cX7_goOn 96 = .ok (.goto 7, 3) := by decide +kernel
theorem dX7_goOn_99 : decode cX7_goOn 99 = .ok (.aload_n 0, 1) := by decide +kernel
theorem dX7_goOn_100 : decode cX7_goOn 100 = .ok (.getfield 61, 3) := by decide +kernel
theorem dX7_goOn_103 : decode cX7_goOn 103 = .ok (.invokevirtual 166, 3) := by decide +kernel
theorem dX7_goOn_106 : decode cX7_goOn 106 = .ok (.goto 69, 3) := by decide +kernel
theorem dX7_goOn_109 : decode cX7_goOn 109 = .ok (.aload_n 0, 1) := by decide +kernel
theorem dX7_goOn_110 : decode cX7_goOn 110 = .ok (.iload_n 1, 1) := by decide +kernel
theorem dX7_goOn_111 : decode cX7_goOn 111 = .ok (.invokevirtual 169, 3) := by decide +kernel
theorem dX7_goOn_114 : decode cX7_goOn 114 = .ok (.goto 61, 3) := by decide +kernel
theorem dX7_goOn_117 : decode cX7_goOn 117 = .ok (.aload_n 0, 1) := by decide +kernel
theorem dX7_goOn_118 : decode cX7_goOn 118 = .ok (.getfield 35, 3) := by decide +kernel
theorem dX7_goOn_121 : decode cX7_goOn 121 = .ok (.invokevirtual 73, 3) := by decide +kernel
theorem dX7_goOn_124 : decode cX7_goOn 124 = .ok (.iconst 1, 1) := by decide +kernel
theorem dX7_goOn_125 : decode cX7_goOn 125 = .ok (.if_icmp .ne 11, 3) := by decide +kernel
theorem dX7_goOn_128 : decode cX7_goOn 128 = .ok (.aload_n 0, 1) := by decide +kernel
theorem dX7_goOn_129 : decode cX7_goOn 129 = .ok (.iload_n 1, 1) := by decide +kernel
theorem dX7_goOn_130 : decode cX7_goOn 130 = .ok (.invokevirtual 172, 3) := by decide +kernel
theorem dX7_goOn_133 : decode cX7_goOn 133 = .ok (.goto 42, 3) := by decide +kernel
theorem dX7_goOn_136 : decode cX7_goOn 136 = .ok (.aload_n 0, 1) := by decide +kernel
theorem dX7_goOn_137 : decode cX7_goOn 137 = .ok (.invokevirtual 175, 3) := by decide +kernel
theorem dX7_goOn_140 : decode cX7_goOn 140 = .ok (.goto 35, 3) := by decide +kernel
theorem dX7_goOn_143 : decode cX7_goOn 143 = .ok (.aload_n 0, 1) := by decide +kernel
theorem dX7_goOn_144 : decode cX7_goOn 144 = .ok (.getfield 28, 3) := by decide +kernel
theorem dX7_goOn_147 : decode cX7_goOn 147 = .ok (.aload_n 0, 1) := by decide +kernel
theorem dX7_goOn_148 : decode cX7_goOn 148 = .ok (.getfield 43, 3) := by decide +kernel
theorem dX7_goOn_151 : decode cX7_goOn 151 = .ok (.iload_n 1, 1) := by decide +kernel
theorem dX7_goOn_152 : decode cX7_goOn 152 = .ok (.invokevirtual 127, 3) := by decide +kernel
theorem dX7_goOn_155 : decode cX7_goOn 155 = .ok (.invokevirtual 178, 3) := by decide +kernel
theorem dX7_goOn_158 : decode cX7_goOn 158 = .ok (.aload_n 0, 1) := by decide +kernel
theorem dX7_goOn_159 : decode cX7_goOn 159 = .ok (.getfield 35, 3) := by decide +kernel
theorem dX7_goOn_162 : decode cX7_goOn 162 = .ok (.invokevirtual 181, 3) := by decide +kernel
theorem dX7_goOn_165 : decode cX7_goOn 165 = .ok (.goto 10, 3) := by decide +kernel
theorem dX7_goOn_168 : decode cX7_goOn 168 = .ok (.aload_n 0, 1) := by decide +kernel
theorem dX7_goOn_169 : decode cX7_goOn 169 = .ok (.getfield 35, 3) := by decide +kernel
theorem dX7_goOn_172 : decode cX7_goOn 172 = .ok (.invokevirtual 181, 3) := by decide +kernel
theorem dX7_goOn_175 : decode cX7_goOn 175 = .ok (.return_, 1) := by decide +kernel
theorem dX7_goOnWithBoth_0 : decode cX7_goOnWithBoth 0 = .ok (.aload_n 0, 1) := by decide +kernel
theorem dX7_goOnWithBoth_1 : decode cX7_goOnWithBoth 1 = .ok (.getfield 35, 3) := by decide +kernel
theorem dX7_goOnWithBoth_4 : decode cX7_goOnWithBoth 4 = .ok (.invokevirtual 73, 3) := by decide +kernel
theorem dX7_goOnWithBoth_7 : decode cX7_goOnWithBoth 7 = .ok (.iconst 1, 1) := by decide +kernel
theorem dX7_goOnWithBoth_8 : decode cX7_goOnWithBoth 8 = .ok (.if_icmp .ne 26, 3) := by decide +kernel
theorem dX7_goOnWithBoth_11 : decode cX7_goOnWithBoth 11 = .ok (.aload_n 0, 1) := by decide +kernel
theorem dX7_goOnWithBoth_12 : decode cX7_goOnWithBoth 12 = .ok (.getfield 61, 3) := by decide +kernel
theorem dX7_goOnWithBoth_15 : decode cX7_goOnWithBoth 15 = .ok (.ifCond .ne 19, 3) := by decide +kernel
theorem dX7_goOnWithBoth_18 : decode cX7_goOnWithBoth 18 = .ok (.aload_n 0, 1) := by decide +kernel
theorem dX7_goOnWithBoth_19 : decode cX7_goOnWithBoth 19 = .ok (.iconst 2, 1) := by decide +kernel
theorem dX7_goOnWithBoth_20 : decode cX7_goOnWithBoth 20 = .ok (.aload_n 0, 1) := by decide +kernel
theorem dX7_goOnWithBoth_21 : decode cX7_goOnWithBoth 21 = .ok (.getfield 43, 3) := by decide +kernel
theorem dX7_goOnWithBoth_24 : decode cX7_goOnWithBoth 24 = .ok (.iload_n 1, 1) := by decide +kernel
theorem dX7_goOnWithBoth_25 : decode cX7_goOnWithBoth 25 = .ok (.invokevirtual 132, 3) := by decide +kernel
theorem dX7_goOnWithBoth_28 : decode cX7_goOnWithBoth 28 = .ok (.invokevirtual 141, 3) := by decide +kernel
theorem dX7_goOnWithBoth_31 : decode cX7_goOnWithBoth 31 = .ok (.goto 10, 3) := by decide +kernel
theorem dX7_goOnWithBoth_34 : decode cX7_goOnWithBoth 34 = .ok (.aload_n 0, 1) := by decide +kernel
theorem dX7_goOnWithBoth_35 : decode cX7_goOnWithBoth 35 = .ok (.getfield 35, 3) := by decide +kernel
theorem dX7_goOnWithBoth_38 : decode cX7_goOnWithBoth 38 = .ok (.invokevirtual 181, 3) := by decide +kernel
theorem dX7_goOnWithBoth_41 : decode cX7_goOnWithBoth 41 = .ok (.return_, 1) := by decide +kernel
theorem dX7_goOnWithLoop_0 : decode cX7_goOnWithLoop 0 = .ok (.aload_n 0, 1) := by decide +kernel
theorem dX7_goOnWithLoop_1 : decode cX7_goOnWithLoop 1 = .ok (.getfield 61, 3) := by decide +kernel
theorem dX7_goOnWithLoop_4 : decode cX7_goOnWithLoop 4 = .ok (.ifCond .eq 13, 3) := by decide +kernel
theorem dX7_goOnWithLoop_7 : decode cX7_goOnWithLoop 7 = .ok (.aload_n 0, 1) := by decide +kernel
theorem dX7_goOnWithLoop_8 : decode cX7_goOnWithLoop 8 = .ok (.getfield 35, 3) := by decide +kernel
theorem dX7_goOnWithLoop_11 : decode cX7_goOnWithLoop 11 = .ok (.invokevirtual 181, 3) := by decide +kernel
theorem dX7_goOnWithLoop_14 : decode cX7_goOnWithLoop 14 = .ok (.goto 43, 3) := by decide +kernel
theorem dX7_goOnWithLoop_17 : decode cX7_goOnWithLoop 17 = .ok (.aload_n 0, 1) := by decide +kernel
theorem dX7_goOnWithLoop_18 : decode cX7_goOnWithLoop 18 = .ok (.getfield 21, 3) := by decide +kernel
theorem dX7_goOnWithLoop_21 : decode cX7_goOnWithLoop 21 = .ok (.iconst 0, 1) := by decide +kernel
theorem dX7_goOnWithLoop_22 : decode cX7_goOnWithLoop 22 = .ok (.iconst 1, 1) := by decide +kernel
theorem dX7_goOnWithLoop_23 : decode cX7_goOnWithLoop 23 = .ok (.invokevirtual 53, 3) := by decide +kernel
theorem dX7_goOnWithLoop_26 : decode cX7_goOnWithLoop 26 = .ok (.ifCond .eq 26, 3) := by decide +kernel
theorem dX7_goOnWithLoop_29 : decode cX7_goOnWithLoop 29 = .ok (.aload_n 0, 1) := by decide +kernel
theorem dX7_goOnWithLoop_30 : decode cX7_goOnWithLoop 30 = .ok (.aload_n 0, 1) := by decide +kernel
theorem dX7_goOnWithLoop_31 : decode cX7_goOnWithLoop 31 = .ok (.getfield 43, 3) := by decide +kernel
theorem dX7_goOnWithLoop_34 : decode cX7_goOnWithLoop 34 = .ok (.iload_n 1, 1) := by decide +kernel
theorem dX7_goOnWithLoop_35 : decode cX7_goOnWithLoop 35 = .ok (.invokevirtual 127, 3) := by decide +kernel
theorem dX7_goOnWithLoop_38 : decode cX7_goOnWithLoop 38 = .ok (.aload_n 0, 1) := by decide +kernel
theorem dX7_goOnWithLoop_39 : decode cX7_goOnWithLoop 39 = .ok (.getfield 43, 3) := by decide +kernel
theorem dX7_goOnWithLoop_42 : decode cX7_goOnWithLoop 42 = .ok (.iload_n 1, 1) := by decide +kernel
theorem dX7_goOnWithLoop_43 : decode cX7_goOnWithLoop 43 = .ok (.invokevirtual 132, 3) := by decide +kernel
theorem dX7_goOnWithLoop_46 : decode cX7_goOnWithLoop 46 = .ok (.invokevirtual 147, 3) := by decide +kernel
theorem dX7_goOnWithLoop_49 : decode cX7_goOnWithLoop 49 = .ok (.goto 8, 3) := by decide +kernel
theorem dX7_goOnWithLoop_52 : decode cX7_goOnWithLoop 52 = .ok (.aload_n 0, 1) := by decide +kernel
theorem dX7_goOnWithLoop_53 : decode cX7_goOnWithLoop 53 = .ok (.iconst 3, 1) := by decide +kernel
theorem dX7_goOnWithLoop_54 : decode cX7_goOnWithLoop 54 = .ok (.invokevirtual 166, 3) := by decide +kernel
theorem dX7_goOnWithLoop_57 : decode cX7_goOnWithLoop 57 = .ok (.return_, 1) := by decide +kernel
theorem dX7_goOnWithTry_0 : decode cX7_goOnWithTry 0 = .ok (.aload_n 0, 1) := by decide +kernel
theorem dX7_goOnWithTry_1 : decode cX7_goOnWithTry 1 = .ok (.getfield 61, 3) := by decide +kernel
theorem dX7_goOnWithTry_4 : decode cX7_goOnWithTry 4 = .ok (.iconst 2, 1) := by decide +kernel
theorem dX7_goOnWithTry_5 : decode cX7_goOnWithTry 5 = .ok (.if_icmp .ne 26, 3) := by decide +kernel
theorem dX7_goOnWithTry_8 : decode cX7_goOnWithTry 8 = .ok (.aload_n 0, 1) := by decide +kernel
theorem dX7_goOnWithTry_9 : decode cX7_goOnWithTry 9 = .ok (.getfield 43, 3) := by decide +kernel
theorem dX7_goOnWithTry_12 : decode cX7_goOnWithTry 12 = .ok (.iload_n 1, 1) := by decide +kernel
theorem dX7_goOnWithTry_13 : decode cX7_goOnWithTry 13 = .ok (.invokevirtual 132, 3) := by decide +kernel
theorem dX7_goOnWithTry_16 : decode cX7_goOnWithTry 16 = .ok (.aload_n 0, 1) := by decide +kernel
theorem dX7_goOnWithTry_17 : decode cX7_goOnWithTry 17 = .ok (.getfield 82, 3) := by decide +kernel
theorem dX7_goOnWithTry_20 : decode cX7_goOnWithTry 20 = .ok (.ishr, 1) := by decide +kernel
theorem dX7_goOnWithTry_21 : decode cX7_goOnWithTry 21 = .ok (.iconst 1, 1) := by decide +kernel
theorem dX7_goOnWithTry_22 : decode cX7_goOnWithTry 22 = .ok (.iand, 1) := by decide +kernel
theorem dX7_goOnWithTry_23 : decode cX7_goOnWithTry 23 = .ok (.iconst 1, 1) := by decide +kernel
theorem dX7_goOnWithTry_24 : decode cX7_goOnWithTry 24 = .ok (.if_icmp .ne 7, 3) := by decide +kernel
theorem dX7_goOnWithTry_27 : decode cX7_goOnWithTry 27 = .ok (.iconst 1, 1) := by decide +kernel
theorem dX7_goOnWithTry_28 : decode cX7_goOnWithTry 28 = .ok (.goto 4, 3) := by decide +kernel
theorem dX7_goOnWithTry_31 : decode cX7_goOnWithTry 31 = .ok (.iconst 0, 1) := by decide +kernel
theorem dX7_goOnWithTry_32 : decode cX7_goOnWithTry 32 = .ok (.istore_n 2, 1) := by decide +kernel
theorem dX7_goOnWithTry_33 : decode cX7_goOnWithTry 33 = .ok (.aload_n 0, 1) := by decide +kernel
theorem dX7_goOnWithTry_34 : decode cX7_goOnWithTry 34 = .ok (.getfield 35, 3) := by decide +kernel
theorem dX7_goOnWithTry_37 : decode cX7_goOnWithTry 37 = .ok (.invokevirtual 73, 3) := by decide +kernel
theorem dX7_goOnWithTry_40 : decode cX7_goOnWithTry 40 = .ok (.iconst 1, 1) := by decide +kernel
theorem dX7_goOnWithTry_41 : decode cX7_goOnWithTry 41 = .ok (.if_icmp .ne 7, 3) := by decide +kernel
theorem dX7_goOnWithTry_44 : decode cX7_goOnWithTry 44 = .ok (.iload_n 2, 1) := by decide +kernel
theorem dX7_goOnWithTry_45 : decode cX7_goOnWithTry 45 = .ok (.ifCond .ne 13, 3) := by decide +kernel
theorem dX7_goOnWithTry_48 : decode cX7_goOnWithTry 48 = .ok (.aload_n 0, 1) := by decide +kernel
theorem dX7_goOnWithTry_49 : decode cX7_goOnWithTry 49 = .ok (.getfield 35, 3) := by decide +kernel
theorem dX7_goOnWithTry_52 : decode cX7_goOnWithTry 52 = .ok (.invokevirtual 181, 3) := by decide +kernel
theorem dX7_goOnWithTry_55 : decode cX7_goOnWithTry 55 = .ok (.goto 76, 3) := by decide +kernel
theorem dX7_goOnWithTry_58 : decode cX7_goOnWithTry 58 = .ok (.aload_n 0, 1) := by decide +kernel
theorem dX7_goOnWithTry_59 : decode cX7_goOnWithTry 59 = .ok (.getfield 21, 3) := by decide +kernel
theorem dX7_goOnWithTry_62 : decode cX7_goOnWithTry 62 = .ok (.iconst 2, 1) := by decide +kernel
theorem dX7_goOnWithTry_63 : decode cX7_goOnWithTry 63 = .ok (.bipush 10, 2) := by decide +kernel
theorem dX7_goOnWithTry_65 : decode cX7_goOnWithTry 65 = .ok (.invokevirtual 53, 3) := by decide +kernel
theorem dX7_goOnWithTry_68 : decode cX7_goOnWithTry 68 = .ok (.ifCond .eq 58, 3) := by decide +kernel
theorem dX7_goOnWithTry_71 : decode cX7_goOnWithTry 71 = .ok (.aload_n 0, 1) := by decide +kernel
theorem dX7_goOnWithTry_72 : decode cX7_goOnWithTry 72 = .ok (.getfield 21, 3) := by decide +kernel
theorem dX7_goOnWithTry_75 : decode cX7_goOnWithTry 75 = .ok (.iload_n 1, 1) := by decide +kernel
theorem dX7_goOnWithTry_76 : decode cX7_goOnWithTry 76 = .ok (.invokevirtual 184, 3) := by decide +kernel
theorem dX7_goOnWithTry_79 : decode cX7_goOnWithTry 79 = .ok (.aload_n 0, 1) := by decide +kernel
theorem dX7_goOnWithTry_80 : decode cX7_goOnWithTry 80 = .ok (.getfield 12, 3) := by decide +kernel
theorem dX7_goOnWithTry_83 : decode cX7_goOnWithTry 83 = .ok (.bipush 7, 2) := by decide +kernel
theorem dX7_goOnWithTry_85 : decode cX7_goOnWithTry 85 = .ok (.aload_n 0, 1) := by decide +kernel
theorem dX7_goOnWithTry_86 : decode cX7_goOnWithTry 86 = .ok (.getfield 82, 3) := by decide +kernel
theorem dX7_goOnWithTry_89 : decode cX7_goOnWithTry 89 = .ok (.iconst 5, 1) := by decide +kernel
theorem dX7_goOnWithTry_90 : decode cX7_goOnWithTry 90 = .ok (.if_icmp .ne 13, 3) := by decide +kernel
theorem dX7_goOnWithTry_93 : decode cX7_goOnWithTry 93 = .ok (.bipush 100, 2) := by decide +kernel
theorem dX7_goOnWithTry_95 : decode cX7_goOnWithTry 95 = .ok (.aload_n 0, 1) := by decide +kernel
theorem dX7_goOnWithTry_96 : decode cX7_goOnWithTry 96 = .ok (.getfield 85, 3) := by decide +kernel
theorem dX7_goOnWithTry_99 : decode cX7_goOnWithTry 99 = .ok (.iadd, 1) := by decide +kernel
theorem dX7_goOnWithTry_100 : decode cX7_goOnWithTry 100 = .ok (.goto 7, 3) := by decide +kernel
theorem dX7_goOnWithTry_103 : decode cX7_goOnWithTry 103 = .ok (.aload_n 0, 1) := by decide +kernel
theorem dX7_goOnWithTry_104 : decode cX7_goOnWithTry 104 = .ok (.getfield 82, 3) := by decide +kernel
theorem dX7_goOnWithTry_107 : decode cX7_goOnWithTry 107 = .ok (.invokevirtual 116, 3) := by decide +kernel
theorem dX7_goOnWithTry_110 : decode cX7_goOnWithTry 110 = .ok (.aload_n 0, 1) := by decide +kernel
theorem dX7_goOnWithTry_111 : decode cX7_goOnWithTry 111 = .ok (.iconst 2, 1) := by decide +kernel
theorem dX7_goOnWithTry_112 : decode cX7_goOnWithTry 112 = .ok (.aload_n 0, 1) := by decide +kernel
theorem dX7_goOnWithTry_113 : decode cX7_goOnWithTry 113 = .ok (.getfield 43, 3) := by decide +kernel
theorem dX7_goOnWithTry_116 : decode cX7_goOnWithTry 116 = .ok (.iload_n 1, 1) := by decide +kernel
theorem dX7_goOnWithTry_117 : decode cX7_goOnWithTry 117 = .ok (.invokevirtual 135, 3) := by decide +kernel
theorem dX7_goOnWithTry_120 : decode cX7_goOnWithTry 120 = .ok (.invokevirtual 141, 3) := by decide +kernel
theorem dX7_goOnWithTry_123 : decode cX7_goOnWithTry 123 = .ok (.goto 8, 3) := by decide +kernel
theorem dX7_goOnWithTry_126 : decode cX7_goOnWithTry 126 = .ok (.aload_n 0, 1) := by decide +kernel
theorem dX7_goOnWithTry_127 : decode cX7_goOnWithTry 127 = .ok (.iconst 3, 1) := by decide +kernel
theorem dX7_goOnWithTry_128 : decode cX7_goOnWithTry 128 = .ok (.invokevirtual 166, 3) := by decide +kernel
theorem dX7_goOnWithTry_131 : decode cX7_goOnWithTry 131 = .ok (.return_, 1) := by decide +kernel
theorem dX7_beginLastPart_0 : decode cX7_beginLastPart 0 = .ok (.aload_n 0, 1) := by decide +kernel
theorem dX7_beginLastPart_1 : decode cX7_beginLastPart 1 = .ok (.invokevirtual 189, 3) := by decide +kernel
theorem dX7_beginLastPart_4 : decode cX7_beginLastPart 4 = .ok (.istore_n 2, 1) := by decide +kernel
theorem dX7_beginLastPart_5 : decode cX7_beginLastPart 5 = .ok (.iload_n 2, 1) := by decide +kernel
theorem dX7_beginLastPart_6 : decode cX7_beginLastPart 6 = .ok (.iconst (-1), 1) := by decide +kernel
theorem dX7_beginLastPart_7 : decode cX7_beginLastPart 7 = .ok (.if_icmp .ne 11, 3) := by decide +kernel
theorem dX7_beginLastPart_10 : decode cX7_beginLastPart 10 = .ok (.aload_n 0, 1) := by decide +kernel
theorem dX7_beginLastPart_11 : decode cX7_beginLastPart 11 = .ok (.iconst 3, 1) := by decide +kernel
theorem dX7_beginLastPart_12 : decode cX7_beginLastPart 12 = .ok (.invokevirtual 166, 3) := by decide +kernel
theorem dX7_beginLastPart_15 : decode cX7_beginLastPart 15 = .ok (.goto 43, 3) := by decide +kernel
theorem dX7_beginLastPart_18 : decode cX7_beginLastPart 18 = .ok (.aload_n 0, 1) := by decide +kernel
theorem dX7_beginLastPart_19 : decode cX7_beginLastPart 19 = .ok (.getfield 35, 3) := by decide +kernel
theorem dX7_beginLastPart_22 : decode cX7_beginLastPart 22 = .ok (.aload_n 0, 1) := by decide +kernel
theorem dX7_beginLastPart_23 : decode cX7_beginLastPart 23 = .ok (.getfield 61, 3) := by decide +kernel
theorem dX7_beginLastPart_26 : decode cX7_beginLastPart 26 = .ok (.aload_n 0, 1) := by decide +kernel
theorem dX7_beginLastPart_27 : decode cX7_beginLastPart 27 = .ok (.getfield 82, 3) := by decide +kernel
theorem dX7_beginLastPart_30 : decode cX7_beginLastPart 30 = .ok (.aload_n 0, 1) := by decide +kernel
theorem dX7_beginLastPart_31 : decode cX7_beginLastPart 31 = .ok (.getfield 85, 3) := by decide +kernel
theorem dX7_beginLastPart_34 : decode cX7_beginLastPart 34 = .ok (.invokevirtual 192, 3) := by decide +kernel
theorem dX7_beginLastPart_37 : decode cX7_beginLastPart 37 = .ok (.aload_n 0, 1) := by decide +kernel
theorem dX7_beginLastPart_38 : decode cX7_beginLastPart 38 = .ok (.getfield 21, 3) := by decide +kernel
theorem dX7_beginLastPart_41 : decode cX7_beginLastPart 41 = .ok (.iload_n 1, 1) := by decide +kernel
theorem dX7_beginLastPart_42 : decode cX7_beginLastPart 42 = .ok (.invokevirtual 184, 3) := by decide +kernel
theorem dX7_beginLastPart_45 : decode cX7_beginLastPart 45 = .ok (.aload_n 0, 1) := by decide +kernel
theorem dX7_beginLastPart_46 : decode cX7_beginLastPart 46 = .ok (.iload_n 2, 1) := by decide +kernel
theorem dX7_beginLastPart_47 : decode cX7_beginLastPart 47 = .ok (.aload_n 0, 1) := by decide +kernel
theorem dX7_beginLastPart_48 : decode cX7_beginLastPart 48 = .ok (.getfield 43, 3) := by decide +kernel
theorem dX7_beginLastPart_51 : decode cX7_beginLastPart 51 = .ok (.iload_n 1, 1) := by decide +kernel
theorem dX7_beginLastPart_52 : decode cX7_beginLastPart 52 = .ok (.invokevirtual 132, 3) := by decide +kernel
theorem dX7_beginLastPart_55 : decode cX7_beginLastPart 55 = .ok (.invokevirtual 141, 3) := by decide +kernel
theorem dX7_beginLastPart_58 : decode cX7_beginLastPart 58 = .ok (.return_, 1) := by decide +kernel
theorem dX7_payForLastPart_0 : decode cX7_payForLastPart 0 = .ok (.aload_n 0, 1) := by decide +kernel
theorem dX7_payForLastPart_1 : decode cX7_payForLastPart 1 = .ok (.getfield 61, 3) := by decide +kernel
theorem dX7_payForLastPart_4 : decode cX7_payForLastPart 4 = .ok (.iconst 3, 1) := by decide +kernel
theorem dX7_payForLastPart_5 : decode cX7_payForLastPart 5 = .ok (.if_icmp .eq 18, 3) := by decide +kernel
theorem dX7_payForLastPart_8 : decode cX7_payForLastPart 8 = .ok (.aload_n 0, 1) := by decide +kernel
theorem dX7_payForLastPart_9 : decode cX7_payForLastPart 9 = .ok (.getfield 21, 3) := by decide +kernel
theorem dX7_payForLastPart_12 : decode cX7_payForLastPart 12 = .ok (.iconst 3, 1) := by decide +kernel
theorem dX7_payForLastPart_13 : decode cX7_payForLastPart 13 = .ok (.bipush 10, 2) := by decide +kernel
theorem dX7_payForLastPart_15 : decode cX7_payForLastPart 15 = .ok (.invokevirtual 53, 3) := by decide +kernel
theorem dX7_payForLastPart_18 : decode cX7_payForLastPart 18 = .ok (.ifCond .eq 5, 3) := by decide +kernel
theorem dX7_payForLastPart_21 : decode cX7_payForLastPart 21 = .ok (.iconst 2, 1) := by decide +kernel
theorem dX7_payForLastPart_22 : decode cX7_payForLastPart 22 = .ok (.ireturn, 1) := by decide +kernel
theorem dX7_payForLastPart_23 : decode cX7_payForLastPart 23 = .ok (.aload_n 0, 1) := by decide +kernel
theorem dX7_payForLastPart_24 : decode cX7_payForLastPart 24 = .ok (.getfield 21, 3) := by decide +kernel
theorem dX7_payForLastPart_27 : decode cX7_payForLastPart 27 = .ok (.invokevirtual 196, 3) := by decide +kernel
theorem dX7_payForLastPart_30 : decode cX7_payForLastPart 30 = .ok (.ifCond .eq 5, 3) := by decide +kernel
theorem dX7_payForLastPart_33 : decode cX7_payForLastPart 33 = .ok (.iconst (-1), 1) := by decide +kernel
theorem dX7_payForLastPart_34 : decode cX7_payForLastPart 34 = .ok (.ireturn, 1) := by decide +kernel
theorem dX7_payForLastPart_35 : decode cX7_payForLastPart 35 = .ok (.aload_n 0, 1) := by decide +kernel
theorem dX7_payForLastPart_36 : decode cX7_payForLastPart 36 = .ok (.getfield 21, 3) := by decide +kernel
theorem dX7_payForLastPart_39 : decode cX7_payForLastPart 39 = .ok (.iconst 1, 1) := by decide +kernel
theorem dX7_payForLastPart_40 : decode cX7_payForLastPart 40 = .ok (.invokevirtual 199, 3) := by decide +kernel
theorem dX7_payForLastPart_43 : decode cX7_payForLastPart 43 = .ok (.aload_n 0, 1) := by decide +kernel
theorem dX7_payForLastPart_44 : decode cX7_payForLastPart 44 = .ok (.getfield 21, 3) := by decide +kernel
theorem dX7_payForLastPart_47 : decode cX7_payForLastPart 47 = .ok (.iconst 3, 1) := by decide +kernel
theorem dX7_payForLastPart_48 : decode cX7_payForLastPart 48 = .ok (.bipush 10, 2) := by decide +kernel
theorem dX7_payForLastPart_50 : decode cX7_payForLastPart 50 = .ok (.invokevirtual 53, 3) := by decide +kernel
theorem dX7_payForLastPart_53 : decode cX7_payForLastPart 53 = .ok (.ifCond .eq 5, 3) := by decide +kernel
theorem dX7_payForLastPart_56 : decode cX7_payForLastPart 56 = .ok (.iconst 3, 1) := by decide +kernel
theorem dX7_payForLastPart_57 : decode cX7_payForLastPart 57 = .ok (.ireturn, 1) := by decide +kernel
theorem dX7_payForLastPart_58 : decode cX7_payForLastPart 58 = .ok (.aload_n 0, 1) := by decide +kernel
theorem dX7_payForLastPart_59 : decode cX7_payForLastPart 59 = .ok (.getfield 21, 3) := by decide +kernel
theorem dX7_payForLastPart_62 : decode cX7_payForLastPart 62 = .ok (.iconst 0, 1) := by decide +kernel
theorem dX7_payForLastPart_63 : decode cX7_payForLastPart 63 = .ok (.invokevirtual 199, 3) := by decide +kernel
theorem dX7_payForLastPart_66 : decode cX7_payForLastPart 66 = .ok (.iconst (-1), 1) := by decide +kernel
theorem dX7_payForLastPart_67 : decode cX7_payForLastPart 67 = .ok (.ireturn, 1) := by decide +kernel
theorem dX7_endLastPart_0 : decode cX7_endLastPart 0 = .ok (.aload_n 0, 1) := by decide +kernel
theorem dX7_endLastPart_1 : decode cX7_endLastPart 1 = .ok (.getfield 35, 3) := by decide +kernel
theorem dX7_endLastPart_4 : decode cX7_endLastPart 4 = .ok (.invokevirtual 73, 3) := by decide +kernel
theorem dX7_endLastPart_7 : decode cX7_endLastPart 7 = .ok (.iconst 3, 1) := by decide +kernel
theorem dX7_endLastPart_8 : decode cX7_endLastPart 8 = .ok (.if_icmp .ne 19, 3) := by decide +kernel
theorem dX7_endLastPart_11 : decode cX7_endLastPart 11 = .ok (.aload_n 0, 1) := by decide +kernel
theorem dX7_endLastPart_12 : decode cX7_endLastPart 12 = .ok (.getfield 21, 3) := by decide +kernel
theorem dX7_endLastPart_15 : decode cX7_endLastPart 15 = .ok (.iconst 0, 1) := by decide +kernel
theorem dX7_endLastPart_16 : decode cX7_endLastPart 16 = .ok (.invokevirtual 199, 3) := by decide +kernel
theorem dX7_endLastPart_19 : decode cX7_endLastPart 19 = .ok (.aload_n 0, 1) := by decide +kernel
theorem dX7_endLastPart_20 : decode cX7_endLastPart 20 = .ok (.iconst 3, 1) := by decide +kernel
theorem dX7_endLastPart_21 : decode cX7_endLastPart 21 = .ok (.putfield 61, 3) := by decide +kernel
theorem dX7_endLastPart_24 : decode cX7_endLastPart 24 = .ok (.goto 43, 3) := by decide +kernel
theorem dX7_endLastPart_27 : decode cX7_endLastPart 27 = .ok (.aload_n 0, 1) := by decide +kernel
theorem dX7_endLastPart_28 : decode cX7_endLastPart 28 = .ok (.getfield 61, 3) := by decide +kernel
theorem dX7_endLastPart_31 : decode cX7_endLastPart 31 = .ok (.ifCond .ne 36, 3) := by decide +kernel
theorem dX7_endLastPart_34 : decode cX7_endLastPart 34 = .ok (.aload_n 0, 1) := by decide +kernel
theorem dX7_endLastPart_35 : decode cX7_endLastPart 35 = .ok (.aload_n 0, 1) := by decide +kernel
theorem dX7_endLastPart_36 : decode cX7_endLastPart 36 = .ok (.getfield 35, 3) := by decide +kernel
theorem dX7_endLastPart_39 : decode cX7_endLastPart 39 = .ok (.invokevirtual 203, 3) := by decide +kernel
theorem dX7_endLastPart_42 : decode cX7_endLastPart 42 = .ok (.putfield 61, 3) := by decide +kernel
theorem dX7_endLastPart_45 : decode cX7_endLastPart 45 = .ok (.aload_n 0, 1) := by decide +kernel
theorem dX7_endLastPart_46 : decode cX7_endLastPart 46 = .ok (.aload_n 0, 1) := by decide +kernel
theorem dX7_endLastPart_47 : decode cX7_endLastPart 47 = .ok (.getfield 35, 3) := by decide +kernel
theorem dX7_endLastPart_50 : decode cX7_endLastPart 50 = .ok (.invokevirtual 206, 3) := by decide +kernel
theorem dX7_endLastPart_53 : decode cX7_endLastPart 53 = .ok (.putfield 82, 3) := by decide +kernel
theorem dX7_endLastPart_56 : decode cX7_endLastPart 56 = .ok (.aload_n 0, 1) := by decide +kernel
theorem dX7_endLastPart_57 : decode cX7_endLastPart 57 = .ok (.aload_n 0, 1) := by decide +kernel
theorem dX7_endLastPart_58 : decode cX7_endLastPart 58 = .ok (.getfield 35, 3) := by decide +kernel
theorem dX7_endLastPart_61 : decode cX7_endLastPart 61 = .ok (.invokevirtual 209, 3) := by decide +kernel
theorem dX7_endLastPart_64 : decode cX7_endLastPart 64 = .ok (.putfield 85, 3) := by decide +kernel
theorem dX7_endLastPart_67 : decode cX7_endLastPart 67 = .ok (.aload_n 0, 1) := by decide +kernel
theorem dX7_endLastPart_68 : decode cX7_endLastPart 68 = .ok (.getfield 35, 3) := by decide +kernel
theorem dX7_endLastPart_71 : decode cX7_endLastPart 71 = .ok (.invokevirtual 181, 3) := by decide +kernel
theorem dX7_endLastPart_74 : decode cX7_endLastPart 74 = .ok (.return_, 1) := by decide +kernel
theorem dX7_loopOrEnd_0 : decode cX7_loopOrEnd 0 = .ok (.aload_n 0, 1) := by decide +kernel
theorem dX7_loopOrEnd_1 : decode cX7_loopOrEnd 1 = .ok (.getfield 12, 3) := by decide +kernel
theorem dX7_loopOrEnd_4 : decode cX7_loopOrEnd 4 = .ok (.iload_n 1, 1) := by decide +kernel
theorem dX7_loopOrEnd_5 : decode cX7_loopOrEnd 5 = .ok (.invokevirtual 144, 3) := by decide +kernel
theorem dX7_loopOrEnd_8 : decode cX7_loopOrEnd 8 = .ok (.ifCond .eq 12, 3) := by decide +kernel
theorem dX7_loopOrEnd_11 : decode cX7_loopOrEnd 11 = .ok (.aload_n 0, 1) := by decide +kernel
theorem dX7_loopOrEnd_12 : decode cX7_loopOrEnd 12 = .ok (.iconst 1, 1) := by decide +kernel
theorem dX7_loopOrEnd_13 : decode cX7_loopOrEnd 13 = .ok (.iload_n 2, 1) := by decide +kernel
theorem dX7_loopOrEnd_14 : decode cX7_loopOrEnd 14 = .ok (.invokevirtual 141, 3) := by decide +kernel
theorem dX7_loopOrEnd_17 : decode cX7_loopOrEnd 17 = .ok (.goto 10, 3) := by decide +kernel
theorem dX7_loopOrEnd_20 : decode cX7_loopOrEnd 20 = .ok (.aload_n 0, 1) := by decide +kernel
theorem dX7_loopOrEnd_21 : decode cX7_loopOrEnd 21 = .ok (.getfield 35, 3) := by decide +kernel
theorem dX7_loopOrEnd_24 : decode cX7_loopOrEnd 24 = .ok (.invokevirtual 181, 3) := by decide +kernel
theorem dX7_loopOrEnd_27 : decode cX7_loopOrEnd 27 = .ok (.return_, 1) := by decide +kernel
theorem dX7_call_0 : decode cX7_call 0 = .ok (.aload_n 0, 1) := by decide +kernel
theorem dX7_call_1 : decode cX7_call 1 = .ok (.getfield 43, 3) := by decide +kernel
theorem dX7_call_4 : decode cX7_call 4 = .ok (.iload_n 1, 1) := by decide +kernel
theorem dX7_call_5 : decode cX7_call 5 = .ok (.invokevirtual 212, 3) := by decide +kernel
theorem dX7_call_8 : decode cX7_call 8 = .ok (.istore_n 2, 1) := by decide +kernel
theorem dX7_call_9 : decode cX7_call 9 = .ok (.aload_n 0, 1) := by decide +kernel
theorem dX7_call_10 : decode cX7_call 10 = .ok (.getfield 124, 3) := by decide +kernel
theorem dX7_call_13 : decode cX7_call 13 = .ok (.bipush 8, 2) := by decide +kernel
theorem dX7_call_15 : decode cX7_call 15 = .ok (.if_icmp .lt 20, 3) := by decide +kernel
theorem dX7_call_18 : decode cX7_call 18 = .ok (.aload_n 0, 1) := by decide +kernel
theorem dX7_call_19 : decode cX7_call 19 = .ok (.bipush 6, 2) := by decide +kernel
theorem dX7_call_21 : decode cX7_call 21 = .ok (.iconst 0, 1) := by decide +kernel
theorem dX7_call_22 : decode cX7_call 22 = .ok (.invokevirtual 215, 3) := by decide +kernel
theorem dX7_call_25 : decode cX7_call 25 = .ok (.aload_n 0, 1) := by decide +kernel
theorem dX7_call_26 : decode cX7_call 26 = .ok (.getfield 35, 3) := by decide +kernel
theorem dX7_call_29 : decode cX7_call 29 = .ok (.invokevirtual 181, 3) := by decide +kernel
theorem dX7_call_32 : decode cX7_call 32 = .ok (.goto 57, 3) := by decide +kernel
theorem dX7_call_35 : decode cX7_call 35 = .ok (.iload_n 2, 1) := by decide +kernel
theorem dX7_call_36 : decode cX7_call 36 = .ok (.iconst (-1), 1) := by decide +kernel
theorem dX7_call_37 : decode cX7_call 37 = .ok (.if_icmp .ne 19, 3) := by decide +kernel
theorem dX7_call_40 : decode cX7_call 40 = .ok (.aload_n 0, 1) := by decide +kernel
theorem dX7_call_41 : decode cX7_call 41 = .ok (.iconst 1, 1) := by decide +kernel
theorem dX7_call_42 : decode cX7_call 42 = .ok (.iconst 0, 1) := by decide +kernel
theorem dX7_call_43 : decode cX7_call 43 = .ok (.invokevirtual 215, 3) := by decide +kernel
theorem dX7_call_46 : decode cX7_call 46 = .ok (.aload_n 0, 1) := by decide +kernel
theorem dX7_call_47 : decode cX7_call 47 = .ok (.getfield 35, 3) := by decide +kernel
theorem dX7_call_50 : decode cX7_call 50 = .ok (.invokevirtual 181, 3) := by decide +kernel
theorem dX7_call_53 : decode cX7_call 53 = .ok (.goto 36, 3) := by decide +kernel
theorem dX7_call_56 : decode cX7_call 56 = .ok (.aload_n 0, 1) := by decide +kernel
theorem dX7_call_57 : decode cX7_call 57 = .ok (.getfield 21, 3) := by decide +kernel
theorem dX7_call_60 : decode cX7_call 60 = .ok (.iconst 1, 1) := by decide +kernel
theorem dX7_call_61 : decode cX7_call 61 = .ok (.iconst 2, 1) := by decide +kernel
theorem dX7_call_62 : decode cX7_call 62 = .ok (.invokevirtual 53, 3) := by decide +kernel
theorem dX7_call_65 : decode cX7_call 65 = .ok (.ifCond .eq 19, 3) := by decide +kernel
theorem dX7_call_68 : decode cX7_call 68 = .ok (.aload_n 0, 1) := by decide +kernel
theorem dX7_call_69 : decode cX7_call 69 = .ok (.getfield 35, 3) := by decide +kernel
theorem dX7_call_72 : decode cX7_call 72 = .ok (.iconst 1, 1) := by decide +kernel
theorem dX7_call_73 : decode cX7_call 73 = .ok (.invokevirtual 218, 3) := by decide +kernel
theorem dX7_call_76 : decode cX7_call 76 = .ok (.aload_n 0, 1) := by decide +kernel
theorem dX7_call_77 : decode cX7_call 77 = .ok (.iload_n 2, 1) := by decide +kernel
theorem dX7_call_78 : decode cX7_call 78 = .ok (.invokevirtual 57, 3) := by decide +kernel
theorem dX7_call_81 : decode cX7_call 81 = .ok (.goto 8, 3) := by decide +kernel
theorem dX7_call_84 : decode cX7_call 84 = .ok (.aload_n 0, 1) := by decide +kernel
theorem dX7_call_85 : decode cX7_call 85 = .ok (.iconst 3, 1) := by decide +kernel
theorem dX7_call_86 : decode cX7_call 86 = .ok (.invokevirtual 166, 3) := by decide +kernel
theorem dX7_call_89 : decode cX7_call 89 = .ok (.return_, 1) := by decide +kernel
theorem dX7_enter_0 : decode cX7_enter 0 = .ok (.aload_n 0, 1) := by decide +kernel
theorem dX7_enter_1 : decode cX7_enter 1 = .ok (.dup, 1) := by decide +kernel
theorem dX7_enter_2 : decode cX7_enter 2 = .ok (.getfield 124, 3) := by decide +kernel
theorem dX7_enter_5 : decode cX7_enter 5 = .ok (.iconst 1, 1) := by decide +kernel
theorem dX7_enter_6 : decode cX7_enter 6 = .ok (.iadd, 1) := by decide +kernel
theorem dX7_enter_7 : decode cX7_enter 7 = .ok (.putfield 124, 3) := by decide +kernel
theorem dX7_enter_10 : decode cX7_enter 10 = .ok (.aload_n 0, 1) := by decide +kernel
theorem dX7_enter_11 : decode cX7_enter 11 = .ok (.aload_n 0, 1) := by decide +kernel
theorem dX7_enter_12 : decode cX7_enter 12 = .ok (.getfield 97, 3) := by decide +kernel
theorem dX7_enter_15 : decode cX7_enter 15 = .ok (.aload_n 0, 1) := by decide +kernel
theorem dX7_enter_16 : decode cX7_enter 16 = .ok (.getfield 124, 3) := by decide +kernel
theorem dX7_enter_19 : decode cX7_enter 19 = .ok (.invokestatic 221, 3) := by decide +kernel
theorem dX7_enter_22 : decode cX7_enter 22 = .ok (.putfield 97, 3) := by decide +kernel
theorem dX7_enter_25 : decode cX7_enter 25 = .ok (.aload_n 0, 1) := by decide +kernel
theorem dX7_enter_26 : decode cX7_enter 26 = .ok (.getfield 35, 3) := by decide +kernel
theorem dX7_enter_29 : decode cX7_enter 29 = .ok (.iload_n 1, 1) := by decide +kernel
theorem dX7_enter_30 : decode cX7_enter 30 = .ok (.invokevirtual 227, 3) := by decide +kernel
theorem dX7_enter_33 : decode cX7_enter 33 = .ok (.return_, 1) := by decide +kernel
theorem dX7_doPart_0 : decode cX7_doPart 0 = .ok (.aload_n 0, 1) := by decide +kernel
theorem dX7_doPart_1 : decode cX7_doPart 1 = .ok (.getfield 35, 3) := by decide +kernel
theorem dX7_doPart_4 : decode cX7_doPart 4 = .ok (.iload_n 1, 1) := by decide +kernel
theorem dX7_doPart_5 : decode cX7_doPart 5 = .ok (.invokevirtual 218, 3) := by decide +kernel
theorem dX7_doPart_8 : decode cX7_doPart 8 = .ok (.aload_n 0, 1) := by decide +kernel
theorem dX7_doPart_9 : decode cX7_doPart 9 = .ok (.getfield 35, 3) := by decide +kernel
theorem dX7_doPart_12 : decode cX7_doPart 12 = .ok (.iload_n 2, 1) := by decide +kernel
theorem dX7_doPart_13 : decode cX7_doPart 13 = .ok (.invokevirtual 227, 3) := by decide +kernel
theorem dX7_doPart_16 : decode cX7_doPart 16 = .ok (.return_, 1) := by decide +kernel
theorem dX7_end_0 : decode cX7_end 0 = .ok (.aload_n 0, 1) := by decide +kernel
theorem dX7_end_1 : decode cX7_end 1 = .ok (.iload_n 1, 1) := by decide +kernel
theorem dX7_end_2 : decode cX7_end 2 = .ok (.putfield 61, 3) := by decide +kernel
theorem dX7_end_5 : decode cX7_end 5 = .ok (.aload_n 0, 1) := by decide +kernel
theorem dX7_end_6 : decode cX7_end 6 = .ok (.getfield 35, 3) := by decide +kernel
theorem dX7_end_9 : decode cX7_end 9 = .ok (.invokevirtual 181, 3) := by decide +kernel
theorem dX7_end_12 : decode cX7_end 12 = .ok (.return_, 1) := by decide +kernel
theorem dX7_raise_0 : decode cX7_raise 0 = .ok (.aload_n 0, 1) := by decide +kernel
theorem dX7_raise_1 : decode cX7_raise 1 = .ok (.iconst 2, 1) := by decide +kernel
theorem dX7_raise_2 : decode cX7_raise 2 = .ok (.putfield 61, 3) := by decide +kernel
theorem dX7_raise_5 : decode cX7_raise 5 = .ok (.aload_n 0, 1) := by decide +kernel
theorem dX7_raise_6 : decode cX7_raise 6 = .ok (.iload_n 1, 1) := by decide +kernel
theorem dX7_raise_7 : decode cX7_raise 7 = .ok (.putfield 82, 3) := by decide +kernel
theorem dX7_raise_10 : decode cX7_raise 10 = .ok (.aload_n 0, 1) := by decide +kernel
theorem dX7_raise_11 : decode cX7_raise 11 = .ok (.iload_n 2, 1) := by decide +kernel
theorem dX7_raise_12 : decode cX7_raise 12 = .ok (.putfield 85, 3) := by decide +kernel
theorem dX7_raise_15 : decode cX7_raise 15 = .ok (.return_, 1) := by decide +kernel
theorem dX7_doAtOnce_0 : decode cX7_doAtOnce 0 = .ok (.aload_n 0, 1) := by decide +kernel
theorem dX7_doAtOnce_1 : decode cX7_doAtOnce 1 = .ok (.iconst 0, 1) := by decide +kernel
theorem dX7_doAtOnce_2 : decode cX7_doAtOnce 2 = .ok (.putfield 61, 3) := by decide +kernel
theorem dX7_doAtOnce_5 : decode cX7_doAtOnce 5 = .ok (.iload_n 1, 1) := by decide +kernel
theorem dX7_doAtOnce_6 : decode cX7_doAtOnce 6 = .ok (.iconst 5, 1) := by decide +kernel
theorem dX7_doAtOnce_7 : decode cX7_doAtOnce 7 = .ok (.if_icmp .gt 15, 3) := by decide +kernel
theorem dX7_doAtOnce_10 : decode cX7_doAtOnce 10 = .ok (.aload_n 0, 1) := by decide +kernel
theorem dX7_doAtOnce_11 : decode cX7_doAtOnce 11 = .ok (.iload_n 1, 1) := by decide +kernel
theorem dX7_doAtOnce_12 : decode cX7_doAtOnce 12 = .ok (.iload_n 2, 1) := by decide +kernel
theorem dX7_doAtOnce_13 : decode cX7_doAtOnce 13 = .ok (.iload_n 3, 1) := by decide +kernel
theorem dX7_doAtOnce_14 : decode cX7_doAtOnce 14 = .ok (.iload 4, 2) := by decide +kernel
theorem dX7_doAtOnce_16 : decode cX7_doAtOnce 16 = .ok (.invokevirtual 232, 3) := by decide +kernel
theorem dX7_doAtOnce_19 : decode cX7_doAtOnce 19 = .ok (.goto 93, 3) := by decide +kernel
theorem dX7_doAtOnce_22 : decode cX7_doAtOnce 22 = .ok (.iload_n 1, 1) := by decide +kernel
theorem dX7_doAtOnce_23 : decode cX7_doAtOnce 23 = .ok (.bipush 11, 2) := by decide +kernel
theorem dX7_doAtOnce_25 : decode cX7_doAtOnce 25 = .ok (.if_icmp .gt 15, 3) := by decide +kernel
theorem dX7_doAtOnce_28 : decode cX7_doAtOnce 28 = .ok (.aload_n 0, 1) := by decide +kernel
theorem dX7_doAtOnce_29 : decode cX7_doAtOnce 29 = .ok (.iload_n 1, 1) := by decide +kernel
theorem dX7_doAtOnce_30 : decode cX7_doAtOnce 30 = .ok (.iload_n 2, 1) := by decide +kernel
theorem dX7_doAtOnce_31 : decode cX7_doAtOnce 31 = .ok (.iload_n 3, 1) := by decide +kernel
theorem dX7_doAtOnce_32 : decode cX7_doAtOnce 32 = .ok (.iload 4, 2) := by decide +kernel
theorem dX7_doAtOnce_34 : decode cX7_doAtOnce 34 = .ok (.invokevirtual 235, 3) := by decide +kernel
theorem dX7_doAtOnce_37 : decode cX7_doAtOnce 37 = .ok (.goto 75, 3) := by decide +kernel
theorem dX7_doAtOnce_40 : decode cX7_doAtOnce 40 = .ok (.iload_n 1, 1) := by decide +kernel
theorem dX7_doAtOnce_41 : decode cX7_doAtOnce 41 = .ok (.bipush 16, 2) := by decide +kernel
theorem dX7_doAtOnce_43 : decode cX7_doAtOnce 43 = .ok (.if_icmp .ne 26, 3) := by decide +kernel
theorem dX7_doAtOnce_46 : decode cX7_doAtOnce 46 = .ok (.aload_n 0, 1) := by decide +kernel
theorem dX7_doAtOnce_47 : decode cX7_doAtOnce 47 = .ok (.getfield 12, 3) := by decide +kernel
theorem dX7_doAtOnce_50 : decode cX7_doAtOnce 50 = .ok (.aload_n 0, 1) := by decide +kernel
theorem dX7_doAtOnce_51 : decode cX7_doAtOnce 51 = .ok (.getfield 12, 3) := by decide +kernel
theorem dX7_doAtOnce_54 : decode cX7_doAtOnce 54 = .ok (.iload_n 2, 1) := by decide +kernel
theorem dX7_doAtOnce_55 : decode cX7_doAtOnce 55 = .ok (.invokevirtual 144, 3) := by decide +kernel
theorem dX7_doAtOnce_58 : decode cX7_doAtOnce 58 = .ok (.invokevirtual 238, 3) := by decide +kernel
theorem dX7_doAtOnce_61 : decode cX7_doAtOnce 61 = .ok (.aload_n 0, 1) := by decide +kernel
theorem dX7_doAtOnce_62 : decode cX7_doAtOnce 62 = .ok (.iconst 1, 1) := by decide +kernel
theorem dX7_doAtOnce_63 : decode cX7_doAtOnce 63 = .ok (.putfield 61, 3) := by decide +kernel
theorem dX7_doAtOnce_66 : decode cX7_doAtOnce 66 = .ok (.goto 46, 3) := by decide +kernel
theorem dX7_doAtOnce_69 : decode cX7_doAtOnce 69 = .ok (.iload_n 1, 1) := by decide +kernel
theorem dX7_doAtOnce_70 : decode cX7_doAtOnce 70 = .ok (.bipush 17, 2) := by decide +kernel
theorem dX7_doAtOnce_72 : decode cX7_doAtOnce 72 = .ok (.if_icmp .ne 19, 3) := by decide +kernel
theorem dX7_doAtOnce_75 : decode cX7_doAtOnce 75 = .ok (.aload_n 0, 1) := by decide +kernel
theorem dX7_doAtOnce_76 : decode cX7_doAtOnce 76 = .ok (.iconst 5, 1) := by decide +kernel
theorem dX7_doAtOnce_77 : decode cX7_doAtOnce 77 = .ok (.aload_n 0, 1) := by decide +kernel
theorem dX7_doAtOnce_78 : decode cX7_doAtOnce 78 = .ok (.getfield 12, 3) := by decide +kernel
theorem dX7_doAtOnce_81 : decode cX7_doAtOnce 81 = .ok (.iload_n 2, 1) := by decide +kernel
theorem dX7_doAtOnce_82 : decode cX7_doAtOnce 82 = .ok (.invokevirtual 144, 3) := by decide +kernel
theorem dX7_doAtOnce_85 : decode cX7_doAtOnce 85 = .ok (.invokevirtual 215, 3) := by decide +kernel
theorem dX7_doAtOnce_88 : decode cX7_doAtOnce 88 = .ok (.goto 24, 3) := by decide +kernel
theorem dX7_doAtOnce_91 : decode cX7_doAtOnce 91 = .ok (.iload_n 1, 1) := by decide +kernel
theorem dX7_doAtOnce_92 : decode cX7_doAtOnce 92 = .ok (.bipush 21, 2) := by decide +kernel
theorem dX7_doAtOnce_94 : decode cX7_doAtOnce 94 = .ok (.if_icmp .ne 18, 3) := by decide +kernel
theorem dX7_doAtOnce_97 : decode cX7_doAtOnce 97 = .ok (.aload_n 0, 1) := by decide +kernel
theorem dX7_doAtOnce_98 : decode cX7_doAtOnce 98 = .ok (.getfield 12, 3) := by decide +kernel
theorem dX7_doAtOnce_101 : decode cX7_doAtOnce 101 = .ok (.iload_n 2, 1) := by decide +kernel
theorem dX7_doAtOnce_102 : decode cX7_doAtOnce 102 = .ok (.aload_n 0, 1) := by decide +kernel
theorem dX7_doAtOnce_103 : decode cX7_doAtOnce 103 = .ok (.getfield 12, 3) := by decide +kernel
theorem dX7_doAtOnce_106 : decode cX7_doAtOnce 106 = .ok (.invokevirtual 88, 3) := by decide +kernel
theorem dX7_doAtOnce_109 : decode cX7_doAtOnce 109 = .ok (.invokevirtual 116, 3) := by decide +kernel
theorem dX7_doAtOnce_112 : decode cX7_doAtOnce 112 = .ok (.aload_n 0, 1) := by decide +kernel
theorem dX7_doAtOnce_113 : decode cX7_doAtOnce 113 = .ok (.getfield 35, 3) := by decide +kernel
theorem dX7_doAtOnce_116 : decode cX7_doAtOnce 116 = .ok (.invokevirtual 181, 3) := by decide +kernel
theorem dX7_doAtOnce_119 : decode cX7_doAtOnce 119 = .ok (.return_, 1) := by decide +kernel
theorem dX7_calculate_0 : decode cX7_calculate 0 = .ok (.aload_n 0, 1) := by decide +kernel
theorem dX7_calculate_1 : decode cX7_calculate 1 = .ok (.getfield 12, 3) := by decide +kernel
theorem dX7_calculate_4 : decode cX7_calculate 4 = .ok (.iload_n 3, 1) := by decide +kernel
theorem dX7_calculate_5 : decode cX7_calculate 5 = .ok (.invokevirtual 144, 3) := by decide +kernel
theorem dX7_calculate_8 : decode cX7_calculate 8 = .ok (.istore 5, 2) := by decide +kernel
theorem dX7_calculate_10 : decode cX7_calculate 10 = .ok (.aload_n 0, 1) := by decide +kernel
theorem dX7_calculate_11 : decode cX7_calculate 11 = .ok (.getfield 12, 3) := by decide +kernel
theorem dX7_calculate_14 : decode cX7_calculate 14 = .ok (.iload 4, 2) := by decide +kernel
theorem dX7_calculate_16 : decode cX7_calculate 16 = .ok (.invokevirtual 144, 3) := by decide +kernel
theorem dX7_calculate_19 : decode cX7_calculate 19 = .ok (.istore 6, 2) := by decide +kernel
theorem dX7_calculate_21 : decode cX7_calculate 21 = .ok (.iload_n 1, 1) := by decide +kernel
theorem dX7_calculate_22 : decode cX7_calculate 22 = .ok (.tableswitch 90 0 3 #[30, 42, 58, 74], 30) := by decide +kernel
theorem dX7_calculate_52 : decode cX7_calculate 52 = .ok (.aload_n 0, 1) := by decide +kernel
theorem dX7_calculate_53 : decode cX7_calculate 53 = .ok (.getfield 12, 3) := by decide +kernel
theorem dX7_calculate_56 : decode cX7_calculate 56 = .ok (.iload_n 2, 1) := by decide +kernel
theorem dX7_calculate_57 : decode cX7_calculate 57 = .ok (.iload_n 3, 1) := by decide +kernel
theorem dX7_calculate_58 : decode cX7_calculate 58 = .ok (.invokevirtual 116, 3) := by decide +kernel
theorem dX7_calculate_61 : decode cX7_calculate 61 = .ok (.goto 61, 3) := by decide +kernel
theorem dX7_calculate_64 : decode cX7_calculate 64 = .ok (.aload_n 0, 1) := by decide +kernel
theorem dX7_calculate_65 : decode cX7_calculate 65 = .ok (.getfield 12, 3) := by decide +kernel
theorem dX7_calculate_68 : decode cX7_calculate 68 = .ok (.iload_n 2, 1) := by decide +kernel
theorem dX7_calculate_69 : decode cX7_calculate 69 = .ok (.iload 5, 2) := by decide +kernel
theorem dX7_calculate_71 : decode cX7_calculate 71 = .ok (.iload 6, 2) := by decide +kernel
theorem dX7_calculate_73 : decode cX7_calculate 73 = .ok (.iadd, 1) := by decide +kernel
theorem dX7_calculate_74 : decode cX7_calculate 74 = .ok (.invokevirtual 116, 3) := by decide +kernel
theorem dX7_calculate_77 : decode cX7_calculate 77 = .ok (.goto 45, 3) := by decide +kernel
theorem dX7_calculate_80 : decode cX7_calculate 80 = .ok (.aload_n 0, 1) := by decide +kernel
theorem dX7_calculate_81 : decode cX7_calculate 81 = .ok (.getfield 12, 3) := by decide +kernel
theorem dX7_calculate_84 : decode cX7_calculate 84 = .ok (.iload_n 2, 1) := by decide +kernel
theorem dX7_calculate_85 : decode cX7_calculate 85 = .ok (.iload 5, 2) := by decide +kernel
theorem dX7_calculate_87 : decode cX7_calculate 87 = .ok (.iload 6, 2) := by decide +kernel
theorem dX7_calculate_89 : decode cX7_calculate 89 = .ok (.isub, 1) := by decide +kernel
theorem dX7_calculate_90 : decode cX7_calculate 90 = .ok (.invokevirtual 116, 3) := by decide +kernel
theorem dX7_calculate_93 : decode cX7_calculate 93 = .ok (.goto 29, 3) := by decide +kernel
theorem dX7_calculate_96 : decode cX7_calculate 96 = .ok (.aload_n 0, 1) := by decide +kernel
theorem dX7_calculate_97 : decode cX7_calculate 97 = .ok (.getfield 12, 3) := by decide +kernel
theorem dX7_calculate_100 : decode cX7_calculate 100 = .ok (.iload_n 2, 1) := by decide +kernel
theorem dX7_calculate_101 : decode cX7_calculate 101 = .ok (.iload 5, 2) := by decide +kernel
theorem dX7_calculate_103 : decode cX7_calculate 103 = .ok (.iload 6, 2) := by decide +kernel
theorem dX7_calculate_105 : decode cX7_calculate 105 = .ok (.imul, 1) := by decide +kernel
theorem dX7_calculate_106 : decode cX7_calculate 106 = .ok (.invokevirtual 116, 3) := by decide +kernel
theorem dX7_calculate_109 : decode cX7_calculate 109 = .ok (.goto 13, 3) := by decide +kernel
theorem dX7_calculate_112 : decode cX7_calculate 112 = .ok (.aload_n 0, 1) := by decide +kernel
theorem dX7_calculate_113 : decode cX7_calculate 113 = .ok (.iload_n 1, 1) := by decide +kernel
theorem dX7_calculate_114 : decode cX7_calculate 114 = .ok (.iload_n 2, 1) := by decide +kernel
theorem dX7_calculate_115 : decode cX7_calculate 115 = .ok (.iload 5, 2) := by decide +kernel
theorem dX7_calculate_117 : decode cX7_calculate 117 = .ok (.iload 6, 2) := by decide +kernel
theorem dX7_calculate_119 : decode cX7_calculate 119 = .ok (.invokevirtual 241, 3) := by decide +kernel
theorem dX7_calculate_122 : decode cX7_calculate 122 = .ok (.return_, 1) := by decide +kernel
theorem dX7_divide_0 : decode cX7_divide 0 = .ok (.iload 4, 2) := by decide +kernel
theorem dX7_divide_2 : decode cX7_divide 2 = .ok (.ifCond .ne 12, 3) := by decide +kernel
theorem dX7_divide_5 : decode cX7_divide 5 = .ok (.aload_n 0, 1) := by decide +kernel
theorem dX7_divide_6 : decode cX7_divide 6 = .ok (.iconst 4, 1) := by decide +kernel
theorem dX7_divide_7 : decode cX7_divide 7 = .ok (.iconst 0, 1) := by decide +kernel
theorem dX7_divide_8 : decode cX7_divide 8 = .ok (.invokevirtual 215, 3) := by decide +kernel
theorem dX7_divide_11 : decode cX7_divide 11 = .ok (.goto 27, 3) := by decide +kernel
theorem dX7_divide_14 : decode cX7_divide 14 = .ok (.aload_n 0, 1) := by decide +kernel
theorem dX7_divide_15 : decode cX7_divide 15 = .ok (.getfield 12, 3) := by decide +kernel
theorem dX7_divide_18 : decode cX7_divide 18 = .ok (.iload_n 2, 1) := by decide +kernel
theorem dX7_divide_19 : decode cX7_divide 19 = .ok (.iload_n 1, 1) := by decide +kernel
theorem dX7_divide_20 : decode cX7_divide 20 = .ok (.iconst 4, 1) := by decide +kernel
theorem dX7_divide_21 : decode cX7_divide 21 = .ok (.if_icmp .ne 10, 3) := by decide +kernel
theorem dX7_divide_24 : decode cX7_divide 24 = .ok (.iload_n 3, 1) := by decide +kernel
theorem dX7_divide_25 : decode cX7_divide 25 = .ok (.iload 4, 2) := by decide +kernel
theorem dX7_divide_27 : decode cX7_divide 27 = .ok (.idiv, 1) := by decide +kernel
theorem dX7_divide_28 : decode cX7_divide 28 = .ok (.goto 7, 3) := by decide +kernel
theorem dX7_divide_31 : decode cX7_divide 31 = .ok (.iload_n 3, 1) := by decide +kernel
theorem dX7_divide_32 : decode cX7_divide 32 = .ok (.iload 4, 2) := by decide +kernel
theorem dX7_divide_34 : decode cX7_divide 34 = .ok (.irem, 1) := by decide +kernel
theorem dX7_divide_35 : decode cX7_divide 35 = .ok (.invokevirtual 116, 3) := by decide +kernel
theorem dX7_divide_38 : decode cX7_divide 38 = .ok (.return_, 1) := by decide +kernel
theorem dX7_doWithRow_0 : decode cX7_doWithRow 0 = .ok (.iload_n 1, 1) := by decide +kernel
theorem dX7_doWithRow_1 : decode cX7_doWithRow 1 = .ok (.tableswitch 160 6 10 #[35, 51, 96, 140, 149], 35) := by decide +kernel
theorem dX7_doWithRow_36 : decode cX7_doWithRow 36 = .ok (.aload_n 0, 1) := by decide +kernel
theorem dX7_doWithRow_37 : decode cX7_doWithRow 37 = .ok (.iload_n 2, 1) := by decide +kernel
theorem dX7_doWithRow_38 : decode cX7_doWithRow 38 = .ok (.aload_n 0, 1) := by decide +kernel
theorem dX7_doWithRow_39 : decode cX7_doWithRow 39 = .ok (.getfield 12, 3) := by decide +kernel
theorem dX7_doWithRow_42 : decode cX7_doWithRow 42 = .ok (.iload_n 3, 1) := by decide +kernel
theorem dX7_doWithRow_43 : decode cX7_doWithRow 43 = .ok (.invokevirtual 144, 3) := by decide +kernel
theorem dX7_doWithRow_46 : decode cX7_doWithRow 46 = .ok (.invokevirtual 244, 3) := by decide +kernel
theorem dX7_doWithRow_49 : decode cX7_doWithRow 49 = .ok (.goto 121, 3) := by decide +kernel
theorem dX7_doWithRow_52 : decode cX7_doWithRow 52 = .ok (.aload_n 0, 1) := by decide +kernel
theorem dX7_doWithRow_53 : decode cX7_doWithRow 53 = .ok (.iload_n 3, 1) := by decide +kernel
theorem dX7_doWithRow_54 : decode cX7_doWithRow 54 = .ok (.aload_n 0, 1) := by decide +kernel
theorem dX7_doWithRow_55 : decode cX7_doWithRow 55 = .ok (.getfield 12, 3) := by decide +kernel
theorem dX7_doWithRow_58 : decode cX7_doWithRow 58 = .ok (.iload 4, 2) := by decide +kernel
theorem dX7_doWithRow_60 : decode cX7_doWithRow 60 = .ok (.invokevirtual 144, 3) := by decide +kernel
theorem dX7_doWithRow_63 : decode cX7_doWithRow 63 = .ok (.invokevirtual 247, 3) := by decide +kernel
theorem dX7_doWithRow_66 : decode cX7_doWithRow 66 = .ok (.ifCond .eq 104, 3) := by decide +kernel
theorem dX7_doWithRow_69 : decode cX7_doWithRow 69 = .ok (.aload_n 0, 1) := by decide +kernel
theorem dX7_doWithRow_70 : decode cX7_doWithRow 70 = .ok (.getfield 12, 3) := by decide +kernel
theorem dX7_doWithRow_73 : decode cX7_doWithRow 73 = .ok (.iload_n 2, 1) := by decide +kernel
theorem dX7_doWithRow_74 : decode cX7_doWithRow 74 = .ok (.aload_n 0, 1) := by decide +kernel
theorem dX7_doWithRow_75 : decode cX7_doWithRow 75 = .ok (.getfield 12, 3) := by decide +kernel
theorem dX7_doWithRow_78 : decode cX7_doWithRow 78 = .ok (.iload_n 3, 1) := by decide +kernel
theorem dX7_doWithRow_79 : decode cX7_doWithRow 79 = .ok (.aload_n 0, 1) := by decide +kernel
theorem dX7_doWithRow_80 : decode cX7_doWithRow 80 = .ok (.getfield 12, 3) := by decide +kernel
theorem dX7_doWithRow_83 : decode cX7_doWithRow 83 = .ok (.iload 4, 2) := by decide +kernel
theorem dX7_doWithRow_85 : decode cX7_doWithRow 85 = .ok (.invokevirtual 144, 3) := by decide +kernel
theorem dX7_doWithRow_88 : decode cX7_doWithRow 88 = .ok (.invokevirtual 250, 3) := by decide +kernel
theorem dX7_doWithRow_91 : decode cX7_doWithRow 91 = .ok (.invokevirtual 116, 3) := by decide +kernel
theorem dX7_doWithRow_94 : decode cX7_doWithRow 94 = .ok (.goto 76, 3) := by decide +kernel
theorem dX7_doWithRow_97 : decode cX7_doWithRow 97 = .ok (.aload_n 0, 1) := by decide +kernel
theorem dX7_doWithRow_98 : decode cX7_doWithRow 98 = .ok (.iload_n 2, 1) := by decide +kernel
theorem dX7_doWithRow_99 : decode cX7_doWithRow 99 = .ok (.aload_n 0, 1) := by decide +kernel
theorem dX7_doWithRow_100 : decode cX7_doWithRow 100 = .ok (.getfield 12, 3) := by decide +kernel
theorem dX7_doWithRow_103 : decode cX7_doWithRow 103 = .ok (.iload_n 3, 1) := by decide +kernel
theorem dX7_doWithRow_104 : decode cX7_doWithRow 104 = .ok (.invokevirtual 144, 3) := by decide +kernel
theorem dX7_doWithRow_107 : decode cX7_doWithRow 107 = .ok (.invokevirtual 247, 3) := by decide +kernel
theorem dX7_doWithRow_110 : decode cX7_doWithRow 110 = .ok (.ifCond .eq 60, 3) := by decide +kernel
theorem dX7_doWithRow_113 : decode cX7_doWithRow 113 = .ok (.aload_n 0, 1) := by decide +kernel
theorem dX7_doWithRow_114 : decode cX7_doWithRow 114 = .ok (.getfield 12, 3) := by decide +kernel
theorem dX7_doWithRow_117 : decode cX7_doWithRow 117 = .ok (.iload_n 2, 1) := by decide +kernel
theorem dX7_doWithRow_118 : decode cX7_doWithRow 118 = .ok (.aload_n 0, 1) := by decide +kernel
theorem dX7_doWithRow_119 : decode cX7_doWithRow 119 = .ok (.getfield 12, 3) := by decide +kernel
theorem dX7_doWithRow_122 : decode cX7_doWithRow 122 = .ok (.iload_n 3, 1) := by decide +kernel
theorem dX7_doWithRow_123 : decode cX7_doWithRow 123 = .ok (.invokevirtual 144, 3) := by decide +kernel
theorem dX7_doWithRow_126 : decode cX7_doWithRow 126 = .ok (.aload_n 0, 1) := by decide +kernel
theorem dX7_doWithRow_127 : decode cX7_doWithRow 127 = .ok (.getfield 12, 3) := by decide +kernel
theorem dX7_doWithRow_130 : decode cX7_doWithRow 130 = .ok (.iload 4, 2) := by decide +kernel
theorem dX7_doWithRow_132 : decode cX7_doWithRow 132 = .ok (.invokevirtual 144, 3) := by decide +kernel
theorem dX7_doWithRow_135 : decode cX7_doWithRow 135 = .ok (.invokevirtual 253, 3) := by decide +kernel
theorem dX7_doWithRow_138 : decode cX7_doWithRow 138 = .ok (.goto 32, 3) := by decide +kernel
theorem dX7_doWithRow_141 : decode cX7_doWithRow 141 = .ok (.aload_n 0, 1) := by decide +kernel
theorem dX7_doWithRow_142 : decode cX7_doWithRow 142 = .ok (.iload_n 2, 1) := by decide +kernel
theorem dX7_doWithRow_143 : decode cX7_doWithRow 143 = .ok (.iload_n 3, 1) := by decide +kernel
theorem dX7_doWithRow_144 : decode cX7_doWithRow 144 = .ok (.invokevirtual 256, 3) := by decide +kernel
theorem dX7_doWithRow_147 : decode cX7_doWithRow 147 = .ok (.goto 23, 3) := by decide +kernel
theorem dX7_doWithRow_150 : decode cX7_doWithRow 150 = .ok (.aload_n 0, 1) := by decide +kernel
theorem dX7_doWithRow_151 : decode cX7_doWithRow 151 = .ok (.getfield 12, 3) := by decide +kernel
theorem dX7_doWithRow_154 : decode cX7_doWithRow 154 = .ok (.iload_n 2, 1) := by decide +kernel
theorem dX7_doWithRow_155 : decode cX7_doWithRow 155 = .ok (.invokevirtual 259, 3) := by decide +kernel
theorem dX7_doWithRow_158 : decode cX7_doWithRow 158 = .ok (.goto 12, 3) := by decide +kernel
theorem dX7_doWithRow_161 : decode cX7_doWithRow 161 = .ok (.aload_n 0, 1) := by decide +kernel
theorem dX7_doWithRow_162 : decode cX7_doWithRow 162 = .ok (.getfield 12, 3) := by decide +kernel
theorem dX7_doWithRow_165 : decode cX7_doWithRow 165 = .ok (.iload_n 2, 1) := by decide +kernel
theorem dX7_doWithRow_166 : decode cX7_doWithRow 166 = .ok (.iload_n 3, 1) := by decide +kernel
theorem dX7_doWithRow_167 : decode cX7_doWithRow 167 = .ok (.invokevirtual 262, 3) := by decide +kernel
theorem dX7_doWithRow_170 : decode cX7_doWithRow 170 = .ok (.return_, 1) := by decide +kernel
theorem dX7_makeRow_0 : decode cX7_makeRow 0 = .ok (.aload_n 0, 1) := by decide +kernel
theorem dX7_makeRow_1 : decode cX7_makeRow 1 = .ok (.getfield 21, 3) := by decide +kernel
theorem dX7_makeRow_4 : decode cX7_makeRow 4 = .ok (.iconst 4, 1) := by decide +kernel
theorem dX7_makeRow_5 : decode cX7_makeRow 5 = .ok (.iload_n 2, 1) := by decide +kernel
theorem dX7_makeRow_6 : decode cX7_makeRow 6 = .ok (.invokestatic 265, 3) := by decide +kernel
theorem dX7_makeRow_9 : decode cX7_makeRow 9 = .ok (.invokevirtual 53, 3) := by decide +kernel
theorem dX7_makeRow_12 : decode cX7_makeRow 12 = .ok (.ifCond .ne 11, 3) := by decide +kernel
theorem dX7_makeRow_15 : decode cX7_makeRow 15 = .ok (.aload_n 0, 1) := by decide +kernel
theorem dX7_makeRow_16 : decode cX7_makeRow 16 = .ok (.iconst 3, 1) := by decide +kernel
theorem dX7_makeRow_17 : decode cX7_makeRow 17 = .ok (.putfield 61, 3) := by decide +kernel
theorem dX7_makeRow_20 : decode cX7_makeRow 20 = .ok (.goto 25, 3) := by decide +kernel
theorem dX7_makeRow_23 : decode cX7_makeRow 23 = .ok (.iload_n 2, 1) := by decide +kernel
theorem dX7_makeRow_24 : decode cX7_makeRow 24 = .ok (.ifCond .ge 12, 3) := by decide +kernel
theorem dX7_makeRow_27 : decode cX7_makeRow 27 = .ok (.aload_n 0, 1) := by decide +kernel
theorem dX7_makeRow_28 : decode cX7_makeRow 28 = .ok (.iconst 3, 1) := by decide +kernel
theorem dX7_makeRow_29 : decode cX7_makeRow 29 = .ok (.iconst 0, 1) := by decide +kernel
theorem dX7_makeRow_30 : decode cX7_makeRow 30 = .ok (.invokevirtual 215, 3) := by decide +kernel
theorem dX7_makeRow_33 : decode cX7_makeRow 33 = .ok (.goto 12, 3) := by decide +kernel
theorem dX7_makeRow_36 : decode cX7_makeRow 36 = .ok (.aload_n 0, 1) := by decide +kernel
theorem dX7_makeRow_37 : decode cX7_makeRow 37 = .ok (.getfield 12, 3) := by decide +kernel
theorem dX7_makeRow_40 : decode cX7_makeRow 40 = .ok (.iload_n 1, 1) := by decide +kernel
theorem dX7_makeRow_41 : decode cX7_makeRow 41 = .ok (.iload_n 2, 1) := by decide +kernel
theorem dX7_makeRow_42 : decode cX7_makeRow 42 = .ok (.invokevirtual 268, 3) := by decide +kernel
theorem dX7_makeRow_45 : decode cX7_makeRow 45 = .ok (.return_, 1) := by decide +kernel
theorem dX7_measureRow_0 : decode cX7_measureRow 0 = .ok (.aload_n 0, 1) := by decide +kernel
theorem dX7_measureRow_1 : decode cX7_measureRow 1 = .ok (.getfield 12, 3) := by decide +kernel
theorem dX7_measureRow_4 : decode cX7_measureRow 4 = .ok (.iload_n 2, 1) := by decide +kernel
theorem dX7_measureRow_5 : decode cX7_measureRow 5 = .ok (.invokevirtual 269, 3) := by decide +kernel
theorem dX7_measureRow_8 : decode cX7_measureRow 8 = .ok (.istore_n 3, 1) := by decide +kernel
theorem dX7_measureRow_9 : decode cX7_measureRow 9 = .ok (.iload_n 3, 1) := by decide +kernel
theorem dX7_measureRow_10 : decode cX7_measureRow 10 = .ok (.iconst (-1), 1) := by decide +kernel
theorem dX7_measureRow_11 : decode cX7_measureRow 11 = .ok (.if_icmp .ne 12, 3) := by decide +kernel
theorem dX7_measureRow_14 : decode cX7_measureRow 14 = .ok (.aload_n 0, 1) := by decide +kernel
theorem dX7_measureRow_15 : decode cX7_measureRow 15 = .ok (.iconst 1, 1) := by decide +kernel
theorem dX7_measureRow_16 : decode cX7_measureRow 16 = .ok (.iconst 0, 1) := by decide +kernel
theorem dX7_measureRow_17 : decode cX7_measureRow 17 = .ok (.invokevirtual 215, 3) := by decide +kernel
theorem dX7_measureRow_20 : decode cX7_measureRow 20 = .ok (.goto 12, 3) := by decide +kernel
theorem dX7_measureRow_23 : decode cX7_measureRow 23 = .ok (.aload_n 0, 1) := by decide +kernel
theorem dX7_measureRow_24 : decode cX7_measureRow 24 = .ok (.getfield 12, 3) := by decide +kernel
theorem dX7_measureRow_27 : decode cX7_measureRow 27 = .ok (.iload_n 1, 1) := by decide +kernel
theorem dX7_measureRow_28 : decode cX7_measureRow 28 = .ok (.iload_n 3, 1) := by decide +kernel
theorem dX7_measureRow_29 : decode cX7_measureRow 29 = .ok (.invokevirtual 116, 3) := by decide +kernel
theorem dX7_measureRow_32 : decode cX7_measureRow 32 = .ok (.return_, 1) := by decide +kernel
theorem dX7_reaches_0 : decode cX7_reaches 0 = .ok (.aload_n 0, 1) := by decide +kernel
theorem dX7_reaches_1 : decode cX7_reaches 1 = .ok (.getfield 12, 3) := by decide +kernel
theorem dX7_reaches_4 : decode cX7_reaches 4 = .ok (.iload_n 1, 1) := by decide +kernel
theorem dX7_reaches_5 : decode cX7_reaches 5 = .ok (.invokevirtual 269, 3) := by decide +kernel
theorem dX7_reaches_8 : decode cX7_reaches 8 = .ok (.istore_n 3, 1) := by decide +kernel
theorem dX7_reaches_9 : decode cX7_reaches 9 = .ok (.iload_n 3, 1) := by decide +kernel
theorem dX7_reaches_10 : decode cX7_reaches 10 = .ok (.iconst (-1), 1) := by decide +kernel
theorem dX7_reaches_11 : decode cX7_reaches 11 = .ok (.if_icmp .ne 11, 3) := by decide +kernel
theorem dX7_reaches_14 : decode cX7_reaches 14 = .ok (.aload_n 0, 1) := by decide +kernel
theorem dX7_reaches_15 : decode cX7_reaches 15 = .ok (.iconst 1, 1) := by decide +kernel
theorem dX7_reaches_16 : decode cX7_reaches 16 = .ok (.iconst 0, 1) := by decide +kernel
theorem dX7_reaches_17 : decode cX7_reaches 17 = .ok (.invokevirtual 215, 3) := by decide +kernel
theorem dX7_reaches_20 : decode cX7_reaches 20 = .ok (.iconst 0, 1) := by decide +kernel
theorem dX7_reaches_21 : decode cX7_reaches 21 = .ok (.ireturn, 1) := by decide +kernel
theorem dX7_reaches_22 : decode cX7_reaches 22 = .ok (.iload_n 2, 1) := by decide +kernel
theorem dX7_reaches_23 : decode cX7_reaches 23 = .ok (.iload_n 3, 1) := by decide +kernel
theorem dX7_reaches_24 : decode cX7_reaches 24 = .ok (.invokestatic 272, 3) := by decide +kernel
theorem dX7_reaches_27 : decode cX7_reaches 27 = .ok (.ifCond .ne 11, 3) := by decide +kernel
theorem dX7_reaches_30 : decode cX7_reaches 30 = .ok (.aload_n 0, 1) := by decide +kernel
theorem dX7_reaches_31 : decode cX7_reaches 31 = .ok (.iconst 2, 1) := by decide +kernel
theorem dX7_reaches_32 : decode cX7_reaches 32 = .ok (.iconst 0, 1) := by decide +kernel
theorem dX7_reaches_33 : decode cX7_reaches 33 = .ok (.invokevirtual 215, 3) := by decide +kernel
theorem dX7_reaches_36 : decode cX7_reaches 36 = .ok (.iconst 0, 1) := by decide +kernel
theorem dX7_reaches_37 : decode cX7_reaches 37 = .ok (.ireturn, 1) := by decide +kernel
theorem dX7_reaches_38 : decode cX7_reaches 38 = .ok (.iconst 1, 1) := by decide +kernel
theorem dX7_reaches_39 : decode cX7_reaches 39 = .ok (.ireturn, 1) := by decide +kernel
theorem dX9_make_0 : decode cX9_make 0 = .ok (.aload_n 0, 1) := by decide +kernel
theorem dX9_make_1 : decode cX9_make 1 = .ok (.getfield 10, 3) := by decide +kernel
theorem dX9_make_4 : decode cX9_make 4 = .ok (.iload_n 1, 1) := by decide +kernel
theorem dX9_make_5 : decode cX9_make 5 = .ok (.iload_n 2, 1) := by decide +kernel
theorem dX9_make_6 : decode cX9_make 6 = .ok (.iload_n 3, 1) := by decide +kernel
theorem dX9_make_7 : decode cX9_make 7 = .ok (.iload 4, 2) := by decide +kernel
theorem dX9_make_9 : decode cX9_make 9 = .ok (.invokevirtual 32, 3) := by decide +kernel
theorem dX9_make_12 : decode cX9_make 12 = .ok (.ifCond .ne 6, 3) := by decide +kernel
theorem dX9_make_15 : decode cX9_make 15 = .ok (.bipush (-2), 2) := by decide +kernel
theorem dX9_make_17 : decode cX9_make 17 = .ok (.ireturn, 1) := by decide +kernel
theorem dX9_make_18 : decode cX9_make 18 = .ok (.aload_n 0, 1) := by decide +kernel
theorem dX9_make_19 : decode cX9_make 19 = .ok (.getfield 10, 3) := by decide +kernel
theorem dX9_make_22 : decode cX9_make 22 = .ok (.invokevirtual 36, 3) := by decide +kernel
theorem dX9_make_25 : decode cX9_make 25 = .ok (.ifCond .eq 8, 3) := by decide +kernel
theorem dX9_make_28 : decode cX9_make 28 = .ok (.bipush (-3), 2) := by decide +kernel
theorem dX9_make_30 : decode cX9_make 30 = .ok (.goto 15, 3) := by decide +kernel
theorem dX9_make_33 : decode cX9_make 33 = .ok (.aload_n 0, 1) := by decide +kernel
theorem dX9_make_34 : decode cX9_make 34 = .ok (.getfield 10, 3) := by decide +kernel
theorem dX9_make_37 : decode cX9_make 37 = .ok (.iload_n 1, 1) := by decide +kernel
theorem dX9_make_38 : decode cX9_make 38 = .ok (.iload_n 2, 1) := by decide +kernel
theorem dX9_make_39 : decode cX9_make 39 = .ok (.iload_n 3, 1) := by decide +kernel
theorem dX9_make_40 : decode cX9_make 40 = .ok (.iload 4, 2) := by decide +kernel
theorem dX9_make_42 : decode cX9_make 42 = .ok (.invokevirtual 40, 3) := by decide +kernel
theorem dX9_make_45 : decode cX9_make 45 = .ok (.ireturn, 1) := by decide +kernel
theorem dX9_drop_0 : decode cX9_drop 0 = .ok (.aload_n 0, 1) := by decide +kernel
theorem dX9_drop_1 : decode cX9_drop 1 = .ok (.getfield 10, 3) := by decide +kernel
theorem dX9_drop_4 : decode cX9_drop 4 = .ok (.invokevirtual 44, 3) := by decide +kernel
theorem dX9_drop_7 : decode cX9_drop 7 = .ok (.ifCond .eq 13, 3) := by decide +kernel
theorem dX9_drop_10 : decode cX9_drop 10 = .ok (.aload_n 0, 1) := by decide +kernel
theorem dX9_drop_11 : decode cX9_drop 11 = .ok (.getfield 10, 3) := by decide +kernel
theorem dX9_drop_14 : decode cX9_drop 14 = .ok (.invokevirtual 47, 3) := by decide +kernel
theorem dX9_drop_17 : decode cX9_drop 17 = .ok (.goto 5, 3) := by decide +kernel
theorem dX9_drop_20 : decode cX9_drop 20 = .ok (.bipush (-2), 2) := by decide +kernel
theorem dX9_drop_22 : decode cX9_drop 22 = .ok (.ireturn, 1) := by decide +kernel
theorem dX9_body_0 : decode cX9_body 0 = .ok (.iload_n 2, 1) := by decide +kernel
theorem dX9_body_1 : decode cX9_body 1 = .ok (.iconst (-1), 1) := by decide +kernel
theorem dX9_body_2 : decode cX9_body 2 = .ok (.if_icmp .eq 14, 3) := by decide +kernel
theorem dX9_body_5 : decode cX9_body 5 = .ok (.aload_n 0, 1) := by decide +kernel
theorem dX9_body_6 : decode cX9_body 6 = .ok (.getfield 10, 3) := by decide +kernel
theorem dX9_body_9 : decode cX9_body 9 = .ok (.iload_n 2, 1) := by decide +kernel
theorem dX9_body_10 : decode cX9_body 10 = .ok (.invokevirtual 51, 3) := by decide +kernel
theorem dX9_body_13 : decode cX9_body 13 = .ok (.ifCond .eq 7, 3) := by decide +kernel
theorem dX9_body_16 : decode cX9_body 16 = .ok (.iconst 1, 1) := by decide +kernel
theorem dX9_body_17 : decode cX9_body 17 = .ok (.goto 4, 3) := by decide +kernel
theorem dX9_body_20 : decode cX9_body 20 = .ok (.iconst 0, 1) := by decide +kernel
theorem dX9_body_21 : decode cX9_body 21 = .ok (.istore_n 3, 1) := by decide +kernel
theorem dX9_body_22 : decode cX9_body 22 = .ok (.iload_n 1, 1) := by decide +kernel
theorem dX9_body_23 : decode cX9_body 23 = .ok (.bipush 8, 2) := by decide +kernel
theorem dX9_body_25 : decode cX9_body 25 = .ok (.invokestatic 55, 3) := by decide +kernel
theorem dX9_body_28 : decode cX9_body 28 = .ok (.ifCond .eq 7, 3) := by decide +kernel
theorem dX9_body_31 : decode cX9_body 31 = .ok (.iload_n 3, 1) := by decide +kernel
theorem dX9_body_32 : decode cX9_body 32 = .ok (.ifCond .ne 6, 3) := by decide +kernel
theorem dX9_body_35 : decode cX9_body 35 = .ok (.bipush (-2), 2) := by decide +kernel
theorem dX9_body_37 : decode cX9_body 37 = .ok (.ireturn, 1) := by decide +kernel
theorem dX9_body_38 : decode cX9_body 38 = .ok (.aload_n 0, 1) := by decide +kernel
theorem dX9_body_39 : decode cX9_body 39 = .ok (.getfield 10, 3) := by decide +kernel
theorem dX9_body_42 : decode cX9_body 42 = .ok (.iload_n 1, 1) := by decide +kernel
theorem dX9_body_43 : decode cX9_body 43 = .ok (.iload_n 2, 1) := by decide +kernel
theorem dX9_body_44 : decode cX9_body 44 = .ok (.invokevirtual 59, 3) := by decide +kernel
theorem dX9_body_47 : decode cX9_body 47 = .ok (.iconst 1, 1) := by decide +kernel
theorem dX9_body_48 : decode cX9_body 48 = .ok (.ireturn, 1) := by decide +kernel
theorem dX9_run_0 : decode cX9_run 0 = .ok (.aload_n 0, 1) := by decide +kernel
theorem dX9_run_1 : decode cX9_run 1 = .ok (.getfield 10, 3) := by decide +kernel
theorem dX9_run_4 : decode cX9_run 4 = .ok (.iload_n 1, 1) := by decide +kernel
theorem dX9_run_5 : decode cX9_run 5 = .ok (.invokevirtual 63, 3) := by decide +kernel
theorem dX9_run_8 : decode cX9_run 8 = .ok (.iconst (-1), 1) := by decide +kernel
theorem dX9_run_9 : decode cX9_run 9 = .ok (.if_icmp .eq 10, 3) := by decide +kernel
theorem dX9_run_12 : decode cX9_run 12 = .ok (.iload_n 3, 1) := by decide +kernel
theorem dX9_run_13 : decode cX9_run 13 = .ok (.invokestatic 67, 3) := by decide +kernel
theorem dX9_run_16 : decode cX9_run 16 = .ok (.ifCond .ne 6, 3) := by decide +kernel
theorem dX9_run_19 : decode cX9_run 19 = .ok (.bipush (-2), 2) := by decide +kernel
theorem dX9_run_21 : decode cX9_run 21 = .ok (.ireturn, 1) := by decide +kernel
theorem dX9_run_22 : decode cX9_run 22 = .ok (.aload_n 0, 1) := by decide +kernel
theorem dX9_run_23 : decode cX9_run 23 = .ok (.aload_n 0, 1) := by decide +kernel
theorem dX9_run_24 : decode cX9_run 24 = .ok (.getfield 25, 3) := by decide +kernel
theorem dX9_run_27 : decode cX9_run 27 = .ok (.aload_n 0, 1) := by decide +kernel
theorem dX9_run_28 : decode cX9_run 28 = .ok (.getfield 10, 3) := by decide +kernel
theorem dX9_run_31 : decode cX9_run 31 = .ok (.iload_n 1, 1) := by decide +kernel
theorem dX9_run_32 : decode cX9_run 32 = .ok (.invokevirtual 63, 3) := by decide +kernel
theorem dX9_run_35 : decode cX9_run 35 = .ok (.iload_n 2, 1) := by decide +kernel
theorem dX9_run_36 : decode cX9_run 36 = .ok (.iload_n 3, 1) := by decide +kernel
theorem dX9_run_37 : decode cX9_run 37 = .ok (.invokevirtual 70, 3) := by decide +kernel
theorem dX9_run_40 : decode cX9_run 40 = .ok (.invokevirtual 74, 3) := by decide +kernel
theorem dX9_run_43 : decode cX9_run 43 = .ok (.ireturn, 1) := by decide +kernel
theorem dX9_told_0 : decode cX9_told 0 = .ok (.aload_n 0, 1) := by decide +kernel
theorem dX9_told_1 : decode cX9_told 1 = .ok (.getfield 25, 3) := by decide +kernel
theorem dX9_told_4 : decode cX9_told 4 = .ok (.iload_n 1, 1) := by decide +kernel
theorem dX9_told_5 : decode cX9_told 5 = .ok (.invokevirtual 77, 3) := by decide +kernel
theorem dX9_told_8 : decode cX9_told 8 = .ok (.ireturn, 1) := by decide +kernel
theorem dX9_marks_0 : decode cX9_marks 0 = .ok (.iload_n 1, 1) := by decide +kernel
theorem dX9_marks_1 : decode cX9_marks 1 = .ok (.iconst 5, 1) := by decide +kernel
theorem dX9_marks_2 : decode cX9_marks 2 = .ok (.invokestatic 55, 3) := by decide +kernel
theorem dX9_marks_5 : decode cX9_marks 5 = .ok (.ifCond .eq 17, 3) := by decide +kernel
theorem dX9_marks_8 : decode cX9_marks 8 = .ok (.aload_n 0, 1) := by decide +kernel
theorem dX9_marks_9 : decode cX9_marks 9 = .ok (.getfield 25, 3) := by decide +kernel
theorem dX9_marks_12 : decode cX9_marks 12 = .ok (.getfield 82, 3) := by decide +kernel
theorem dX9_marks_15 : decode cX9_marks 15 = .ok (.iload_n 1, 1) := by decide +kernel
theorem dX9_marks_16 : decode cX9_marks 16 = .ok (.invokevirtual 86, 3) := by decide +kernel
theorem dX9_marks_19 : decode cX9_marks 19 = .ok (.goto 5, 3) := by decide +kernel
theorem dX9_marks_22 : decode cX9_marks 22 = .ok (.bipush (-2), 2) := by decide +kernel
theorem dX9_marks_24 : decode cX9_marks 24 = .ok (.ireturn, 1) := by decide +kernel
theorem dX9_began_0 : decode cX9_began 0 = .ok (.iload_n 1, 1) := by decide +kernel
theorem dX9_began_1 : decode cX9_began 1 = .ok (.ifCond .ge 8, 3) := by decide +kernel
theorem dX9_began_4 : decode cX9_began 4 = .ok (.bipush (-2), 2) := by decide +kernel
theorem dX9_began_6 : decode cX9_began 6 = .ok (.goto 14, 3) := by decide +kernel
theorem dX9_began_9 : decode cX9_began 9 = .ok (.aload_n 0, 1) := by decide +kernel
theorem dX9_began_10 : decode cX9_began 10 = .ok (.getfield 25, 3) := by decide +kernel
theorem dX9_began_13 : decode cX9_began 13 = .ok (.getfield 82, 3) := by decide +kernel
theorem dX9_began_16 : decode cX9_began 16 = .ok (.iload_n 1, 1) := by decide +kernel
theorem dX9_began_17 : decode cX9_began 17 = .ok (.invokevirtual 91, 3) := by decide +kernel
theorem dX9_began_20 : decode cX9_began 20 = .ok (.ireturn, 1) := by decide +kernel
theorem dX9_variable_0 : decode cX9_variable 0 = .ok (.aload_n 0, 1) := by decide +kernel
theorem dX9_variable_1 : decode cX9_variable 1 = .ok (.getfield 25, 3) := by decide +kernel
theorem dX9_variable_4 : decode cX9_variable 4 = .ok (.getfield 94, 3) := by decide +kernel
theorem dX9_variable_7 : decode cX9_variable 7 = .ok (.iload_n 1, 1) := by decide +kernel
theorem dX9_variable_8 : decode cX9_variable 8 = .ok (.invokevirtual 98, 3) := by decide +kernel
theorem dX9_variable_11 : decode cX9_variable 11 = .ok (.ireturn, 1) := by decide +kernel
theorem dX9_size_0 : decode cX9_size 0 = .ok (.iload_n 1, 1) := by decide +kernel
theorem dX9_size_1 : decode cX9_size 1 = .ok (.iconst 4, 1) := by decide +kernel
theorem dX9_size_2 : decode cX9_size 2 = .ok (.invokestatic 55, 3) := by decide +kernel
theorem dX9_size_5 : decode cX9_size 5 = .ok (.ifCond .eq 17, 3) := by decide +kernel
theorem dX9_size_8 : decode cX9_size 8 = .ok (.aload_n 0, 1) := by decide +kernel
theorem dX9_size_9 : decode cX9_size 9 = .ok (.getfield 25, 3) := by decide +kernel
end
section
theorem dX9_size_12 : decode cX9_size 12 = .ok (.getfield 94, 3) := by decide +kernel
theorem dX9_size_15 : decode cX9_size 15 = .ok (.iload_n 1, 1) := by decide +kernel
theorem dX9_size_16 : decode cX9_size 16 = .ok (.invokevirtual 103, 3) := by decide +kernel
theorem dX9_size_19 : decode cX9_size 19 = .ok (.goto 5, 3) := by decide +kernel
theorem dX9_size_22 : decode cX9_size 22 = .ok (.bipush (-2), 2) := by decide +kernel
theorem dX9_size_24 : decode cX9_size 24 = .ok (.ireturn, 1) := by decide +kernel
theorem dX9_same_0 : decode cX9_same 0 = .ok (.aload_n 0, 1) := by decide +kernel
theorem dX9_same_1 : decode cX9_same 1 = .ok (.getfield 10, 3) := by decide +kernel
theorem dX9_same_4 : decode cX9_same 4 = .ok (.iload_n 1, 1) := by decide +kernel
theorem dX9_same_5 : decode cX9_same 5 = .ok (.invokevirtual 63, 3) := by decide +kernel
theorem dX9_same_8 : decode cX9_same 8 = .ok (.iconst (-1), 1) := by decide +kernel
theorem dX9_same_9 : decode cX9_same 9 = .ok (.if_icmp .eq 18, 3) := by decide +kernel
theorem dX9_same_12 : decode cX9_same 12 = .ok (.iload_n 3, 1) := by decide +kernel
theorem dX9_same_13 : decode cX9_same 13 = .ok (.invokestatic 67, 3) := by decide +kernel
theorem dX9_same_16 : decode cX9_same 16 = .ok (.ifCond .eq 11, 3) := by decide +kernel
theorem dX9_same_19 : decode cX9_same 19 = .ok (.iload 4, 2) := by decide +kernel
theorem dX9_same_21 : decode cX9_same 21 = .ok (.invokestatic 67, 3) := by decide +kernel
theorem dX9_same_24 : decode cX9_same 24 = .ok (.ifCond .ne 6, 3) := by decide +kernel
theorem dX9_same_27 : decode cX9_same 27 = .ok (.bipush (-2), 2) := by decide +kernel
theorem dX9_same_29 : decode cX9_same 29 = .ok (.ireturn, 1) := by decide +kernel
theorem dX9_same_30 : decode cX9_same 30 = .ok (.aload_n 0, 1) := by decide +kernel
theorem dX9_same_31 : decode cX9_same 31 = .ok (.getfield 10, 3) := by decide +kernel
theorem dX9_same_34 : decode cX9_same 34 = .ok (.iload_n 1, 1) := by decide +kernel
theorem dX9_same_35 : decode cX9_same 35 = .ok (.invokevirtual 63, 3) := by decide +kernel
theorem dX9_same_38 : decode cX9_same 38 = .ok (.istore 5, 2) := by decide +kernel
theorem dX9_same_40 : decode cX9_same 40 = .ok (.aload_n 0, 1) := by decide +kernel
theorem dX9_same_41 : decode cX9_same 41 = .ok (.getfield 25, 3) := by decide +kernel
theorem dX9_same_44 : decode cX9_same 44 = .ok (.astore 6, 2) := by decide +kernel
theorem dX9_same_46 : decode cX9_same 46 = .ok (.aload_n 0, 1) := by decide +kernel
theorem dX9_same_47 : decode cX9_same 47 = .ok (.aload_n 0, 1) := by decide +kernel
theorem dX9_same_48 : decode cX9_same 48 = .ok (.getfield 29, 3) := by decide +kernel
theorem dX9_same_51 : decode cX9_same 51 = .ok (.putfield 25, 3) := by decide +kernel
theorem dX9_same_54 : decode cX9_same 54 = .ok (.aload_n 0, 1) := by decide +kernel
theorem dX9_same_55 : decode cX9_same 55 = .ok (.aload 6, 2) := by decide +kernel
theorem dX9_same_57 : decode cX9_same 57 = .ok (.putfield 29, 3) := by decide +kernel
theorem dX9_same_60 : decode cX9_same 60 = .ok (.aload_n 0, 1) := by decide +kernel
theorem dX9_same_61 : decode cX9_same 61 = .ok (.aload 6, 2) := by decide +kernel
theorem dX9_same_63 : decode cX9_same 63 = .ok (.iload 5, 2) := by decide +kernel
theorem dX9_same_65 : decode cX9_same 65 = .ok (.iload_n 2, 1) := by decide +kernel
theorem dX9_same_66 : decode cX9_same 66 = .ok (.iload_n 3, 1) := by decide +kernel
theorem dX9_same_67 : decode cX9_same 67 = .ok (.invokevirtual 70, 3) := by decide +kernel
theorem dX9_same_70 : decode cX9_same 70 = .ok (.invokevirtual 74, 3) := by decide +kernel
theorem dX9_same_73 : decode cX9_same 73 = .ok (.pop, 1) := by decide +kernel
theorem dX9_same_74 : decode cX9_same 74 = .ok (.aload_n 0, 1) := by decide +kernel
theorem dX9_same_75 : decode cX9_same 75 = .ok (.aload_n 0, 1) := by decide +kernel
theorem dX9_same_76 : decode cX9_same 76 = .ok (.getfield 25, 3) := by decide +kernel
theorem dX9_same_79 : decode cX9_same 79 = .ok (.iload 5, 2) := by decide +kernel
theorem dX9_same_81 : decode cX9_same 81 = .ok (.iload_n 2, 1) := by decide +kernel
theorem dX9_same_82 : decode cX9_same 82 = .ok (.iload 4, 2) := by decide +kernel
theorem dX9_same_84 : decode cX9_same 84 = .ok (.invokevirtual 70, 3) := by decide +kernel
theorem dX9_same_87 : decode cX9_same 87 = .ok (.invokevirtual 74, 3) := by decide +kernel
theorem dX9_same_90 : decode cX9_same 90 = .ok (.pop, 1) := by decide +kernel
theorem dX9_same_91 : decode cX9_same 91 = .ok (.aload_n 0, 1) := by decide +kernel
theorem dX9_same_92 : decode cX9_same 92 = .ok (.getfield 25, 3) := by decide +kernel
theorem dX9_same_95 : decode cX9_same 95 = .ok (.aload 6, 2) := by decide +kernel
theorem dX9_same_97 : decode cX9_same 97 = .ok (.invokevirtual 124, 3) := by decide +kernel
theorem dX9_same_100 : decode cX9_same 100 = .ok (.ifCond .eq 7, 3) := by decide +kernel
theorem dX9_same_103 : decode cX9_same 103 = .ok (.iconst 1, 1) := by decide +kernel
theorem dX9_same_104 : decode cX9_same 104 = .ok (.goto 4, 3) := by decide +kernel
theorem dX9_same_107 : decode cX9_same 107 = .ok (.iconst 0, 1) := by decide +kernel
theorem dX9_same_108 : decode cX9_same 108 = .ok (.ireturn, 1) := by decide +kernel
theorem dX9_count_0 : decode cX9_count 0 = .ok (.iload_n 1, 1) := by decide +kernel
theorem dX9_count_1 : decode cX9_count 1 = .ok (.iconst 4, 1) := by decide +kernel
theorem dX9_count_2 : decode cX9_count 2 = .ok (.if_icmp .ne 11, 3) := by decide +kernel
theorem dX9_count_5 : decode cX9_count 5 = .ok (.aload_n 0, 1) := by decide +kernel
theorem dX9_count_6 : decode cX9_count 6 = .ok (.getfield 10, 3) := by decide +kernel
theorem dX9_count_9 : decode cX9_count 9 = .ok (.invokevirtual 128, 3) := by decide +kernel
theorem dX9_count_12 : decode cX9_count 12 = .ok (.ireturn, 1) := by decide +kernel
theorem dX9_count_13 : decode cX9_count 13 = .ok (.iload_n 1, 1) := by decide +kernel
theorem dX9_count_14 : decode cX9_count 14 = .ok (.iconst 5, 1) := by decide +kernel
theorem dX9_count_15 : decode cX9_count 15 = .ok (.if_icmp .ne 11, 3) := by decide +kernel
theorem dX9_count_18 : decode cX9_count 18 = .ok (.aload_n 0, 1) := by decide +kernel
theorem dX9_count_19 : decode cX9_count 19 = .ok (.getfield 10, 3) := by decide +kernel
theorem dX9_count_22 : decode cX9_count 22 = .ok (.invokevirtual 131, 3) := by decide +kernel
theorem dX9_count_25 : decode cX9_count 25 = .ok (.ireturn, 1) := by decide +kernel
theorem dX9_count_26 : decode cX9_count 26 = .ok (.iload_n 1, 1) := by decide +kernel
theorem dX9_count_27 : decode cX9_count 27 = .ok (.iconst 4, 1) := by decide +kernel
theorem dX9_count_28 : decode cX9_count 28 = .ok (.invokestatic 55, 3) := by decide +kernel
theorem dX9_count_31 : decode cX9_count 31 = .ok (.ifCond .eq 12, 3) := by decide +kernel
theorem dX9_count_34 : decode cX9_count 34 = .ok (.aload_n 0, 1) := by decide +kernel
theorem dX9_count_35 : decode cX9_count 35 = .ok (.getfield 16, 3) := by decide +kernel
theorem dX9_count_38 : decode cX9_count 38 = .ok (.iload_n 1, 1) := by decide +kernel
theorem dX9_count_39 : decode cX9_count 39 = .ok (.iaload, 1) := by decide +kernel
theorem dX9_count_40 : decode cX9_count 40 = .ok (.goto 5, 3) := by decide +kernel
theorem dX9_count_43 : decode cX9_count 43 = .ok (.bipush (-2), 2) := by decide +kernel
theorem dX9_count_45 : decode cX9_count 45 = .ok (.ireturn, 1) := by decide +kernel
theorem dX9_counted_0 : decode cX9_counted 0 = .ok (.iload_n 1, 1) := by decide +kernel
theorem dX9_counted_1 : decode cX9_counted 1 = .ok (.iconst 4, 1) := by decide +kernel
theorem dX9_counted_2 : decode cX9_counted 2 = .ok (.invokestatic 55, 3) := by decide +kernel
theorem dX9_counted_5 : decode cX9_counted 5 = .ok (.ifCond .eq 13, 3) := by decide +kernel
theorem dX9_counted_8 : decode cX9_counted 8 = .ok (.aload_n 0, 1) := by decide +kernel
theorem dX9_counted_9 : decode cX9_counted 9 = .ok (.getfield 16, 3) := by decide +kernel
theorem dX9_counted_12 : decode cX9_counted 12 = .ok (.iload_n 1, 1) := by decide +kernel
theorem dX9_counted_13 : decode cX9_counted 13 = .ok (.dup2, 1) := by decide +kernel
theorem dX9_counted_14 : decode cX9_counted 14 = .ok (.iaload, 1) := by decide +kernel
theorem dX9_counted_15 : decode cX9_counted 15 = .ok (.iconst 1, 1) := by decide +kernel
theorem dX9_counted_16 : decode cX9_counted 16 = .ok (.iadd, 1) := by decide +kernel
theorem dX9_counted_17 : decode cX9_counted 17 = .ok (.iastore, 1) := by decide +kernel
theorem dX9_counted_18 : decode cX9_counted 18 = .ok (.iload_n 1, 1) := by decide +kernel
theorem dX9_counted_19 : decode cX9_counted 19 = .ok (.ireturn, 1) := by decide +kernel
theorem dX9_isBudget_0 : decode cX9_isBudget 0 = .ok (.iload_n 0, 1) := by decide +kernel
theorem dX9_isBudget_1 : decode cX9_isBudget 1 = .ok (.sipush 161, 3) := by decide +kernel
theorem dX9_isBudget_4 : decode cX9_isBudget 4 = .ok (.invokestatic 55, 3) := by decide +kernel
theorem dX9_isBudget_7 : decode cX9_isBudget 7 = .ok (.ireturn, 1) := by decide +kernel
theorem dX9_isBelow_0 : decode cX9_isBelow 0 = .ok (.iload_n 0, 1) := by decide +kernel
theorem dX9_isBelow_1 : decode cX9_isBelow 1 = .ok (.ifCond .lt 12, 3) := by decide +kernel
theorem dX9_isBelow_4 : decode cX9_isBelow 4 = .ok (.iload_n 0, 1) := by decide +kernel
theorem dX9_isBelow_5 : decode cX9_isBelow 5 = .ok (.iload_n 1, 1) := by decide +kernel
theorem dX9_isBelow_6 : decode cX9_isBelow 6 = .ok (.if_icmp .ge 7, 3) := by decide +kernel
theorem dX9_isBelow_9 : decode cX9_isBelow 9 = .ok (.iconst 1, 1) := by decide +kernel
theorem dX9_isBelow_10 : decode cX9_isBelow 10 = .ok (.goto 4, 3) := by decide +kernel
theorem dX9_isBelow_13 : decode cX9_isBelow 13 = .ok (.iconst 0, 1) := by decide +kernel
theorem dX9_isBelow_14 : decode cX9_isBelow 14 = .ok (.ireturn, 1) := by decide +kernel
theorem dX10_thrown_0 : decode cX10_thrown 0 = .ok (.aload_n 0, 1) := by decide +kernel
theorem dX10_thrown_1 : decode cX10_thrown 1 = .ok (.getfield 1, 3) := by decide +kernel
theorem dX10_thrown_4 : decode cX10_thrown 4 = .ok (.ireturn, 1) := by decide +kernel
theorem dX10_fail_0 : decode cX10_fail 0 = .ok (.aload_n 0, 1) := by decide +kernel
theorem dX10_fail_1 : decode cX10_fail 1 = .ok (.iload_n 1, 1) := by decide +kernel
theorem dX10_fail_2 : decode cX10_fail 2 = .ok (.putfield 1, 3) := by decide +kernel
theorem dX10_fail_5 : decode cX10_fail 5 = .ok (.iconst 0, 1) := by decide +kernel
theorem dX10_fail_6 : decode cX10_fail 6 = .ok (.ireturn, 1) := by decide +kernel
theorem dX10_isIn_0 : decode cX10_isIn 0 = .ok (.iload_n 0, 1) := by decide +kernel
theorem dX10_isIn_1 : decode cX10_isIn 1 = .ok (.ifCond .lt 12, 3) := by decide +kernel
theorem dX10_isIn_4 : decode cX10_isIn 4 = .ok (.iload_n 0, 1) := by decide +kernel
theorem dX10_isIn_5 : decode cX10_isIn 5 = .ok (.iload_n 1, 1) := by decide +kernel
theorem dX10_isIn_6 : decode cX10_isIn 6 = .ok (.if_icmp .ge 7, 3) := by decide +kernel
theorem dX10_isIn_9 : decode cX10_isIn 9 = .ok (.iconst 1, 1) := by decide +kernel
theorem dX10_isIn_10 : decode cX10_isIn 10 = .ok (.goto 4, 3) := by decide +kernel
theorem dX10_isIn_13 : decode cX10_isIn 13 = .ok (.iconst 0, 1) := by decide +kernel
theorem dX10_isIn_14 : decode cX10_isIn 14 = .ok (.ireturn, 1) := by decide +kernel
theorem dX10_isStatement_0 : decode cX10_isStatement 0 = .ok (.iload_n 1, 1) := by decide +kernel
theorem dX10_isStatement_1 : decode cX10_isStatement 1 = .ok (.aload_n 0, 1) := by decide +kernel
theorem dX10_isStatement_2 : decode cX10_isStatement 2 = .ok (.getfield 83, 3) := by decide +kernel
theorem dX10_isStatement_5 : decode cX10_isStatement 5 = .ok (.invokestatic 86, 3) := by decide +kernel
theorem dX10_isStatement_8 : decode cX10_isStatement 8 = .ok (.ireturn, 1) := by decide +kernel
theorem dX10_isRight_0 : decode cX10_isRight 0 = .ok (.iload_n 1, 1) := by decide +kernel
theorem dX10_isRight_1 : decode cX10_isRight 1 = .ok (.tableswitch 432 0 21 #[103, 432, 432, 432, 432, 432, 110, 133, 166, 199, 222, 228, 250, 272, 304, 327, 334, 341, 355, 388, 410, 348], 103) := by decide +kernel
theorem dX10_isRight_104 : decode cX10_isRight 104 = .ok (.iload_n 2, 1) := by decide +kernel
theorem dX10_isRight_105 : decode cX10_isRight 105 = .ok (.bipush 8, 2) := by decide +kernel
theorem dX10_isRight_107 : decode cX10_isRight 107 = .ok (.invokestatic 86, 3) := by decide +kernel
theorem dX10_isRight_110 : decode cX10_isRight 110 = .ok (.ireturn, 1) := by decide +kernel
theorem dX10_isRight_111 : decode cX10_isRight 111 = .ok (.iload_n 2, 1) := by decide +kernel
theorem dX10_isRight_112 : decode cX10_isRight 112 = .ok (.iconst 4, 1) := by decide +kernel
theorem dX10_isRight_113 : decode cX10_isRight 113 = .ok (.invokestatic 86, 3) := by decide +kernel
theorem dX10_isRight_116 : decode cX10_isRight 116 = .ok (.ifCond .eq 16, 3) := by decide +kernel
theorem dX10_isRight_119 : decode cX10_isRight 119 = .ok (.iload_n 3, 1) := by decide +kernel
theorem dX10_isRight_120 : decode cX10_isRight 120 = .ok (.bipush 8, 2) := by decide +kernel
theorem dX10_isRight_122 : decode cX10_isRight 122 = .ok (.invokestatic 86, 3) := by decide +kernel
theorem dX10_isRight_125 : decode cX10_isRight 125 = .ok (.ifCond .eq 7, 3) := by decide +kernel
theorem dX10_isRight_128 : decode cX10_isRight 128 = .ok (.iconst 1, 1) := by decide +kernel
theorem dX10_isRight_129 : decode cX10_isRight 129 = .ok (.goto 4, 3) := by decide +kernel
theorem dX10_isRight_132 : decode cX10_isRight 132 = .ok (.iconst 0, 1) := by decide +kernel
theorem dX10_isRight_133 : decode cX10_isRight 133 = .ok (.ireturn, 1) := by decide +kernel
theorem dX10_isRight_134 : decode cX10_isRight 134 = .ok (.iload_n 2, 1) := by decide +kernel
theorem dX10_isRight_135 : decode cX10_isRight 135 = .ok (.bipush 8, 2) := by decide +kernel
theorem dX10_isRight_137 : decode cX10_isRight 137 = .ok (.invokestatic 86, 3) := by decide +kernel
theorem dX10_isRight_140 : decode cX10_isRight 140 = .ok (.ifCond .eq 25, 3) := by decide +kernel
theorem dX10_isRight_143 : decode cX10_isRight 143 = .ok (.iload_n 3, 1) := by decide +kernel
theorem dX10_isRight_144 : decode cX10_isRight 144 = .ok (.iconst 4, 1) := by decide +kernel
theorem dX10_isRight_145 : decode cX10_isRight 145 = .ok (.invokestatic 86, 3) := by decide +kernel
theorem dX10_isRight_148 : decode cX10_isRight 148 = .ok (.ifCond .eq 17, 3) := by decide +kernel
theorem dX10_isRight_151 : decode cX10_isRight 151 = .ok (.iload 4, 2) := by decide +kernel
theorem dX10_isRight_153 : decode cX10_isRight 153 = .ok (.bipush 8, 2) := by decide +kernel
theorem dX10_isRight_155 : decode cX10_isRight 155 = .ok (.invokestatic 86, 3) := by decide +kernel
theorem dX10_isRight_158 : decode cX10_isRight 158 = .ok (.ifCond .eq 7, 3) := by decide +kernel
theorem dX10_isRight_161 : decode cX10_isRight 161 = .ok (.iconst 1, 1) := by decide +kernel
theorem dX10_isRight_162 : decode cX10_isRight 162 = .ok (.goto 4, 3) := by decide +kernel
theorem dX10_isRight_165 : decode cX10_isRight 165 = .ok (.iconst 0, 1) := by decide +kernel
theorem dX10_isRight_166 : decode cX10_isRight 166 = .ok (.ireturn, 1) := by decide +kernel
theorem dX10_isRight_167 : decode cX10_isRight 167 = .ok (.iload_n 2, 1) := by decide +kernel
theorem dX10_isRight_168 : decode cX10_isRight 168 = .ok (.iconst 4, 1) := by decide +kernel
theorem dX10_isRight_169 : decode cX10_isRight 169 = .ok (.invokestatic 86, 3) := by decide +kernel
theorem dX10_isRight_172 : decode cX10_isRight 172 = .ok (.ifCond .eq 26, 3) := by decide +kernel
theorem dX10_isRight_175 : decode cX10_isRight 175 = .ok (.iload_n 3, 1) := by decide +kernel
theorem dX10_isRight_176 : decode cX10_isRight 176 = .ok (.bipush 8, 2) := by decide +kernel
theorem dX10_isRight_178 : decode cX10_isRight 178 = .ok (.invokestatic 86, 3) := by decide +kernel
theorem dX10_isRight_181 : decode cX10_isRight 181 = .ok (.ifCond .eq 17, 3) := by decide +kernel
theorem dX10_isRight_184 : decode cX10_isRight 184 = .ok (.iload 4, 2) := by decide +kernel
theorem dX10_isRight_186 : decode cX10_isRight 186 = .ok (.bipush 8, 2) := by decide +kernel
theorem dX10_isRight_188 : decode cX10_isRight 188 = .ok (.invokestatic 86, 3) := by decide +kernel
theorem dX10_isRight_191 : decode cX10_isRight 191 = .ok (.ifCond .eq 7, 3) := by decide +kernel
theorem dX10_isRight_194 : decode cX10_isRight 194 = .ok (.iconst 1, 1) := by decide +kernel
theorem dX10_isRight_195 : decode cX10_isRight 195 = .ok (.goto 4, 3) := by decide +kernel
theorem dX10_isRight_198 : decode cX10_isRight 198 = .ok (.iconst 0, 1) := by decide +kernel
theorem dX10_isRight_199 : decode cX10_isRight 199 = .ok (.ireturn, 1) := by decide +kernel
theorem dX10_isRight_200 : decode cX10_isRight 200 = .ok (.iload_n 2, 1) := by decide +kernel
theorem dX10_isRight_201 : decode cX10_isRight 201 = .ok (.bipush 8, 2) := by decide +kernel
theorem dX10_isRight_203 : decode cX10_isRight 203 = .ok (.invokestatic 86, 3) := by decide +kernel
theorem dX10_isRight_206 : decode cX10_isRight 206 = .ok (.ifCond .eq 15, 3) := by decide +kernel
theorem dX10_isRight_209 : decode cX10_isRight 209 = .ok (.iload_n 3, 1) := by decide +kernel
theorem dX10_isRight_210 : decode cX10_isRight 210 = .ok (.iconst 4, 1) := by decide +kernel
theorem dX10_isRight_211 : decode cX10_isRight 211 = .ok (.invokestatic 86, 3) := by decide +kernel
theorem dX10_isRight_214 : decode cX10_isRight 214 = .ok (.ifCond .eq 7, 3) := by decide +kernel
theorem dX10_isRight_217 : decode cX10_isRight 217 = .ok (.iconst 1, 1) := by decide +kernel
theorem dX10_isRight_218 : decode cX10_isRight 218 = .ok (.goto 4, 3) := by decide +kernel
theorem dX10_isRight_221 : decode cX10_isRight 221 = .ok (.iconst 0, 1) := by decide +kernel
theorem dX10_isRight_222 : decode cX10_isRight 222 = .ok (.ireturn, 1) := by decide +kernel
theorem dX10_isRight_223 : decode cX10_isRight 223 = .ok (.iload_n 2, 1) := by decide +kernel
theorem dX10_isRight_224 : decode cX10_isRight 224 = .ok (.iconst 4, 1) := by decide +kernel
theorem dX10_isRight_225 : decode cX10_isRight 225 = .ok (.invokestatic 86, 3) := by decide +kernel
theorem dX10_isRight_228 : decode cX10_isRight 228 = .ok (.ireturn, 1) := by decide +kernel
theorem dX10_isRight_229 : decode cX10_isRight 229 = .ok (.iload_n 2, 1) := by decide +kernel
theorem dX10_isRight_230 : decode cX10_isRight 230 = .ok (.iconst 4, 1) := by decide +kernel
theorem dX10_isRight_231 : decode cX10_isRight 231 = .ok (.invokestatic 86, 3) := by decide +kernel
theorem dX10_isRight_234 : decode cX10_isRight 234 = .ok (.ifCond .eq 15, 3) := by decide +kernel
theorem dX10_isRight_237 : decode cX10_isRight 237 = .ok (.iload_n 3, 1) := by decide +kernel
theorem dX10_isRight_238 : decode cX10_isRight 238 = .ok (.iconst 4, 1) := by decide +kernel
theorem dX10_isRight_239 : decode cX10_isRight 239 = .ok (.invokestatic 86, 3) := by decide +kernel
theorem dX10_isRight_242 : decode cX10_isRight 242 = .ok (.ifCond .eq 7, 3) := by decide +kernel
theorem dX10_isRight_245 : decode cX10_isRight 245 = .ok (.iconst 1, 1) := by decide +kernel
theorem dX10_isRight_246 : decode cX10_isRight 246 = .ok (.goto 4, 3) := by decide +kernel
theorem dX10_isRight_249 : decode cX10_isRight 249 = .ok (.iconst 0, 1) := by decide +kernel
theorem dX10_isRight_250 : decode cX10_isRight 250 = .ok (.ireturn, 1) := by decide +kernel
theorem dX10_isRight_251 : decode cX10_isRight 251 = .ok (.aload_n 0, 1) := by decide +kernel
theorem dX10_isRight_252 : decode cX10_isRight 252 = .ok (.iload_n 2, 1) := by decide +kernel
theorem dX10_isRight_253 : decode cX10_isRight 253 = .ok (.invokevirtual 90, 3) := by decide +kernel
theorem dX10_isRight_256 : decode cX10_isRight 256 = .ok (.ifCond .eq 15, 3) := by decide +kernel
theorem dX10_isRight_259 : decode cX10_isRight 259 = .ok (.aload_n 0, 1) := by decide +kernel
theorem dX10_isRight_260 : decode cX10_isRight 260 = .ok (.iload_n 3, 1) := by decide +kernel
theorem dX10_isRight_261 : decode cX10_isRight 261 = .ok (.invokevirtual 90, 3) := by decide +kernel
theorem dX10_isRight_264 : decode cX10_isRight 264 = .ok (.ifCond .eq 7, 3) := by decide +kernel
theorem dX10_isRight_267 : decode cX10_isRight 267 = .ok (.iconst 1, 1) := by decide +kernel
theorem dX10_isRight_268 : decode cX10_isRight 268 = .ok (.goto 4, 3) := by decide +kernel
theorem dX10_isRight_271 : decode cX10_isRight 271 = .ok (.iconst 0, 1) := by decide +kernel
theorem dX10_isRight_272 : decode cX10_isRight 272 = .ok (.ireturn, 1) := by decide +kernel
theorem dX10_isRight_273 : decode cX10_isRight 273 = .ok (.iload_n 2, 1) := by decide +kernel
theorem dX10_isRight_274 : decode cX10_isRight 274 = .ok (.bipush 8, 2) := by decide +kernel
theorem dX10_isRight_276 : decode cX10_isRight 276 = .ok (.invokestatic 86, 3) := by decide +kernel
theorem dX10_isRight_279 : decode cX10_isRight 279 = .ok (.ifCond .eq 24, 3) := by decide +kernel
theorem dX10_isRight_282 : decode cX10_isRight 282 = .ok (.aload_n 0, 1) := by decide +kernel
theorem dX10_isRight_283 : decode cX10_isRight 283 = .ok (.iload_n 3, 1) := by decide +kernel
theorem dX10_isRight_284 : decode cX10_isRight 284 = .ok (.invokevirtual 90, 3) := by decide +kernel
theorem dX10_isRight_287 : decode cX10_isRight 287 = .ok (.ifCond .eq 16, 3) := by decide +kernel
theorem dX10_isRight_290 : decode cX10_isRight 290 = .ok (.aload_n 0, 1) := by decide +kernel
theorem dX10_isRight_291 : decode cX10_isRight 291 = .ok (.iload 4, 2) := by decide +kernel
theorem dX10_isRight_293 : decode cX10_isRight 293 = .ok (.invokevirtual 90, 3) := by decide +kernel
theorem dX10_isRight_296 : decode cX10_isRight 296 = .ok (.ifCond .eq 7, 3) := by decide +kernel
theorem dX10_isRight_299 : decode cX10_isRight 299 = .ok (.iconst 1, 1) := by decide +kernel
theorem dX10_isRight_300 : decode cX10_isRight 300 = .ok (.goto 4, 3) := by decide +kernel
theorem dX10_isRight_303 : decode cX10_isRight 303 = .ok (.iconst 0, 1) := by decide +kernel
theorem dX10_isRight_304 : decode cX10_isRight 304 = .ok (.ireturn, 1) := by decide +kernel
theorem dX10_isRight_305 : decode cX10_isRight 305 = .ok (.iload_n 2, 1) := by decide +kernel
theorem dX10_isRight_306 : decode cX10_isRight 306 = .ok (.bipush 8, 2) := by decide +kernel
theorem dX10_isRight_308 : decode cX10_isRight 308 = .ok (.invokestatic 86, 3) := by decide +kernel
theorem dX10_isRight_311 : decode cX10_isRight 311 = .ok (.ifCond .eq 15, 3) := by decide +kernel
theorem dX10_isRight_314 : decode cX10_isRight 314 = .ok (.aload_n 0, 1) := by decide +kernel
theorem dX10_isRight_315 : decode cX10_isRight 315 = .ok (.iload_n 3, 1) := by decide +kernel
theorem dX10_isRight_316 : decode cX10_isRight 316 = .ok (.invokevirtual 90, 3) := by decide +kernel
theorem dX10_isRight_319 : decode cX10_isRight 319 = .ok (.ifCond .eq 7, 3) := by decide +kernel
theorem dX10_isRight_322 : decode cX10_isRight 322 = .ok (.iconst 1, 1) := by decide +kernel
theorem dX10_isRight_323 : decode cX10_isRight 323 = .ok (.goto 4, 3) := by decide +kernel
theorem dX10_isRight_326 : decode cX10_isRight 326 = .ok (.iconst 0, 1) := by decide +kernel
theorem dX10_isRight_327 : decode cX10_isRight 327 = .ok (.ireturn, 1) := by decide +kernel
theorem dX10_isRight_328 : decode cX10_isRight 328 = .ok (.iload_n 2, 1) := by decide +kernel
theorem dX10_isRight_329 : decode cX10_isRight 329 = .ok (.bipush 8, 2) := by decide +kernel
theorem dX10_isRight_331 : decode cX10_isRight 331 = .ok (.invokestatic 86, 3) := by decide +kernel
theorem dX10_isRight_334 : decode cX10_isRight 334 = .ok (.ireturn, 1) := by decide +kernel
theorem dX10_isRight_335 : decode cX10_isRight 335 = .ok (.iload_n 2, 1) := by decide +kernel
theorem dX10_isRight_336 : decode cX10_isRight 336 = .ok (.bipush 8, 2) := by decide +kernel
theorem dX10_isRight_338 : decode cX10_isRight 338 = .ok (.invokestatic 86, 3) := by decide +kernel
theorem dX10_isRight_341 : decode cX10_isRight 341 = .ok (.ireturn, 1) := by decide +kernel
theorem dX10_isRight_342 : decode cX10_isRight 342 = .ok (.iload_n 2, 1) := by decide +kernel
theorem dX10_isRight_343 : decode cX10_isRight 343 = .ok (.bipush 8, 2) := by decide +kernel
theorem dX10_isRight_345 : decode cX10_isRight 345 = .ok (.invokestatic 86, 3) := by decide +kernel
theorem dX10_isRight_348 : decode cX10_isRight 348 = .ok (.ireturn, 1) := by decide +kernel
theorem dX10_isRight_349 : decode cX10_isRight 349 = .ok (.iload_n 2, 1) := by decide +kernel
theorem dX10_isRight_350 : decode cX10_isRight 350 = .ok (.bipush 8, 2) := by decide +kernel
theorem dX10_isRight_352 : decode cX10_isRight 352 = .ok (.invokestatic 86, 3) := by decide +kernel
theorem dX10_isRight_355 : decode cX10_isRight 355 = .ok (.ireturn, 1) := by decide +kernel
theorem dX10_isRight_356 : decode cX10_isRight 356 = .ok (.aload_n 0, 1) := by decide +kernel
theorem dX10_isRight_357 : decode cX10_isRight 357 = .ok (.iload_n 2, 1) := by decide +kernel
theorem dX10_isRight_358 : decode cX10_isRight 358 = .ok (.invokevirtual 90, 3) := by decide +kernel
theorem dX10_isRight_361 : decode cX10_isRight 361 = .ok (.ifCond .eq 26, 3) := by decide +kernel
theorem dX10_isRight_364 : decode cX10_isRight 364 = .ok (.iload_n 3, 1) := by decide +kernel
theorem dX10_isRight_365 : decode cX10_isRight 365 = .ok (.sipush 128, 3) := by decide +kernel
theorem dX10_isRight_368 : decode cX10_isRight 368 = .ok (.invokestatic 86, 3) := by decide +kernel
theorem dX10_isRight_371 : decode cX10_isRight 371 = .ok (.ifCond .eq 16, 3) := by decide +kernel
theorem dX10_isRight_374 : decode cX10_isRight 374 = .ok (.aload_n 0, 1) := by decide +kernel
theorem dX10_isRight_375 : decode cX10_isRight 375 = .ok (.iload 4, 2) := by decide +kernel
theorem dX10_isRight_377 : decode cX10_isRight 377 = .ok (.invokevirtual 90, 3) := by decide +kernel
theorem dX10_isRight_380 : decode cX10_isRight 380 = .ok (.ifCond .eq 7, 3) := by decide +kernel
theorem dX10_isRight_383 : decode cX10_isRight 383 = .ok (.iconst 1, 1) := by decide +kernel
theorem dX10_isRight_384 : decode cX10_isRight 384 = .ok (.goto 4, 3) := by decide +kernel
theorem dX10_isRight_387 : decode cX10_isRight 387 = .ok (.iconst 0, 1) := by decide +kernel
theorem dX10_isRight_388 : decode cX10_isRight 388 = .ok (.ireturn, 1) := by decide +kernel
theorem dX10_isRight_389 : decode cX10_isRight 389 = .ok (.aload_n 0, 1) := by decide +kernel
theorem dX10_isRight_390 : decode cX10_isRight 390 = .ok (.iload_n 2, 1) := by decide +kernel
theorem dX10_isRight_391 : decode cX10_isRight 391 = .ok (.invokevirtual 90, 3) := by decide +kernel
theorem dX10_isRight_394 : decode cX10_isRight 394 = .ok (.ifCond .eq 15, 3) := by decide +kernel
theorem dX10_isRight_397 : decode cX10_isRight 397 = .ok (.aload_n 0, 1) := by decide +kernel
theorem dX10_isRight_398 : decode cX10_isRight 398 = .ok (.iload_n 3, 1) := by decide +kernel
theorem dX10_isRight_399 : decode cX10_isRight 399 = .ok (.invokevirtual 90, 3) := by decide +kernel
theorem dX10_isRight_402 : decode cX10_isRight 402 = .ok (.ifCond .eq 7, 3) := by decide +kernel
theorem dX10_isRight_405 : decode cX10_isRight 405 = .ok (.iconst 1, 1) := by decide +kernel
theorem dX10_isRight_406 : decode cX10_isRight 406 = .ok (.goto 4, 3) := by decide +kernel
theorem dX10_isRight_409 : decode cX10_isRight 409 = .ok (.iconst 0, 1) := by decide +kernel
theorem dX10_isRight_410 : decode cX10_isRight 410 = .ok (.ireturn, 1) := by decide +kernel
theorem dX10_isRight_411 : decode cX10_isRight 411 = .ok (.iload_n 2, 1) := by decide +kernel
theorem dX10_isRight_412 : decode cX10_isRight 412 = .ok (.iconst 4, 1) := by decide +kernel
theorem dX10_isRight_413 : decode cX10_isRight 413 = .ok (.invokestatic 86, 3) := by decide +kernel
theorem dX10_isRight_416 : decode cX10_isRight 416 = .ok (.ifCond .eq 15, 3) := by decide +kernel
theorem dX10_isRight_419 : decode cX10_isRight 419 = .ok (.aload_n 0, 1) := by decide +kernel
theorem dX10_isRight_420 : decode cX10_isRight 420 = .ok (.iload_n 3, 1) := by decide +kernel
theorem dX10_isRight_421 : decode cX10_isRight 421 = .ok (.invokevirtual 90, 3) := by decide +kernel
theorem dX10_isRight_424 : decode cX10_isRight 424 = .ok (.ifCond .eq 7, 3) := by decide +kernel
theorem dX10_isRight_427 : decode cX10_isRight 427 = .ok (.iconst 1, 1) := by decide +kernel
theorem dX10_isRight_428 : decode cX10_isRight 428 = .ok (.goto 4, 3) := by decide +kernel
theorem dX10_isRight_431 : decode cX10_isRight 431 = .ok (.iconst 0, 1) := by decide +kernel
theorem dX10_isRight_432 : decode cX10_isRight 432 = .ok (.ireturn, 1) := by decide +kernel
theorem dX10_isRight_433 : decode cX10_isRight 433 = .ok (.iload_n 1, 1) := by decide +kernel
theorem dX10_isRight_434 : decode cX10_isRight 434 = .ok (.iconst 1, 1) := by decide +kernel
theorem dX10_isRight_435 : decode cX10_isRight 435 = .ok (.if_icmp .lt 40, 3) := by decide +kernel
theorem dX10_isRight_438 : decode cX10_isRight 438 = .ok (.iload_n 1, 1) := by decide +kernel
theorem dX10_isRight_439 : decode cX10_isRight 439 = .ok (.iconst 5, 1) := by decide +kernel
theorem dX10_isRight_440 : decode cX10_isRight 440 = .ok (.if_icmp .gt 35, 3) := by decide +kernel
theorem dX10_isRight_443 : decode cX10_isRight 443 = .ok (.iload_n 2, 1) := by decide +kernel
theorem dX10_isRight_444 : decode cX10_isRight 444 = .ok (.bipush 8, 2) := by decide +kernel
theorem dX10_isRight_446 : decode cX10_isRight 446 = .ok (.invokestatic 86, 3) := by decide +kernel
theorem dX10_isRight_449 : decode cX10_isRight 449 = .ok (.ifCond .eq 26, 3) := by decide +kernel
theorem dX10_isRight_452 : decode cX10_isRight 452 = .ok (.iload_n 3, 1) := by decide +kernel
theorem dX10_isRight_453 : decode cX10_isRight 453 = .ok (.bipush 8, 2) := by decide +kernel
theorem dX10_isRight_455 : decode cX10_isRight 455 = .ok (.invokestatic 86, 3) := by decide +kernel
theorem dX10_isRight_458 : decode cX10_isRight 458 = .ok (.ifCond .eq 17, 3) := by decide +kernel
theorem dX10_isRight_461 : decode cX10_isRight 461 = .ok (.iload 4, 2) := by decide +kernel
theorem dX10_isRight_463 : decode cX10_isRight 463 = .ok (.bipush 8, 2) := by decide +kernel
theorem dX10_isRight_465 : decode cX10_isRight 465 = .ok (.invokestatic 86, 3) := by decide +kernel
theorem dX10_isRight_468 : decode cX10_isRight 468 = .ok (.ifCond .eq 7, 3) := by decide +kernel
theorem dX10_isRight_471 : decode cX10_isRight 471 = .ok (.iconst 1, 1) := by decide +kernel
theorem dX10_isRight_472 : decode cX10_isRight 472 = .ok (.goto 4, 3) := by decide +kernel
theorem dX10_isRight_475 : decode cX10_isRight 475 = .ok (.iconst 0, 1) := by decide +kernel
theorem dX10_isRight_476 : decode cX10_isRight 476 = .ok (.ireturn, 1) := by decide +kernel
theorem dX10_highest_0 : decode cX10_highest 0 = .ok (.iconst 1, 1) := by decide +kernel
theorem dX10_highest_1 : decode cX10_highest 1 = .ok (.aload_n 0, 1) := by decide +kernel
theorem dX10_highest_2 : decode cX10_highest 2 = .ok (.getfield 26, 3) := by decide +kernel
theorem dX10_highest_5 : decode cX10_highest 5 = .ok (.iload_n 1, 1) := by decide +kernel
theorem dX10_highest_6 : decode cX10_highest 6 = .ok (.iaload, 1) := by decide +kernel
theorem dX10_highest_7 : decode cX10_highest 7 = .ok (.aload_n 0, 1) := by decide +kernel
theorem dX10_highest_8 : decode cX10_highest 8 = .ok (.getfield 26, 3) := by decide +kernel
theorem dX10_highest_11 : decode cX10_highest 11 = .ok (.iload_n 2, 1) := by decide +kernel
theorem dX10_highest_12 : decode cX10_highest 12 = .ok (.iaload, 1) := by decide +kernel
theorem dX10_highest_13 : decode cX10_highest 13 = .ok (.if_icmp .le 12, 3) := by decide +kernel
theorem dX10_highest_16 : decode cX10_highest 16 = .ok (.aload_n 0, 1) := by decide +kernel
theorem dX10_highest_17 : decode cX10_highest 17 = .ok (.getfield 26, 3) := by decide +kernel
theorem dX10_highest_20 : decode cX10_highest 20 = .ok (.iload_n 1, 1) := by decide +kernel
theorem dX10_highest_21 : decode cX10_highest 21 = .ok (.iaload, 1) := by decide +kernel
theorem dX10_highest_22 : decode cX10_highest 22 = .ok (.goto 9, 3) := by decide +kernel
theorem dX10_highest_25 : decode cX10_highest 25 = .ok (.aload_n 0, 1) := by decide +kernel
theorem dX10_highest_26 : decode cX10_highest 26 = .ok (.getfield 26, 3) := by decide +kernel
theorem dX10_highest_29 : decode cX10_highest 29 = .ok (.iload_n 2, 1) := by decide +kernel
theorem dX10_highest_30 : decode cX10_highest 30 = .ok (.iaload, 1) := by decide +kernel
theorem dX10_highest_31 : decode cX10_highest 31 = .ok (.iadd, 1) := by decide +kernel
theorem dX10_highest_32 : decode cX10_highest 32 = .ok (.ireturn, 1) := by decide +kernel
theorem dX10_heightOf_0 : decode cX10_heightOf 0 = .ok (.iload_n 1, 1) := by decide +kernel
theorem dX10_heightOf_1 : decode cX10_heightOf 1 = .ok (.tableswitch 95 12 20 #[51, 58, 66, 95, 95, 95, 73, 81, 88], 51) := by decide +kernel
theorem dX10_heightOf_52 : decode cX10_heightOf 52 = .ok (.aload_n 0, 1) := by decide +kernel
theorem dX10_heightOf_53 : decode cX10_heightOf 53 = .ok (.iload_n 2, 1) := by decide +kernel
theorem dX10_heightOf_54 : decode cX10_heightOf 54 = .ok (.iload_n 3, 1) := by decide +kernel
theorem dX10_heightOf_55 : decode cX10_heightOf 55 = .ok (.invokevirtual 94, 3) := by decide +kernel
theorem dX10_heightOf_58 : decode cX10_heightOf 58 = .ok (.ireturn, 1) := by decide +kernel
theorem dX10_heightOf_59 : decode cX10_heightOf 59 = .ok (.aload_n 0, 1) := by decide +kernel
theorem dX10_heightOf_60 : decode cX10_heightOf 60 = .ok (.iload_n 3, 1) := by decide +kernel
theorem dX10_heightOf_61 : decode cX10_heightOf 61 = .ok (.iload 4, 2) := by decide +kernel
theorem dX10_heightOf_63 : decode cX10_heightOf 63 = .ok (.invokevirtual 94, 3) := by decide +kernel
theorem dX10_heightOf_66 : decode cX10_heightOf 66 = .ok (.ireturn, 1) := by decide +kernel
theorem dX10_heightOf_67 : decode cX10_heightOf 67 = .ok (.aload_n 0, 1) := by decide +kernel
theorem dX10_heightOf_68 : decode cX10_heightOf 68 = .ok (.iload_n 3, 1) := by decide +kernel
theorem dX10_heightOf_69 : decode cX10_heightOf 69 = .ok (.iload_n 3, 1) := by decide +kernel
theorem dX10_heightOf_70 : decode cX10_heightOf 70 = .ok (.invokevirtual 94, 3) := by decide +kernel
theorem dX10_heightOf_73 : decode cX10_heightOf 73 = .ok (.ireturn, 1) := by decide +kernel
theorem dX10_heightOf_74 : decode cX10_heightOf 74 = .ok (.aload_n 0, 1) := by decide +kernel
theorem dX10_heightOf_75 : decode cX10_heightOf 75 = .ok (.iload_n 2, 1) := by decide +kernel
theorem dX10_heightOf_76 : decode cX10_heightOf 76 = .ok (.iload 4, 2) := by decide +kernel
theorem dX10_heightOf_78 : decode cX10_heightOf 78 = .ok (.invokevirtual 94, 3) := by decide +kernel
theorem dX10_heightOf_81 : decode cX10_heightOf 81 = .ok (.ireturn, 1) := by decide +kernel
theorem dX10_heightOf_82 : decode cX10_heightOf 82 = .ok (.aload_n 0, 1) := by decide +kernel
theorem dX10_heightOf_83 : decode cX10_heightOf 83 = .ok (.iload_n 2, 1) := by decide +kernel
theorem dX10_heightOf_84 : decode cX10_heightOf 84 = .ok (.iload_n 3, 1) := by decide +kernel
theorem dX10_heightOf_85 : decode cX10_heightOf 85 = .ok (.invokevirtual 94, 3) := by decide +kernel
theorem dX10_heightOf_88 : decode cX10_heightOf 88 = .ok (.ireturn, 1) := by decide +kernel
theorem dX10_heightOf_89 : decode cX10_heightOf 89 = .ok (.aload_n 0, 1) := by decide +kernel
theorem dX10_heightOf_90 : decode cX10_heightOf 90 = .ok (.iload_n 3, 1) := by decide +kernel
theorem dX10_heightOf_91 : decode cX10_heightOf 91 = .ok (.iload_n 3, 1) := by decide +kernel
theorem dX10_heightOf_92 : decode cX10_heightOf 92 = .ok (.invokevirtual 94, 3) := by decide +kernel
theorem dX10_heightOf_95 : decode cX10_heightOf 95 = .ok (.ireturn, 1) := by decide +kernel
theorem dX10_heightOf_96 : decode cX10_heightOf 96 = .ok (.iconst 1, 1) := by decide +kernel
theorem dX10_heightOf_97 : decode cX10_heightOf 97 = .ok (.ireturn, 1) := by decide +kernel
theorem dX10_make_0 : decode cX10_make 0 = .ok (.aload_n 0, 1) := by decide +kernel
theorem dX10_make_1 : decode cX10_make 1 = .ok (.iconst 0, 1) := by decide +kernel
theorem dX10_make_2 : decode cX10_make 2 = .ok (.putfield 1, 3) := by decide +kernel
theorem dX10_make_5 : decode cX10_make 5 = .ok (.iload_n 1, 1) := by decide +kernel
theorem dX10_make_6 : decode cX10_make 6 = .ok (.ifCond .lt 35, 3) := by decide +kernel
theorem dX10_make_9 : decode cX10_make 9 = .ok (.iload_n 1, 1) := by decide +kernel
theorem dX10_make_10 : decode cX10_make 10 = .ok (.bipush 21, 2) := by decide +kernel
theorem dX10_make_12 : decode cX10_make 12 = .ok (.if_icmp .gt 29, 3) := by decide +kernel
theorem dX10_make_15 : decode cX10_make 15 = .ok (.aload_n 0, 1) := by decide +kernel
theorem dX10_make_16 : decode cX10_make 16 = .ok (.iload_n 1, 1) := by decide +kernel
theorem dX10_make_17 : decode cX10_make 17 = .ok (.iload_n 2, 1) := by decide +kernel
theorem dX10_make_18 : decode cX10_make 18 = .ok (.iload_n 3, 1) := by decide +kernel
theorem dX10_make_19 : decode cX10_make 19 = .ok (.iload 4, 2) := by decide +kernel
theorem dX10_make_21 : decode cX10_make 21 = .ok (.invokevirtual 98, 3) := by decide +kernel
theorem dX10_make_24 : decode cX10_make 24 = .ok (.ifCond .eq 17, 3) := by decide +kernel
theorem dX10_make_27 : decode cX10_make 27 = .ok (.aload_n 0, 1) := by decide +kernel
theorem dX10_make_28 : decode cX10_make 28 = .ok (.iload_n 1, 1) := by decide +kernel
theorem dX10_make_29 : decode cX10_make 29 = .ok (.iload_n 2, 1) := by decide +kernel
theorem dX10_make_30 : decode cX10_make 30 = .ok (.iload_n 3, 1) := by decide +kernel
theorem dX10_make_31 : decode cX10_make 31 = .ok (.iload 4, 2) := by decide +kernel
theorem dX10_make_33 : decode cX10_make 33 = .ok (.invokevirtual 102, 3) := by decide +kernel
theorem dX10_make_36 : decode cX10_make 36 = .ok (.bipush 16, 2) := by decide +kernel
theorem dX10_make_38 : decode cX10_make 38 = .ok (.if_icmp .le 6, 3) := by decide +kernel
theorem dX10_make_41 : decode cX10_make 41 = .ok (.bipush (-2), 2) := by decide +kernel
theorem dX10_make_43 : decode cX10_make 43 = .ok (.ireturn, 1) := by decide +kernel
theorem dX10_make_44 : decode cX10_make 44 = .ok (.aload_n 0, 1) := by decide +kernel
theorem dX10_make_45 : decode cX10_make 45 = .ok (.getfield 83, 3) := by decide +kernel
theorem dX10_make_48 : decode cX10_make 48 = .ok (.bipush 120, 2) := by decide +kernel
theorem dX10_make_50 : decode cX10_make 50 = .ok (.if_icmp .ne 6, 3) := by decide +kernel
theorem dX10_make_53 : decode cX10_make 53 = .ok (.bipush (-3), 2) := by decide +kernel
theorem dX10_make_55 : decode cX10_make 55 = .ok (.ireturn, 1) := by decide +kernel
theorem dX10_make_56 : decode cX10_make 56 = .ok (.aload_n 0, 1) := by decide +kernel
theorem dX10_make_57 : decode cX10_make 57 = .ok (.getfield 13, 3) := by decide +kernel
theorem dX10_make_60 : decode cX10_make 60 = .ok (.aload_n 0, 1) := by decide +kernel
theorem dX10_make_61 : decode cX10_make 61 = .ok (.getfield 83, 3) := by decide +kernel
theorem dX10_make_64 : decode cX10_make 64 = .ok (.iload_n 1, 1) := by decide +kernel
theorem dX10_make_65 : decode cX10_make 65 = .ok (.iastore, 1) := by decide +kernel
theorem dX10_make_66 : decode cX10_make 66 = .ok (.aload_n 0, 1) := by decide +kernel
theorem dX10_make_67 : decode cX10_make 67 = .ok (.getfield 17, 3) := by decide +kernel
theorem dX10_make_70 : decode cX10_make 70 = .ok (.aload_n 0, 1) := by decide +kernel
theorem dX10_make_71 : decode cX10_make 71 = .ok (.getfield 83, 3) := by decide +kernel
theorem dX10_make_74 : decode cX10_make 74 = .ok (.iload_n 2, 1) := by decide +kernel
theorem dX10_make_75 : decode cX10_make 75 = .ok (.iastore, 1) := by decide +kernel
theorem dX10_make_76 : decode cX10_make 76 = .ok (.aload_n 0, 1) := by decide +kernel
theorem dX10_make_77 : decode cX10_make 77 = .ok (.getfield 20, 3) := by decide +kernel
theorem dX10_make_80 : decode cX10_make 80 = .ok (.aload_n 0, 1) := by decide +kernel
theorem dX10_make_81 : decode cX10_make 81 = .ok (.getfield 83, 3) := by decide +kernel
theorem dX10_make_84 : decode cX10_make 84 = .ok (.iload_n 3, 1) := by decide +kernel
theorem dX10_make_85 : decode cX10_make 85 = .ok (.iastore, 1) := by decide +kernel
theorem dX10_make_86 : decode cX10_make 86 = .ok (.aload_n 0, 1) := by decide +kernel
theorem dX10_make_87 : decode cX10_make 87 = .ok (.getfield 23, 3) := by decide +kernel
theorem dX10_make_90 : decode cX10_make 90 = .ok (.aload_n 0, 1) := by decide +kernel
theorem dX10_make_91 : decode cX10_make 91 = .ok (.getfield 83, 3) := by decide +kernel
theorem dX10_make_94 : decode cX10_make 94 = .ok (.iload 4, 2) := by decide +kernel
theorem dX10_make_96 : decode cX10_make 96 = .ok (.iastore, 1) := by decide +kernel
theorem dX10_make_97 : decode cX10_make 97 = .ok (.aload_n 0, 1) := by decide +kernel
theorem dX10_make_98 : decode cX10_make 98 = .ok (.getfield 26, 3) := by decide +kernel
theorem dX10_make_101 : decode cX10_make 101 = .ok (.aload_n 0, 1) := by decide +kernel
theorem dX10_make_102 : decode cX10_make 102 = .ok (.getfield 83, 3) := by decide +kernel
theorem dX10_make_105 : decode cX10_make 105 = .ok (.aload_n 0, 1) := by decide +kernel
theorem dX10_make_106 : decode cX10_make 106 = .ok (.iload_n 1, 1) := by decide +kernel
theorem dX10_make_107 : decode cX10_make 107 = .ok (.iload_n 2, 1) := by decide +kernel
theorem dX10_make_108 : decode cX10_make 108 = .ok (.iload_n 3, 1) := by decide +kernel
theorem dX10_make_109 : decode cX10_make 109 = .ok (.iload 4, 2) := by decide +kernel
theorem dX10_make_111 : decode cX10_make 111 = .ok (.invokevirtual 102, 3) := by decide +kernel
theorem dX10_make_114 : decode cX10_make 114 = .ok (.iastore, 1) := by decide +kernel
theorem dX10_make_115 : decode cX10_make 115 = .ok (.aload_n 0, 1) := by decide +kernel
theorem dX10_make_116 : decode cX10_make 116 = .ok (.dup, 1) := by decide +kernel
theorem dX10_make_117 : decode cX10_make 117 = .ok (.getfield 83, 3) := by decide +kernel
theorem dX10_make_120 : decode cX10_make 120 = .ok (.iconst 1, 1) := by decide +kernel
theorem dX10_make_121 : decode cX10_make 121 = .ok (.iadd, 1) := by decide +kernel
theorem dX10_make_122 : decode cX10_make 122 = .ok (.putfield 83, 3) := by decide +kernel
theorem dX10_make_125 : decode cX10_make 125 = .ok (.aload_n 0, 1) := by decide +kernel
theorem dX10_make_126 : decode cX10_make 126 = .ok (.getfield 83, 3) := by decide +kernel
theorem dX10_make_129 : decode cX10_make 129 = .ok (.iconst 1, 1) := by decide +kernel
theorem dX10_make_130 : decode cX10_make 130 = .ok (.isub, 1) := by decide +kernel
theorem dX10_make_131 : decode cX10_make 131 = .ok (.ireturn, 1) := by decide +kernel
theorem dX10_drop_0 : decode cX10_drop 0 = .ok (.aload_n 0, 1) := by decide +kernel
theorem dX10_drop_1 : decode cX10_drop 1 = .ok (.iconst 0, 1) := by decide +kernel
theorem dX10_drop_2 : decode cX10_drop 2 = .ok (.putfield 1, 3) := by decide +kernel
theorem dX10_drop_5 : decode cX10_drop 5 = .ok (.aload_n 0, 1) := by decide +kernel
theorem dX10_drop_6 : decode cX10_drop 6 = .ok (.getfield 83, 3) := by decide +kernel
theorem dX10_drop_9 : decode cX10_drop 9 = .ok (.ifCond .le 7, 3) := by decide +kernel
theorem dX10_drop_12 : decode cX10_drop 12 = .ok (.iconst 1, 1) := by decide +kernel
theorem dX10_drop_13 : decode cX10_drop 13 = .ok (.goto 4, 3) := by decide +kernel
theorem dX10_drop_16 : decode cX10_drop 16 = .ok (.iconst 0, 1) := by decide +kernel
theorem dX10_drop_17 : decode cX10_drop 17 = .ok (.istore_n 1, 1) := by decide +kernel
theorem dX10_drop_18 : decode cX10_drop 18 = .ok (.iconst 0, 1) := by decide +kernel
theorem dX10_drop_19 : decode cX10_drop 19 = .ok (.istore_n 2, 1) := by decide +kernel
theorem dX10_drop_20 : decode cX10_drop 20 = .ok (.iload_n 2, 1) := by decide +kernel
theorem dX10_drop_21 : decode cX10_drop 21 = .ok (.bipush 8, 2) := by decide +kernel
theorem dX10_drop_23 : decode cX10_drop 23 = .ok (.if_icmp .ge 34, 3) := by decide +kernel
theorem dX10_drop_26 : decode cX10_drop 26 = .ok (.iload_n 1, 1) := by decide +kernel
theorem dX10_drop_27 : decode cX10_drop 27 = .ok (.ifCond .eq 22, 3) := by decide +kernel
theorem dX10_drop_30 : decode cX10_drop 30 = .ok (.aload_n 0, 1) := by decide +kernel
theorem dX10_drop_31 : decode cX10_drop 31 = .ok (.getfield 29, 3) := by decide +kernel
theorem dX10_drop_34 : decode cX10_drop 34 = .ok (.iload_n 2, 1) := by decide +kernel
theorem dX10_drop_35 : decode cX10_drop 35 = .ok (.iaload, 1) := by decide +kernel
theorem dX10_drop_36 : decode cX10_drop 36 = .ok (.aload_n 0, 1) := by decide +kernel
theorem dX10_drop_37 : decode cX10_drop 37 = .ok (.getfield 83, 3) := by decide +kernel
theorem dX10_drop_40 : decode cX10_drop 40 = .ok (.iconst 1, 1) := by decide +kernel
theorem dX10_drop_41 : decode cX10_drop 41 = .ok (.isub, 1) := by decide +kernel
theorem dX10_drop_42 : decode cX10_drop 42 = .ok (.if_icmp .eq 7, 3) := by decide +kernel
theorem dX10_drop_45 : decode cX10_drop 45 = .ok (.iconst 1, 1) := by decide +kernel
theorem dX10_drop_46 : decode cX10_drop 46 = .ok (.goto 4, 3) := by decide +kernel
theorem dX10_drop_49 : decode cX10_drop 49 = .ok (.iconst 0, 1) := by decide +kernel
theorem dX10_drop_50 : decode cX10_drop 50 = .ok (.istore_n 1, 1) := by decide +kernel
theorem dX10_drop_51 : decode cX10_drop 51 = .ok (.iinc 2 1, 3) := by decide +kernel
theorem dX10_drop_54 : decode cX10_drop 54 = .ok (.goto (-34), 3) := by decide +kernel
theorem dX10_drop_57 : decode cX10_drop 57 = .ok (.iload_n 1, 1) := by decide +kernel
theorem dX10_drop_58 : decode cX10_drop 58 = .ok (.ifCond .ne 6, 3) := by decide +kernel
theorem dX10_drop_61 : decode cX10_drop 61 = .ok (.bipush (-2), 2) := by decide +kernel
theorem dX10_drop_63 : decode cX10_drop 63 = .ok (.ireturn, 1) := by decide +kernel
theorem dX10_drop_64 : decode cX10_drop 64 = .ok (.aload_n 0, 1) := by decide +kernel
theorem dX10_drop_65 : decode cX10_drop 65 = .ok (.dup, 1) := by decide +kernel
theorem dX10_drop_66 : decode cX10_drop 66 = .ok (.getfield 83, 3) := by decide +kernel
theorem dX10_drop_69 : decode cX10_drop 69 = .ok (.iconst 1, 1) := by decide +kernel
theorem dX10_drop_70 : decode cX10_drop 70 = .ok (.isub, 1) := by decide +kernel
theorem dX10_drop_71 : decode cX10_drop 71 = .ok (.putfield 83, 3) := by decide +kernel
theorem dX10_drop_74 : decode cX10_drop 74 = .ok (.aload_n 0, 1) := by decide +kernel
theorem dX10_drop_75 : decode cX10_drop 75 = .ok (.getfield 83, 3) := by decide +kernel
theorem dX10_drop_78 : decode cX10_drop 78 = .ok (.ireturn, 1) := by decide +kernel
theorem dX10_body_0 : decode cX10_body 0 = .ok (.aload_n 0, 1) := by decide +kernel
theorem dX10_body_1 : decode cX10_body 1 = .ok (.iconst 0, 1) := by decide +kernel
theorem dX10_body_2 : decode cX10_body 2 = .ok (.putfield 1, 3) := by decide +kernel
theorem dX10_body_5 : decode cX10_body 5 = .ok (.iload_n 1, 1) := by decide +kernel
theorem dX10_body_6 : decode cX10_body 6 = .ok (.bipush 8, 2) := by decide +kernel
theorem dX10_body_8 : decode cX10_body 8 = .ok (.invokestatic 86, 3) := by decide +kernel
theorem dX10_body_11 : decode cX10_body 11 = .ok (.ifCond .eq 16, 3) := by decide +kernel
theorem dX10_body_14 : decode cX10_body 14 = .ok (.iload_n 2, 1) := by decide +kernel
theorem dX10_body_15 : decode cX10_body 15 = .ok (.iconst (-1), 1) := by decide +kernel
theorem dX10_body_16 : decode cX10_body 16 = .ok (.if_icmp .eq 14, 3) := by decide +kernel
theorem dX10_body_19 : decode cX10_body 19 = .ok (.aload_n 0, 1) := by decide +kernel
theorem dX10_body_20 : decode cX10_body 20 = .ok (.iload_n 2, 1) := by decide +kernel
theorem dX10_body_21 : decode cX10_body 21 = .ok (.invokevirtual 90, 3) := by decide +kernel
theorem dX10_body_24 : decode cX10_body 24 = .ok (.ifCond .ne 6, 3) := by decide +kernel
theorem dX10_body_27 : decode cX10_body 27 = .ok (.bipush (-2), 2) := by decide +kernel
theorem dX10_body_29 : decode cX10_body 29 = .ok (.ireturn, 1) := by decide +kernel
theorem dX10_body_30 : decode cX10_body 30 = .ok (.aload_n 0, 1) := by decide +kernel
theorem dX10_body_31 : decode cX10_body 31 = .ok (.getfield 29, 3) := by decide +kernel
theorem dX10_body_34 : decode cX10_body 34 = .ok (.iload_n 1, 1) := by decide +kernel
theorem dX10_body_35 : decode cX10_body 35 = .ok (.iload_n 2, 1) := by decide +kernel
theorem dX10_body_36 : decode cX10_body 36 = .ok (.iastore, 1) := by decide +kernel
theorem dX10_body_37 : decode cX10_body 37 = .ok (.iconst 1, 1) := by decide +kernel
theorem dX10_body_38 : decode cX10_body 38 = .ok (.ireturn, 1) := by decide +kernel
theorem dX10_push_0 : decode cX10_push 0 = .ok (.aload_n 0, 1) := by decide +kernel
theorem dX10_push_1 : decode cX10_push 1 = .ok (.getfield 62, 3) := by decide +kernel
theorem dX10_push_4 : decode cX10_push 4 = .ok (.aload_n 0, 1) := by decide +kernel
theorem dX10_push_5 : decode cX10_push 5 = .ok (.getfield 106, 3) := by decide +kernel
theorem dX10_push_8 : decode cX10_push 8 = .ok (.iload_n 1, 1) := by decide +kernel
theorem dX10_push_9 : decode cX10_push 9 = .ok (.iastore, 1) := by decide +kernel
theorem dX10_push_10 : decode cX10_push 10 = .ok (.aload_n 0, 1) := by decide +kernel
theorem dX10_push_11 : decode cX10_push 11 = .ok (.getfield 65, 3) := by decide +kernel
theorem dX10_push_14 : decode cX10_push 14 = .ok (.aload_n 0, 1) := by decide +kernel
theorem dX10_push_15 : decode cX10_push 15 = .ok (.getfield 106, 3) := by decide +kernel
theorem dX10_push_18 : decode cX10_push 18 = .ok (.iconst 0, 1) := by decide +kernel
theorem dX10_push_19 : decode cX10_push 19 = .ok (.iastore, 1) := by decide +kernel
theorem dX10_push_20 : decode cX10_push 20 = .ok (.aload_n 0, 1) := by decide +kernel
theorem dX10_push_21 : decode cX10_push 21 = .ok (.dup, 1) := by decide +kernel
theorem dX10_push_22 : decode cX10_push 22 = .ok (.getfield 106, 3) := by decide +kernel
theorem dX10_push_25 : decode cX10_push 25 = .ok (.iconst 1, 1) := by decide +kernel
theorem dX10_push_26 : decode cX10_push 26 = .ok (.iadd, 1) := by decide +kernel
theorem dX10_push_27 : decode cX10_push 27 = .ok (.putfield 106, 3) := by decide +kernel
theorem dX10_push_30 : decode cX10_push 30 = .ok (.aload_n 0, 1) := by decide +kernel
theorem dX10_push_31 : decode cX10_push 31 = .ok (.iconst (-1), 1) := by decide +kernel
theorem dX10_push_32 : decode cX10_push 32 = .ok (.putfield 109, 3) := by decide +kernel
theorem dX10_push_35 : decode cX10_push 35 = .ok (.return_, 1) := by decide +kernel
theorem dX10_comes_0 : decode cX10_comes 0 = .ok (.aload_n 0, 1) := by decide +kernel
theorem dX10_comes_1 : decode cX10_comes 1 = .ok (.dup, 1) := by decide +kernel
theorem dX10_comes_2 : decode cX10_comes 2 = .ok (.getfield 106, 3) := by decide +kernel
theorem dX10_comes_5 : decode cX10_comes 5 = .ok (.iconst 1, 1) := by decide +kernel
theorem dX10_comes_6 : decode cX10_comes 6 = .ok (.isub, 1) := by decide +kernel
theorem dX10_comes_7 : decode cX10_comes 7 = .ok (.putfield 106, 3) := by decide +kernel
theorem dX10_comes_10 : decode cX10_comes 10 = .ok (.aload_n 0, 1) := by decide +kernel
theorem dX10_comes_11 : decode cX10_comes 11 = .ok (.iload_n 1, 1) := by decide +kernel
theorem dX10_comes_12 : decode cX10_comes 12 = .ok (.putfield 109, 3) := by decide +kernel
theorem dX10_comes_15 : decode cX10_comes 15 = .ok (.return_, 1) := by decide +kernel
theorem dX10_throwing_0 : decode cX10_throwing 0 = .ok (.aload_n 0, 1) := by decide +kernel
theorem dX10_throwing_1 : decode cX10_throwing 1 = .ok (.iload_n 1, 1) := by decide +kernel
theorem dX10_throwing_2 : decode cX10_throwing 2 = .ok (.putfield 112, 3) := by decide +kernel
theorem dX10_throwing_5 : decode cX10_throwing 5 = .ok (.aload_n 0, 1) := by decide +kernel
theorem dX10_throwing_6 : decode cX10_throwing 6 = .ok (.iload_n 2, 1) := by decide +kernel
theorem dX10_throwing_7 : decode cX10_throwing 7 = .ok (.putfield 115, 3) := by decide +kernel
theorem dX10_throwing_10 : decode cX10_throwing 10 = .ok (.aload_n 0, 1) := by decide +kernel
theorem dX10_throwing_11 : decode cX10_throwing 11 = .ok (.iconst 2, 1) := by decide +kernel
theorem dX10_throwing_12 : decode cX10_throwing 12 = .ok (.invokevirtual 118, 3) := by decide +kernel
theorem dX10_throwing_15 : decode cX10_throwing 15 = .ok (.return_, 1) := by decide +kernel
theorem dX10_pays_0 : decode cX10_pays 0 = .ok (.aload_n 0, 1) := by decide +kernel
theorem dX10_pays_1 : decode cX10_pays 1 = .ok (.getfield 122, 3) := by decide +kernel
theorem dX10_pays_4 : decode cX10_pays 4 = .ok (.iconst (-1), 1) := by decide +kernel
theorem dX10_pays_5 : decode cX10_pays 5 = .ok (.if_icmp .ne 10, 3) := by decide +kernel
theorem dX10_pays_8 : decode cX10_pays 8 = .ok (.aload_n 0, 1) := by decide +kernel
theorem dX10_pays_9 : decode cX10_pays 9 = .ok (.getfield 125, 3) := by decide +kernel
theorem dX10_pays_12 : decode cX10_pays 12 = .ok (.goto 7, 3) := by decide +kernel
theorem dX10_pays_15 : decode cX10_pays 15 = .ok (.aload_n 0, 1) := by decide +kernel
theorem dX10_pays_16 : decode cX10_pays 16 = .ok (.getfield 128, 3) := by decide +kernel
theorem dX10_pays_19 : decode cX10_pays 19 = .ok (.istore_n 3, 1) := by decide +kernel
theorem dX10_pays_20 : decode cX10_pays 20 = .ok (.iload_n 3, 1) := by decide +kernel
theorem dX10_pays_21 : decode cX10_pays 21 = .ok (.iload_n 2, 1) := by decide +kernel
theorem dX10_pays_22 : decode cX10_pays 22 = .ok (.if_icmp .ge 25, 3) := by decide +kernel
theorem dX10_pays_25 : decode cX10_pays 25 = .ok (.aload_n 0, 1) := by decide +kernel
theorem dX10_pays_26 : decode cX10_pays 26 = .ok (.getfield 122, 3) := by decide +kernel
theorem dX10_pays_29 : decode cX10_pays 29 = .ok (.iconst (-1), 1) := by decide +kernel
theorem dX10_pays_30 : decode cX10_pays 30 = .ok (.if_icmp .ne 11, 3) := by decide +kernel
theorem dX10_pays_33 : decode cX10_pays 33 = .ok (.aload_n 0, 1) := by decide +kernel
theorem dX10_pays_34 : decode cX10_pays 34 = .ok (.iconst 3, 1) := by decide +kernel
theorem dX10_pays_35 : decode cX10_pays 35 = .ok (.putfield 109, 3) := by decide +kernel
theorem dX10_pays_38 : decode cX10_pays 38 = .ok (.goto 7, 3) := by decide +kernel
theorem dX10_pays_41 : decode cX10_pays 41 = .ok (.aload_n 0, 1) := by decide +kernel
theorem dX10_pays_42 : decode cX10_pays 42 = .ok (.invokevirtual 131, 3) := by decide +kernel
theorem dX10_pays_45 : decode cX10_pays 45 = .ok (.iconst 0, 1) := by decide +kernel
theorem dX10_pays_46 : decode cX10_pays 46 = .ok (.ireturn, 1) := by decide +kernel
theorem dX10_pays_47 : decode cX10_pays 47 = .ok (.aload_n 0, 1) := by decide +kernel
theorem dX10_pays_48 : decode cX10_pays 48 = .ok (.getfield 50, 3) := by decide +kernel
theorem dX10_pays_51 : decode cX10_pays 51 = .ok (.iload_n 1, 1) := by decide +kernel
theorem dX10_pays_52 : decode cX10_pays 52 = .ok (.dup2, 1) := by decide +kernel
theorem dX10_pays_53 : decode cX10_pays 53 = .ok (.iaload, 1) := by decide +kernel
theorem dX10_pays_54 : decode cX10_pays 54 = .ok (.iconst 1, 1) := by decide +kernel
theorem dX10_pays_55 : decode cX10_pays 55 = .ok (.iadd, 1) := by decide +kernel
theorem dX10_pays_56 : decode cX10_pays 56 = .ok (.iastore, 1) := by decide +kernel
theorem dX10_pays_57 : decode cX10_pays 57 = .ok (.aload_n 0, 1) := by decide +kernel
theorem dX10_pays_58 : decode cX10_pays 58 = .ok (.getfield 122, 3) := by decide +kernel
theorem dX10_pays_61 : decode cX10_pays 61 = .ok (.iconst (-1), 1) := by decide +kernel
theorem dX10_pays_62 : decode cX10_pays 62 = .ok (.if_icmp .ne 26, 3) := by decide +kernel
theorem dX10_pays_65 : decode cX10_pays 65 = .ok (.aload_n 0, 1) := by decide +kernel
theorem dX10_pays_66 : decode cX10_pays 66 = .ok (.dup, 1) := by decide +kernel
theorem dX10_pays_67 : decode cX10_pays 67 = .ok (.getfield 125, 3) := by decide +kernel
theorem dX10_pays_70 : decode cX10_pays 70 = .ok (.iload_n 2, 1) := by decide +kernel
theorem dX10_pays_71 : decode cX10_pays 71 = .ok (.isub, 1) := by decide +kernel
theorem dX10_pays_72 : decode cX10_pays 72 = .ok (.putfield 125, 3) := by decide +kernel
theorem dX10_pays_75 : decode cX10_pays 75 = .ok (.aload_n 0, 1) := by decide +kernel
theorem dX10_pays_76 : decode cX10_pays 76 = .ok (.dup, 1) := by decide +kernel
theorem dX10_pays_77 : decode cX10_pays 77 = .ok (.getfield 134, 3) := by decide +kernel
theorem dX10_pays_80 : decode cX10_pays 80 = .ok (.iload_n 2, 1) := by decide +kernel
theorem dX10_pays_81 : decode cX10_pays 81 = .ok (.iadd, 1) := by decide +kernel
theorem dX10_pays_82 : decode cX10_pays 82 = .ok (.putfield 134, 3) := by decide +kernel
theorem dX10_pays_85 : decode cX10_pays 85 = .ok (.goto 23, 3) := by decide +kernel
theorem dX10_pays_88 : decode cX10_pays 88 = .ok (.aload_n 0, 1) := by decide +kernel
theorem dX10_pays_89 : decode cX10_pays 89 = .ok (.dup, 1) := by decide +kernel
theorem dX10_pays_90 : decode cX10_pays 90 = .ok (.getfield 128, 3) := by decide +kernel
theorem dX10_pays_93 : decode cX10_pays 93 = .ok (.iload_n 2, 1) := by decide +kernel
theorem dX10_pays_94 : decode cX10_pays 94 = .ok (.isub, 1) := by decide +kernel
theorem dX10_pays_95 : decode cX10_pays 95 = .ok (.putfield 128, 3) := by decide +kernel
theorem dX10_pays_98 : decode cX10_pays 98 = .ok (.aload_n 0, 1) := by decide +kernel
theorem dX10_pays_99 : decode cX10_pays 99 = .ok (.dup, 1) := by decide +kernel
theorem dX10_pays_100 : decode cX10_pays 100 = .ok (.getfield 137, 3) := by decide +kernel
theorem dX10_pays_103 : decode cX10_pays 103 = .ok (.iload_n 2, 1) := by decide +kernel
theorem dX10_pays_104 : decode cX10_pays 104 = .ok (.iadd, 1) := by decide +kernel
theorem dX10_pays_105 : decode cX10_pays 105 = .ok (.putfield 137, 3) := by decide +kernel
theorem dX10_pays_108 : decode cX10_pays 108 = .ok (.iconst 1, 1) := by decide +kernel
theorem dX10_pays_109 : decode cX10_pays 109 = .ok (.ireturn, 1) := by decide +kernel
theorem dX10_endReserve_0 : decode cX10_endReserve 0 = .ok (.aload_n 0, 1) := by decide +kernel
theorem dX10_endReserve_1 : decode cX10_endReserve 1 = .ok (.getfield 106, 3) := by decide +kernel
theorem dX10_endReserve_4 : decode cX10_endReserve 4 = .ok (.aload_n 0, 1) := by decide +kernel
theorem dX10_endReserve_5 : decode cX10_endReserve 5 = .ok (.getfield 122, 3) := by decide +kernel
theorem dX10_endReserve_8 : decode cX10_endReserve 8 = .ok (.if_icmp .le 24, 3) := by decide +kernel
theorem dX10_endReserve_11 : decode cX10_endReserve 11 = .ok (.aload_n 0, 1) := by decide +kernel
theorem dX10_endReserve_12 : decode cX10_endReserve 12 = .ok (.dup, 1) := by decide +kernel
theorem dX10_endReserve_13 : decode cX10_endReserve 13 = .ok (.getfield 106, 3) := by decide +kernel
theorem dX10_endReserve_16 : decode cX10_endReserve 16 = .ok (.iconst 1, 1) := by decide +kernel
theorem dX10_endReserve_17 : decode cX10_endReserve 17 = .ok (.isub, 1) := by decide +kernel
theorem dX10_endReserve_18 : decode cX10_endReserve 18 = .ok (.putfield 106, 3) := by decide +kernel
theorem dX10_endReserve_21 : decode cX10_endReserve 21 = .ok (.aload_n 0, 1) := by decide +kernel
theorem dX10_endReserve_22 : decode cX10_endReserve 22 = .ok (.aload_n 0, 1) := by decide +kernel
theorem dX10_endReserve_23 : decode cX10_endReserve 23 = .ok (.getfield 106, 3) := by decide +kernel
theorem dX10_endReserve_26 : decode cX10_endReserve 26 = .ok (.invokevirtual 140, 3) := by decide +kernel
theorem dX10_endReserve_29 : decode cX10_endReserve 29 = .ok (.goto (-29), 3) := by decide +kernel
theorem dX10_endReserve_32 : decode cX10_endReserve 32 = .ok (.aload_n 0, 1) := by decide +kernel
theorem dX10_endReserve_33 : decode cX10_endReserve 33 = .ok (.iconst (-1), 1) := by decide +kernel
theorem dX10_endReserve_34 : decode cX10_endReserve 34 = .ok (.putfield 122, 3) := by decide +kernel
theorem dX10_endReserve_37 : decode cX10_endReserve 37 = .ok (.aload_n 0, 1) := by decide +kernel
theorem dX10_endReserve_38 : decode cX10_endReserve 38 = .ok (.iconst 3, 1) := by decide +kernel
theorem dX10_endReserve_39 : decode cX10_endReserve 39 = .ok (.putfield 109, 3) := by decide +kernel
theorem dX10_endReserve_42 : decode cX10_endReserve 42 = .ok (.return_, 1) := by decide +kernel
theorem dX10_leave_0 : decode cX10_leave 0 = .ok (.aload_n 0, 1) := by decide +kernel
theorem dX10_leave_1 : decode cX10_leave 1 = .ok (.getfield 62, 3) := by decide +kernel
theorem dX10_leave_4 : decode cX10_leave 4 = .ok (.iload_n 1, 1) := by decide +kernel
theorem dX10_leave_5 : decode cX10_leave 5 = .ok (.iaload, 1) := by decide +kernel
theorem dX10_leave_6 : decode cX10_leave 6 = .ok (.istore_n 2, 1) := by decide +kernel
theorem dX10_leave_7 : decode cX10_leave 7 = .ok (.aload_n 0, 1) := by decide +kernel
theorem dX10_leave_8 : decode cX10_leave 8 = .ok (.getfield 13, 3) := by decide +kernel
theorem dX10_leave_11 : decode cX10_leave 11 = .ok (.iload_n 2, 1) := by decide +kernel
theorem dX10_leave_12 : decode cX10_leave 12 = .ok (.iaload, 1) := by decide +kernel
theorem dX10_leave_13 : decode cX10_leave 13 = .ok (.bipush 20, 2) := by decide +kernel
theorem dX10_leave_15 : decode cX10_leave 15 = .ok (.if_icmp .ne 28, 3) := by decide +kernel
theorem dX10_leave_18 : decode cX10_leave 18 = .ok (.aload_n 0, 1) := by decide +kernel
theorem dX10_leave_19 : decode cX10_leave 19 = .ok (.getfield 65, 3) := by decide +kernel
theorem dX10_leave_22 : decode cX10_leave 22 = .ok (.iload_n 1, 1) := by decide +kernel
theorem dX10_leave_23 : decode cX10_leave 23 = .ok (.iaload, 1) := by decide +kernel
theorem dX10_leave_24 : decode cX10_leave 24 = .ok (.iconst 1, 1) := by decide +kernel
theorem dX10_leave_25 : decode cX10_leave 25 = .ok (.if_icmp .ne 18, 3) := by decide +kernel
theorem dX10_leave_28 : decode cX10_leave 28 = .ok (.aload_n 0, 1) := by decide +kernel
theorem dX10_leave_29 : decode cX10_leave 29 = .ok (.getfield 38, 3) := by decide +kernel
theorem dX10_leave_32 : decode cX10_leave 32 = .ok (.aload_n 0, 1) := by decide +kernel
theorem dX10_leave_33 : decode cX10_leave 33 = .ok (.getfield 17, 3) := by decide +kernel
theorem dX10_leave_36 : decode cX10_leave 36 = .ok (.iload_n 2, 1) := by decide +kernel
theorem dX10_leave_37 : decode cX10_leave 37 = .ok (.iaload, 1) := by decide +kernel
theorem dX10_leave_38 : decode cX10_leave 38 = .ok (.dup2, 1) := by decide +kernel
theorem dX10_leave_39 : decode cX10_leave 39 = .ok (.iaload, 1) := by decide +kernel
theorem dX10_leave_40 : decode cX10_leave 40 = .ok (.iconst 1, 1) := by decide +kernel
theorem dX10_leave_41 : decode cX10_leave 41 = .ok (.isub, 1) := by decide +kernel
theorem dX10_leave_42 : decode cX10_leave 42 = .ok (.iastore, 1) := by decide +kernel
theorem dX10_leave_43 : decode cX10_leave 43 = .ok (.aload_n 0, 1) := by decide +kernel
theorem dX10_leave_44 : decode cX10_leave 44 = .ok (.getfield 13, 3) := by decide +kernel
theorem dX10_leave_47 : decode cX10_leave 47 = .ok (.iload_n 2, 1) := by decide +kernel
theorem dX10_leave_48 : decode cX10_leave 48 = .ok (.iaload, 1) := by decide +kernel
theorem dX10_leave_49 : decode cX10_leave 49 = .ok (.bipush 15, 2) := by decide +kernel
theorem dX10_leave_51 : decode cX10_leave 51 = .ok (.if_icmp .ne 23, 3) := by decide +kernel
theorem dX10_leave_54 : decode cX10_leave 54 = .ok (.aload_n 0, 1) := by decide +kernel
theorem dX10_leave_55 : decode cX10_leave 55 = .ok (.getfield 65, 3) := by decide +kernel
theorem dX10_leave_58 : decode cX10_leave 58 = .ok (.iload_n 1, 1) := by decide +kernel
theorem dX10_leave_59 : decode cX10_leave 59 = .ok (.iaload, 1) := by decide +kernel
theorem dX10_leave_60 : decode cX10_leave 60 = .ok (.iconst 1, 1) := by decide +kernel
theorem dX10_leave_61 : decode cX10_leave 61 = .ok (.if_icmp .ne 13, 3) := by decide +kernel
theorem dX10_leave_64 : decode cX10_leave 64 = .ok (.aload_n 0, 1) := by decide +kernel
theorem dX10_leave_65 : decode cX10_leave 65 = .ok (.dup, 1) := by decide +kernel
theorem dX10_leave_66 : decode cX10_leave 66 = .ok (.getfield 143, 3) := by decide +kernel
theorem dX10_leave_69 : decode cX10_leave 69 = .ok (.iconst 1, 1) := by decide +kernel
theorem dX10_leave_70 : decode cX10_leave 70 = .ok (.isub, 1) := by decide +kernel
theorem dX10_leave_71 : decode cX10_leave 71 = .ok (.putfield 143, 3) := by decide +kernel
theorem dX10_leave_74 : decode cX10_leave 74 = .ok (.return_, 1) := by decide +kernel
theorem dX10_note_0 : decode cX10_note 0 = .ok (.aload_n 0, 1) := by decide +kernel
theorem dX10_note_1 : decode cX10_note 1 = .ok (.getfield 146, 3) := by decide +kernel
theorem dX10_note_4 : decode cX10_note 4 = .ok (.bipush 30, 2) := by decide +kernel
theorem dX10_note_6 : decode cX10_note 6 = .ok (.if_icmp .ne 4, 3) := by decide +kernel
theorem dX10_note_9 : decode cX10_note 9 = .ok (.return_, 1) := by decide +kernel
theorem dX10_note_10 : decode cX10_note 10 = .ok (.aload_n 0, 1) := by decide +kernel
theorem dX10_note_11 : decode cX10_note 11 = .ok (.getfield 53, 3) := by decide +kernel
theorem dX10_note_14 : decode cX10_note 14 = .ok (.aload_n 0, 1) := by decide +kernel
theorem dX10_note_15 : decode cX10_note 15 = .ok (.getfield 146, 3) := by decide +kernel
theorem dX10_note_18 : decode cX10_note 18 = .ok (.iload_n 1, 1) := by decide +kernel
theorem dX10_note_19 : decode cX10_note 19 = .ok (.iastore, 1) := by decide +kernel
theorem dX10_note_20 : decode cX10_note 20 = .ok (.aload_n 0, 1) := by decide +kernel
theorem dX10_note_21 : decode cX10_note 21 = .ok (.dup, 1) := by decide +kernel
theorem dX10_note_22 : decode cX10_note 22 = .ok (.getfield 146, 3) := by decide +kernel
theorem dX10_note_25 : decode cX10_note 25 = .ok (.iconst 1, 1) := by decide +kernel
theorem dX10_note_26 : decode cX10_note 26 = .ok (.iadd, 1) := by decide +kernel
theorem dX10_note_27 : decode cX10_note 27 = .ok (.putfield 146, 3) := by decide +kernel
theorem dX10_note_30 : decode cX10_note 30 = .ok (.return_, 1) := by decide +kernel
theorem dX10_reckon_0 : decode cX10_reckon 0 = .ok (.aload_n 0, 1) := by decide +kernel
theorem dX10_reckon_1 : decode cX10_reckon 1 = .ok (.getfield 32, 3) := by decide +kernel
theorem dX10_reckon_4 : decode cX10_reckon 4 = .ok (.aload_n 0, 1) := by decide +kernel
theorem dX10_reckon_5 : decode cX10_reckon 5 = .ok (.getfield 20, 3) := by decide +kernel
theorem dX10_reckon_8 : decode cX10_reckon 8 = .ok (.iload_n 1, 1) := by decide +kernel
theorem dX10_reckon_9 : decode cX10_reckon 9 = .ok (.iaload, 1) := by decide +kernel
theorem dX10_reckon_10 : decode cX10_reckon 10 = .ok (.iaload, 1) := by decide +kernel
theorem dX10_reckon_11 : decode cX10_reckon 11 = .ok (.istore_n 2, 1) := by decide +kernel
theorem dX10_reckon_12 : decode cX10_reckon 12 = .ok (.aload_n 0, 1) := by decide +kernel
theorem dX10_reckon_13 : decode cX10_reckon 13 = .ok (.getfield 32, 3) := by decide +kernel
theorem dX10_reckon_16 : decode cX10_reckon 16 = .ok (.aload_n 0, 1) := by decide +kernel
theorem dX10_reckon_17 : decode cX10_reckon 17 = .ok (.getfield 23, 3) := by decide +kernel
theorem dX10_reckon_20 : decode cX10_reckon 20 = .ok (.iload_n 1, 1) := by decide +kernel
theorem dX10_reckon_21 : decode cX10_reckon 21 = .ok (.iaload, 1) := by decide +kernel
theorem dX10_reckon_22 : decode cX10_reckon 22 = .ok (.iaload, 1) := by decide +kernel
theorem dX10_reckon_23 : decode cX10_reckon 23 = .ok (.istore_n 3, 1) := by decide +kernel
theorem dX10_reckon_24 : decode cX10_reckon 24 = .ok (.aload_n 0, 1) := by decide +kernel
theorem dX10_reckon_25 : decode cX10_reckon 25 = .ok (.getfield 13, 3) := by decide +kernel
theorem dX10_reckon_28 : decode cX10_reckon 28 = .ok (.iload_n 1, 1) := by decide +kernel
theorem dX10_reckon_29 : decode cX10_reckon 29 = .ok (.iaload, 1) := by decide +kernel
theorem dX10_reckon_30 : decode cX10_reckon 30 = .ok (.istore 4, 2) := by decide +kernel
theorem dX10_reckon_32 : decode cX10_reckon 32 = .ok (.iload 4, 2) := by decide +kernel
theorem dX10_reckon_34 : decode cX10_reckon 34 = .ok (.iconst 3, 1) := by decide +kernel
theorem dX10_reckon_35 : decode cX10_reckon 35 = .ok (.if_icmp .le 14, 3) := by decide +kernel
theorem dX10_reckon_38 : decode cX10_reckon 38 = .ok (.iload_n 3, 1) := by decide +kernel
theorem dX10_reckon_39 : decode cX10_reckon 39 = .ok (.ifCond .ne 10, 3) := by decide +kernel
theorem dX10_reckon_42 : decode cX10_reckon 42 = .ok (.aload_n 0, 1) := by decide +kernel
theorem dX10_reckon_43 : decode cX10_reckon 43 = .ok (.iconst 4, 1) := by decide +kernel
theorem dX10_reckon_44 : decode cX10_reckon 44 = .ok (.iconst 0, 1) := by decide +kernel
theorem dX10_reckon_45 : decode cX10_reckon 45 = .ok (.invokevirtual 149, 3) := by decide +kernel
theorem dX10_reckon_48 : decode cX10_reckon 48 = .ok (.return_, 1) := by decide +kernel
theorem dX10_reckon_49 : decode cX10_reckon 49 = .ok (.aload_n 0, 1) := by decide +kernel
theorem dX10_reckon_50 : decode cX10_reckon 50 = .ok (.getfield 32, 3) := by decide +kernel
theorem dX10_reckon_53 : decode cX10_reckon 53 = .ok (.aload_n 0, 1) := by decide +kernel
theorem dX10_reckon_54 : decode cX10_reckon 54 = .ok (.getfield 17, 3) := by decide +kernel
theorem dX10_reckon_57 : decode cX10_reckon 57 = .ok (.iload_n 1, 1) := by decide +kernel
theorem dX10_reckon_58 : decode cX10_reckon 58 = .ok (.iaload, 1) := by decide +kernel
theorem dX10_reckon_59 : decode cX10_reckon 59 = .ok (.iload 4, 2) := by decide +kernel
theorem dX10_reckon_61 : decode cX10_reckon 61 = .ok (.iconst 1, 1) := by decide +kernel
theorem dX10_reckon_62 : decode cX10_reckon 62 = .ok (.if_icmp .ne 9, 3) := by decide +kernel
theorem dX10_reckon_65 : decode cX10_reckon 65 = .ok (.iload_n 2, 1) := by decide +kernel
theorem dX10_reckon_66 : decode cX10_reckon 66 = .ok (.iload_n 3, 1) := by decide +kernel
theorem dX10_reckon_67 : decode cX10_reckon 67 = .ok (.iadd, 1) := by decide +kernel
theorem dX10_reckon_68 : decode cX10_reckon 68 = .ok (.goto 42, 3) := by decide +kernel
theorem dX10_reckon_71 : decode cX10_reckon 71 = .ok (.iload 4, 2) := by decide +kernel
theorem dX10_reckon_73 : decode cX10_reckon 73 = .ok (.iconst 2, 1) := by decide +kernel
theorem dX10_reckon_74 : decode cX10_reckon 74 = .ok (.if_icmp .ne 9, 3) := by decide +kernel
theorem dX10_reckon_77 : decode cX10_reckon 77 = .ok (.iload_n 2, 1) := by decide +kernel
theorem dX10_reckon_78 : decode cX10_reckon 78 = .ok (.iload_n 3, 1) := by decide +kernel
theorem dX10_reckon_79 : decode cX10_reckon 79 = .ok (.isub, 1) := by decide +kernel
theorem dX10_reckon_80 : decode cX10_reckon 80 = .ok (.goto 30, 3) := by decide +kernel
theorem dX10_reckon_83 : decode cX10_reckon 83 = .ok (.iload 4, 2) := by decide +kernel
theorem dX10_reckon_85 : decode cX10_reckon 85 = .ok (.iconst 3, 1) := by decide +kernel
theorem dX10_reckon_86 : decode cX10_reckon 86 = .ok (.if_icmp .ne 9, 3) := by decide +kernel
theorem dX10_reckon_89 : decode cX10_reckon 89 = .ok (.iload_n 2, 1) := by decide +kernel
theorem dX10_reckon_90 : decode cX10_reckon 90 = .ok (.iload_n 3, 1) := by decide +kernel
theorem dX10_reckon_91 : decode cX10_reckon 91 = .ok (.imul, 1) := by decide +kernel
theorem dX10_reckon_92 : decode cX10_reckon 92 = .ok (.goto 18, 3) := by decide +kernel
theorem dX10_reckon_95 : decode cX10_reckon 95 = .ok (.iload 4, 2) := by decide +kernel
theorem dX10_reckon_97 : decode cX10_reckon 97 = .ok (.iconst 4, 1) := by decide +kernel
theorem dX10_reckon_98 : decode cX10_reckon 98 = .ok (.if_icmp .ne 9, 3) := by decide +kernel
theorem dX10_reckon_101 : decode cX10_reckon 101 = .ok (.iload_n 2, 1) := by decide +kernel
theorem dX10_reckon_102 : decode cX10_reckon 102 = .ok (.iload_n 3, 1) := by decide +kernel
theorem dX10_reckon_103 : decode cX10_reckon 103 = .ok (.idiv, 1) := by decide +kernel
theorem dX10_reckon_104 : decode cX10_reckon 104 = .ok (.goto 6, 3) := by decide +kernel
theorem dX10_reckon_107 : decode cX10_reckon 107 = .ok (.iload_n 2, 1) := by decide +kernel
theorem dX10_reckon_108 : decode cX10_reckon 108 = .ok (.iload_n 3, 1) := by decide +kernel
theorem dX10_reckon_109 : decode cX10_reckon 109 = .ok (.irem, 1) := by decide +kernel
theorem dX10_reckon_110 : decode cX10_reckon 110 = .ok (.iastore, 1) := by decide +kernel
theorem dX10_reckon_111 : decode cX10_reckon 111 = .ok (.aload_n 0, 1) := by decide +kernel
theorem dX10_reckon_112 : decode cX10_reckon 112 = .ok (.iconst 0, 1) := by decide +kernel
theorem dX10_reckon_113 : decode cX10_reckon 113 = .ok (.invokevirtual 118, 3) := by decide +kernel
theorem dX10_reckon_116 : decode cX10_reckon 116 = .ok (.return_, 1) := by decide +kernel
theorem dX10_making_0 : decode cX10_making 0 = .ok (.aload_n 0, 1) := by decide +kernel
theorem dX10_making_1 : decode cX10_making 1 = .ok (.getfield 32, 3) := by decide +kernel
theorem dX10_making_4 : decode cX10_making 4 = .ok (.aload_n 0, 1) := by decide +kernel
theorem dX10_making_5 : decode cX10_making 5 = .ok (.getfield 20, 3) := by decide +kernel
theorem dX10_making_8 : decode cX10_making 8 = .ok (.iload_n 1, 1) := by decide +kernel
theorem dX10_making_9 : decode cX10_making 9 = .ok (.iaload, 1) := by decide +kernel
theorem dX10_making_10 : decode cX10_making 10 = .ok (.iaload, 1) := by decide +kernel
theorem dX10_making_11 : decode cX10_making 11 = .ok (.istore_n 2, 1) := by decide +kernel
theorem dX10_making_12 : decode cX10_making 12 = .ok (.aload_n 0, 1) := by decide +kernel
theorem dX10_making_13 : decode cX10_making 13 = .ok (.iconst 4, 1) := by decide +kernel
theorem dX10_making_14 : decode cX10_making 14 = .ok (.iload_n 2, 1) := by decide +kernel
theorem dX10_making_15 : decode cX10_making 15 = .ok (.ifCond .ge 7, 3) := by decide +kernel
theorem dX10_making_18 : decode cX10_making 18 = .ok (.iconst 1, 1) := by decide +kernel
theorem dX10_making_19 : decode cX10_making 19 = .ok (.goto 8, 3) := by decide +kernel
theorem dX10_making_22 : decode cX10_making 22 = .ok (.iconst 1, 1) := by decide +kernel
theorem dX10_making_23 : decode cX10_making 23 = .ok (.iload_n 2, 1) := by decide +kernel
theorem dX10_making_24 : decode cX10_making 24 = .ok (.iconst 4, 1) := by decide +kernel
theorem dX10_making_25 : decode cX10_making 25 = .ok (.idiv, 1) := by decide +kernel
theorem dX10_making_26 : decode cX10_making 26 = .ok (.iadd, 1) := by decide +kernel
theorem dX10_making_27 : decode cX10_making 27 = .ok (.invokevirtual 153, 3) := by decide +kernel
theorem dX10_making_30 : decode cX10_making 30 = .ok (.ifCond .ne 4, 3) := by decide +kernel
theorem dX10_making_33 : decode cX10_making 33 = .ok (.return_, 1) := by decide +kernel
theorem dX10_making_34 : decode cX10_making 34 = .ok (.iload_n 2, 1) := by decide +kernel
theorem dX10_making_35 : decode cX10_making 35 = .ok (.ifCond .ge 10, 3) := by decide +kernel
theorem dX10_making_38 : decode cX10_making 38 = .ok (.aload_n 0, 1) := by decide +kernel
theorem dX10_making_39 : decode cX10_making 39 = .ok (.iconst 3, 1) := by decide +kernel
theorem dX10_making_40 : decode cX10_making 40 = .ok (.iconst 0, 1) := by decide +kernel
theorem dX10_making_41 : decode cX10_making 41 = .ok (.invokevirtual 149, 3) := by decide +kernel
theorem dX10_making_44 : decode cX10_making 44 = .ok (.return_, 1) := by decide +kernel
theorem dX10_making_45 : decode cX10_making 45 = .ok (.aload_n 0, 1) := by decide +kernel
theorem dX10_making_46 : decode cX10_making 46 = .ok (.getfield 41, 3) := by decide +kernel
theorem dX10_making_49 : decode cX10_making 49 = .ok (.aload_n 0, 1) := by decide +kernel
theorem dX10_making_50 : decode cX10_making 50 = .ok (.getfield 156, 3) := by decide +kernel
theorem dX10_making_53 : decode cX10_making 53 = .ok (.iload_n 2, 1) := by decide +kernel
theorem dX10_making_54 : decode cX10_making 54 = .ok (.iastore, 1) := by decide +kernel
theorem dX10_making_55 : decode cX10_making 55 = .ok (.aload_n 0, 1) := by decide +kernel
theorem dX10_making_56 : decode cX10_making 56 = .ok (.getfield 44, 3) := by decide +kernel
theorem dX10_making_59 : decode cX10_making 59 = .ok (.aload_n 0, 1) := by decide +kernel
theorem dX10_making_60 : decode cX10_making 60 = .ok (.getfield 156, 3) := by decide +kernel
theorem dX10_making_63 : decode cX10_making 63 = .ok (.aload_n 0, 1) := by decide +kernel
theorem dX10_making_64 : decode cX10_making 64 = .ok (.getfield 159, 3) := by decide +kernel
theorem dX10_making_67 : decode cX10_making 67 = .ok (.iastore, 1) := by decide +kernel
theorem dX10_making_68 : decode cX10_making 68 = .ok (.iconst 0, 1) := by decide +kernel
theorem dX10_making_69 : decode cX10_making 69 = .ok (.istore_n 3, 1) := by decide +kernel
theorem dX10_making_70 : decode cX10_making 70 = .ok (.iload_n 3, 1) := by decide +kernel
theorem dX10_making_71 : decode cX10_making 71 = .ok (.iload_n 2, 1) := by decide +kernel
theorem dX10_making_72 : decode cX10_making 72 = .ok (.if_icmp .ge 21, 3) := by decide +kernel
theorem dX10_making_75 : decode cX10_making 75 = .ok (.aload_n 0, 1) := by decide +kernel
theorem dX10_making_76 : decode cX10_making 76 = .ok (.getfield 47, 3) := by decide +kernel
theorem dX10_making_79 : decode cX10_making 79 = .ok (.aload_n 0, 1) := by decide +kernel
theorem dX10_making_80 : decode cX10_making 80 = .ok (.getfield 159, 3) := by decide +kernel
theorem dX10_making_83 : decode cX10_making 83 = .ok (.iload_n 3, 1) := by decide +kernel
theorem dX10_making_84 : decode cX10_making 84 = .ok (.iadd, 1) := by decide +kernel
theorem dX10_making_85 : decode cX10_making 85 = .ok (.iconst 0, 1) := by decide +kernel
theorem dX10_making_86 : decode cX10_making 86 = .ok (.iastore, 1) := by decide +kernel
theorem dX10_making_87 : decode cX10_making 87 = .ok (.iinc 3 1, 3) := by decide +kernel
theorem dX10_making_90 : decode cX10_making 90 = .ok (.goto (-20), 3) := by decide +kernel
theorem dX10_making_93 : decode cX10_making 93 = .ok (.aload_n 0, 1) := by decide +kernel
theorem dX10_making_94 : decode cX10_making 94 = .ok (.dup, 1) := by decide +kernel
theorem dX10_making_95 : decode cX10_making 95 = .ok (.getfield 159, 3) := by decide +kernel
theorem dX10_making_98 : decode cX10_making 98 = .ok (.iload_n 2, 1) := by decide +kernel
theorem dX10_making_99 : decode cX10_making 99 = .ok (.iadd, 1) := by decide +kernel
theorem dX10_making_100 : decode cX10_making 100 = .ok (.putfield 159, 3) := by decide +kernel
theorem dX10_making_103 : decode cX10_making 103 = .ok (.aload_n 0, 1) := by decide +kernel
theorem dX10_making_104 : decode cX10_making 104 = .ok (.getfield 35, 3) := by decide +kernel
theorem dX10_making_107 : decode cX10_making 107 = .ok (.aload_n 0, 1) := by decide +kernel
theorem dX10_making_108 : decode cX10_making 108 = .ok (.getfield 17, 3) := by decide +kernel
theorem dX10_making_111 : decode cX10_making 111 = .ok (.iload_n 1, 1) := by decide +kernel
theorem dX10_making_112 : decode cX10_making 112 = .ok (.iaload, 1) := by decide +kernel
theorem dX10_making_113 : decode cX10_making 113 = .ok (.aload_n 0, 1) := by decide +kernel
theorem dX10_making_114 : decode cX10_making 114 = .ok (.getfield 156, 3) := by decide +kernel
theorem dX10_making_117 : decode cX10_making 117 = .ok (.iastore, 1) := by decide +kernel
theorem dX10_making_118 : decode cX10_making 118 = .ok (.aload_n 0, 1) := by decide +kernel
theorem dX10_making_119 : decode cX10_making 119 = .ok (.dup, 1) := by decide +kernel
theorem dX10_making_120 : decode cX10_making 120 = .ok (.getfield 156, 3) := by decide +kernel
theorem dX10_making_123 : decode cX10_making 123 = .ok (.iconst 1, 1) := by decide +kernel
theorem dX10_making_124 : decode cX10_making 124 = .ok (.iadd, 1) := by decide +kernel
theorem dX10_making_125 : decode cX10_making 125 = .ok (.putfield 156, 3) := by decide +kernel
theorem dX10_making_128 : decode cX10_making 128 = .ok (.aload_n 0, 1) := by decide +kernel
theorem dX10_making_129 : decode cX10_making 129 = .ok (.iconst 0, 1) := by decide +kernel
theorem dX10_making_130 : decode cX10_making 130 = .ok (.invokevirtual 118, 3) := by decide +kernel
theorem dX10_making_133 : decode cX10_making 133 = .ok (.return_, 1) := by decide +kernel
theorem dX10_has_0 : decode cX10_has 0 = .ok (.aload_n 0, 1) := by decide +kernel
theorem dX10_has_1 : decode cX10_has 1 = .ok (.getfield 35, 3) := by decide +kernel
theorem dX10_has_4 : decode cX10_has 4 = .ok (.iload_n 1, 1) := by decide +kernel
theorem dX10_has_5 : decode cX10_has 5 = .ok (.iaload, 1) := by decide +kernel
theorem dX10_has_6 : decode cX10_has 6 = .ok (.istore_n 3, 1) := by decide +kernel
theorem dX10_has_7 : decode cX10_has 7 = .ok (.iload_n 3, 1) := by decide +kernel
theorem dX10_has_8 : decode cX10_has 8 = .ok (.iconst (-1), 1) := by decide +kernel
theorem dX10_has_9 : decode cX10_has 9 = .ok (.if_icmp .ne 12, 3) := by decide +kernel
theorem dX10_has_12 : decode cX10_has 12 = .ok (.aload_n 0, 1) := by decide +kernel
theorem dX10_has_13 : decode cX10_has 13 = .ok (.iconst 1, 1) := by decide +kernel
theorem dX10_has_14 : decode cX10_has 14 = .ok (.iconst 0, 1) := by decide +kernel
theorem dX10_has_15 : decode cX10_has 15 = .ok (.invokevirtual 149, 3) := by decide +kernel
theorem dX10_has_18 : decode cX10_has 18 = .ok (.goto 23, 3) := by decide +kernel
theorem dX10_has_21 : decode cX10_has 21 = .ok (.iload_n 2, 1) := by decide +kernel
theorem dX10_has_22 : decode cX10_has 22 = .ok (.ifCond .lt 13, 3) := by decide +kernel
theorem dX10_has_25 : decode cX10_has 25 = .ok (.iload_n 2, 1) := by decide +kernel
theorem dX10_has_26 : decode cX10_has 26 = .ok (.aload_n 0, 1) := by decide +kernel
theorem dX10_has_27 : decode cX10_has 27 = .ok (.getfield 41, 3) := by decide +kernel
theorem dX10_has_30 : decode cX10_has 30 = .ok (.iload_n 3, 1) := by decide +kernel
theorem dX10_has_31 : decode cX10_has 31 = .ok (.iaload, 1) := by decide +kernel
theorem dX10_has_32 : decode cX10_has 32 = .ok (.if_icmp .lt 9, 3) := by decide +kernel
theorem dX10_has_35 : decode cX10_has 35 = .ok (.aload_n 0, 1) := by decide +kernel
theorem dX10_has_36 : decode cX10_has 36 = .ok (.iconst 2, 1) := by decide +kernel
theorem dX10_has_37 : decode cX10_has 37 = .ok (.iconst 0, 1) := by decide +kernel
theorem dX10_has_38 : decode cX10_has 38 = .ok (.invokevirtual 149, 3) := by decide +kernel
theorem dX10_has_41 : decode cX10_has 41 = .ok (.aload_n 0, 1) := by decide +kernel
theorem dX10_has_42 : decode cX10_has 42 = .ok (.getfield 109, 3) := by decide +kernel
theorem dX10_has_45 : decode cX10_has 45 = .ok (.iconst (-1), 1) := by decide +kernel
theorem dX10_has_46 : decode cX10_has 46 = .ok (.if_icmp .ne 7, 3) := by decide +kernel
theorem dX10_has_49 : decode cX10_has 49 = .ok (.iconst 1, 1) := by decide +kernel
theorem dX10_has_50 : decode cX10_has 50 = .ok (.goto 4, 3) := by decide +kernel
theorem dX10_has_53 : decode cX10_has 53 = .ok (.iconst 0, 1) := by decide +kernel
theorem dX10_has_54 : decode cX10_has 54 = .ok (.ireturn, 1) := by decide +kernel
theorem dX10_simple_0 : decode cX10_simple 0 = .ok (.aload_n 0, 1) := by decide +kernel
theorem dX10_simple_1 : decode cX10_simple 1 = .ok (.getfield 17, 3) := by decide +kernel
theorem dX10_simple_4 : decode cX10_simple 4 = .ok (.iload_n 1, 1) := by decide +kernel
theorem dX10_simple_5 : decode cX10_simple 5 = .ok (.iaload, 1) := by decide +kernel
theorem dX10_simple_6 : decode cX10_simple 6 = .ok (.istore_n 2, 1) := by decide +kernel
theorem dX10_simple_7 : decode cX10_simple 7 = .ok (.aload_n 0, 1) := by decide +kernel
theorem dX10_simple_8 : decode cX10_simple 8 = .ok (.getfield 20, 3) := by decide +kernel
theorem dX10_simple_11 : decode cX10_simple 11 = .ok (.iload_n 1, 1) := by decide +kernel
theorem dX10_simple_12 : decode cX10_simple 12 = .ok (.iaload, 1) := by decide +kernel
theorem dX10_simple_13 : decode cX10_simple 13 = .ok (.istore_n 3, 1) := by decide +kernel
theorem dX10_simple_14 : decode cX10_simple 14 = .ok (.aload_n 0, 1) := by decide +kernel
theorem dX10_simple_15 : decode cX10_simple 15 = .ok (.getfield 23, 3) := by decide +kernel
theorem dX10_simple_18 : decode cX10_simple 18 = .ok (.iload_n 1, 1) := by decide +kernel
theorem dX10_simple_19 : decode cX10_simple 19 = .ok (.iaload, 1) := by decide +kernel
theorem dX10_simple_20 : decode cX10_simple 20 = .ok (.istore 4, 2) := by decide +kernel
theorem dX10_simple_22 : decode cX10_simple 22 = .ok (.aload_n 0, 1) := by decide +kernel
theorem dX10_simple_23 : decode cX10_simple 23 = .ok (.getfield 13, 3) := by decide +kernel
theorem dX10_simple_26 : decode cX10_simple 26 = .ok (.iload_n 1, 1) := by decide +kernel
theorem dX10_simple_27 : decode cX10_simple 27 = .ok (.iaload, 1) := by decide +kernel
theorem dX10_simple_28 : decode cX10_simple 28 = .ok (.tableswitch 341 0 21 #[104, 341, 341, 341, 341, 341, 117, 123, 175, 226, 266, 279, 341, 341, 341, 341, 297, 313, 341, 341, 341, 325], 104) := by decide +kernel
theorem dX10_simple_132 : decode cX10_simple 132 = .ok (.aload_n 0, 1) := by decide +kernel
theorem dX10_simple_133 : decode cX10_simple 133 = .ok (.getfield 32, 3) := by decide +kernel
theorem dX10_simple_136 : decode cX10_simple 136 = .ok (.iload_n 2, 1) := by decide +kernel
theorem dX10_simple_137 : decode cX10_simple 137 = .ok (.iload_n 3, 1) := by decide +kernel
theorem dX10_simple_138 : decode cX10_simple 138 = .ok (.iastore, 1) := by decide +kernel
theorem dX10_simple_139 : decode cX10_simple 139 = .ok (.aload_n 0, 1) := by decide +kernel
theorem dX10_simple_140 : decode cX10_simple 140 = .ok (.iconst 0, 1) := by decide +kernel
theorem dX10_simple_141 : decode cX10_simple 141 = .ok (.invokevirtual 118, 3) := by decide +kernel
theorem dX10_simple_144 : decode cX10_simple 144 = .ok (.return_, 1) := by decide +kernel
theorem dX10_simple_145 : decode cX10_simple 145 = .ok (.aload_n 0, 1) := by decide +kernel
theorem dX10_simple_146 : decode cX10_simple 146 = .ok (.iload_n 1, 1) := by decide +kernel
theorem dX10_simple_147 : decode cX10_simple 147 = .ok (.invokevirtual 162, 3) := by decide +kernel
theorem dX10_simple_150 : decode cX10_simple 150 = .ok (.return_, 1) := by decide +kernel
theorem dX10_simple_151 : decode cX10_simple 151 = .ok (.aload_n 0, 1) := by decide +kernel
theorem dX10_simple_152 : decode cX10_simple 152 = .ok (.iload_n 3, 1) := by decide +kernel
theorem dX10_simple_153 : decode cX10_simple 153 = .ok (.aload_n 0, 1) := by decide +kernel
theorem dX10_simple_154 : decode cX10_simple 154 = .ok (.getfield 32, 3) := by decide +kernel
theorem dX10_simple_157 : decode cX10_simple 157 = .ok (.iload 4, 2) := by decide +kernel
theorem dX10_simple_159 : decode cX10_simple 159 = .ok (.iaload, 1) := by decide +kernel
theorem dX10_simple_160 : decode cX10_simple 160 = .ok (.invokevirtual 165, 3) := by decide +kernel
theorem dX10_simple_163 : decode cX10_simple 163 = .ok (.ifCond .ne 4, 3) := by decide +kernel
theorem dX10_simple_166 : decode cX10_simple 166 = .ok (.return_, 1) := by decide +kernel
theorem dX10_simple_167 : decode cX10_simple 167 = .ok (.aload_n 0, 1) := by decide +kernel
theorem dX10_simple_168 : decode cX10_simple 168 = .ok (.getfield 32, 3) := by decide +kernel
theorem dX10_simple_171 : decode cX10_simple 171 = .ok (.iload_n 2, 1) := by decide +kernel
theorem dX10_simple_172 : decode cX10_simple 172 = .ok (.aload_n 0, 1) := by decide +kernel
theorem dX10_simple_173 : decode cX10_simple 173 = .ok (.getfield 47, 3) := by decide +kernel
theorem dX10_simple_176 : decode cX10_simple 176 = .ok (.aload_n 0, 1) := by decide +kernel
theorem dX10_simple_177 : decode cX10_simple 177 = .ok (.getfield 44, 3) := by decide +kernel
theorem dX10_simple_180 : decode cX10_simple 180 = .ok (.aload_n 0, 1) := by decide +kernel
theorem dX10_simple_181 : decode cX10_simple 181 = .ok (.getfield 35, 3) := by decide +kernel
theorem dX10_simple_184 : decode cX10_simple 184 = .ok (.iload_n 3, 1) := by decide +kernel
theorem dX10_simple_185 : decode cX10_simple 185 = .ok (.iaload, 1) := by decide +kernel
theorem dX10_simple_186 : decode cX10_simple 186 = .ok (.iaload, 1) := by decide +kernel
theorem dX10_simple_187 : decode cX10_simple 187 = .ok (.aload_n 0, 1) := by decide +kernel
theorem dX10_simple_188 : decode cX10_simple 188 = .ok (.getfield 32, 3) := by decide +kernel
theorem dX10_simple_191 : decode cX10_simple 191 = .ok (.iload 4, 2) := by decide +kernel
theorem dX10_simple_193 : decode cX10_simple 193 = .ok (.iaload, 1) := by decide +kernel
theorem dX10_simple_194 : decode cX10_simple 194 = .ok (.iadd, 1) := by decide +kernel
theorem dX10_simple_195 : decode cX10_simple 195 = .ok (.iaload, 1) := by decide +kernel
theorem dX10_simple_196 : decode cX10_simple 196 = .ok (.iastore, 1) := by decide +kernel
theorem dX10_simple_197 : decode cX10_simple 197 = .ok (.aload_n 0, 1) := by decide +kernel
theorem dX10_simple_198 : decode cX10_simple 198 = .ok (.iconst 0, 1) := by decide +kernel
theorem dX10_simple_199 : decode cX10_simple 199 = .ok (.invokevirtual 118, 3) := by decide +kernel
theorem dX10_simple_202 : decode cX10_simple 202 = .ok (.return_, 1) := by decide +kernel
theorem dX10_simple_203 : decode cX10_simple 203 = .ok (.aload_n 0, 1) := by decide +kernel
theorem dX10_simple_204 : decode cX10_simple 204 = .ok (.iload_n 2, 1) := by decide +kernel
theorem dX10_simple_205 : decode cX10_simple 205 = .ok (.aload_n 0, 1) := by decide +kernel
theorem dX10_simple_206 : decode cX10_simple 206 = .ok (.getfield 32, 3) := by decide +kernel
theorem dX10_simple_209 : decode cX10_simple 209 = .ok (.iload_n 3, 1) := by decide +kernel
theorem dX10_simple_210 : decode cX10_simple 210 = .ok (.iaload, 1) := by decide +kernel
theorem dX10_simple_211 : decode cX10_simple 211 = .ok (.invokevirtual 165, 3) := by decide +kernel
theorem dX10_simple_214 : decode cX10_simple 214 = .ok (.ifCond .ne 4, 3) := by decide +kernel
theorem dX10_simple_217 : decode cX10_simple 217 = .ok (.return_, 1) := by decide +kernel
theorem dX10_simple_218 : decode cX10_simple 218 = .ok (.aload_n 0, 1) := by decide +kernel
theorem dX10_simple_219 : decode cX10_simple 219 = .ok (.getfield 47, 3) := by decide +kernel
theorem dX10_simple_222 : decode cX10_simple 222 = .ok (.aload_n 0, 1) := by decide +kernel
theorem dX10_simple_223 : decode cX10_simple 223 = .ok (.getfield 44, 3) := by decide +kernel
theorem dX10_simple_226 : decode cX10_simple 226 = .ok (.aload_n 0, 1) := by decide +kernel
theorem dX10_simple_227 : decode cX10_simple 227 = .ok (.getfield 35, 3) := by decide +kernel
theorem dX10_simple_230 : decode cX10_simple 230 = .ok (.iload_n 2, 1) := by decide +kernel
theorem dX10_simple_231 : decode cX10_simple 231 = .ok (.iaload, 1) := by decide +kernel
theorem dX10_simple_232 : decode cX10_simple 232 = .ok (.iaload, 1) := by decide +kernel
theorem dX10_simple_233 : decode cX10_simple 233 = .ok (.aload_n 0, 1) := by decide +kernel
theorem dX10_simple_234 : decode cX10_simple 234 = .ok (.getfield 32, 3) := by decide +kernel
theorem dX10_simple_237 : decode cX10_simple 237 = .ok (.iload_n 3, 1) := by decide +kernel
theorem dX10_simple_238 : decode cX10_simple 238 = .ok (.iaload, 1) := by decide +kernel
end
section
theorem dX10_simple_239 : decode cX10_simple 239 = .ok (.iadd, 1) := by decide +kernel
theorem dX10_simple_240 : decode cX10_simple 240 = .ok (.aload_n 0, 1) := by decide +kernel
theorem dX10_simple_241 : decode cX10_simple 241 = .ok (.getfield 32, 3) := by decide +kernel
theorem dX10_simple_244 : decode cX10_simple 244 = .ok (.iload 4, 2) := by decide +kernel
theorem dX10_simple_246 : decode cX10_simple 246 = .ok (.iaload, 1) := by decide +kernel
theorem dX10_simple_247 : decode cX10_simple 247 = .ok (.iastore, 1) := by decide +kernel
theorem dX10_simple_248 : decode cX10_simple 248 = .ok (.aload_n 0, 1) := by decide +kernel
theorem dX10_simple_249 : decode cX10_simple 249 = .ok (.iconst 0, 1) := by decide +kernel
theorem dX10_simple_250 : decode cX10_simple 250 = .ok (.invokevirtual 118, 3) := by decide +kernel
theorem dX10_simple_253 : decode cX10_simple 253 = .ok (.return_, 1) := by decide +kernel
theorem dX10_simple_254 : decode cX10_simple 254 = .ok (.aload_n 0, 1) := by decide +kernel
theorem dX10_simple_255 : decode cX10_simple 255 = .ok (.getfield 35, 3) := by decide +kernel
theorem dX10_simple_258 : decode cX10_simple 258 = .ok (.iload_n 3, 1) := by decide +kernel
theorem dX10_simple_259 : decode cX10_simple 259 = .ok (.iaload, 1) := by decide +kernel
theorem dX10_simple_260 : decode cX10_simple 260 = .ok (.iconst (-1), 1) := by decide +kernel
theorem dX10_simple_261 : decode cX10_simple 261 = .ok (.if_icmp .ne 10, 3) := by decide +kernel
theorem dX10_simple_264 : decode cX10_simple 264 = .ok (.aload_n 0, 1) := by decide +kernel
theorem dX10_simple_265 : decode cX10_simple 265 = .ok (.iconst 1, 1) := by decide +kernel
theorem dX10_simple_266 : decode cX10_simple 266 = .ok (.iconst 0, 1) := by decide +kernel
theorem dX10_simple_267 : decode cX10_simple 267 = .ok (.invokevirtual 149, 3) := by decide +kernel
theorem dX10_simple_270 : decode cX10_simple 270 = .ok (.return_, 1) := by decide +kernel
theorem dX10_simple_271 : decode cX10_simple 271 = .ok (.aload_n 0, 1) := by decide +kernel
theorem dX10_simple_272 : decode cX10_simple 272 = .ok (.getfield 32, 3) := by decide +kernel
theorem dX10_simple_275 : decode cX10_simple 275 = .ok (.iload_n 2, 1) := by decide +kernel
theorem dX10_simple_276 : decode cX10_simple 276 = .ok (.aload_n 0, 1) := by decide +kernel
theorem dX10_simple_277 : decode cX10_simple 277 = .ok (.getfield 41, 3) := by decide +kernel
theorem dX10_simple_280 : decode cX10_simple 280 = .ok (.aload_n 0, 1) := by decide +kernel
theorem dX10_simple_281 : decode cX10_simple 281 = .ok (.getfield 35, 3) := by decide +kernel
theorem dX10_simple_284 : decode cX10_simple 284 = .ok (.iload_n 3, 1) := by decide +kernel
theorem dX10_simple_285 : decode cX10_simple 285 = .ok (.iaload, 1) := by decide +kernel
theorem dX10_simple_286 : decode cX10_simple 286 = .ok (.iaload, 1) := by decide +kernel
theorem dX10_simple_287 : decode cX10_simple 287 = .ok (.iastore, 1) := by decide +kernel
theorem dX10_simple_288 : decode cX10_simple 288 = .ok (.aload_n 0, 1) := by decide +kernel
theorem dX10_simple_289 : decode cX10_simple 289 = .ok (.iconst 0, 1) := by decide +kernel
theorem dX10_simple_290 : decode cX10_simple 290 = .ok (.invokevirtual 118, 3) := by decide +kernel
theorem dX10_simple_293 : decode cX10_simple 293 = .ok (.return_, 1) := by decide +kernel
theorem dX10_simple_294 : decode cX10_simple 294 = .ok (.aload_n 0, 1) := by decide +kernel
theorem dX10_simple_295 : decode cX10_simple 295 = .ok (.getfield 35, 3) := by decide +kernel
theorem dX10_simple_298 : decode cX10_simple 298 = .ok (.iload_n 2, 1) := by decide +kernel
theorem dX10_simple_299 : decode cX10_simple 299 = .ok (.iconst (-1), 1) := by decide +kernel
theorem dX10_simple_300 : decode cX10_simple 300 = .ok (.iastore, 1) := by decide +kernel
theorem dX10_simple_301 : decode cX10_simple 301 = .ok (.aload_n 0, 1) := by decide +kernel
theorem dX10_simple_302 : decode cX10_simple 302 = .ok (.iconst 0, 1) := by decide +kernel
theorem dX10_simple_303 : decode cX10_simple 303 = .ok (.invokevirtual 118, 3) := by decide +kernel
theorem dX10_simple_306 : decode cX10_simple 306 = .ok (.return_, 1) := by decide +kernel
theorem dX10_simple_307 : decode cX10_simple 307 = .ok (.aload_n 0, 1) := by decide +kernel
theorem dX10_simple_308 : decode cX10_simple 308 = .ok (.getfield 35, 3) := by decide +kernel
theorem dX10_simple_311 : decode cX10_simple 311 = .ok (.iload_n 2, 1) := by decide +kernel
theorem dX10_simple_312 : decode cX10_simple 312 = .ok (.aload_n 0, 1) := by decide +kernel
theorem dX10_simple_313 : decode cX10_simple 313 = .ok (.getfield 35, 3) := by decide +kernel
theorem dX10_simple_316 : decode cX10_simple 316 = .ok (.iload_n 3, 1) := by decide +kernel
theorem dX10_simple_317 : decode cX10_simple 317 = .ok (.iaload, 1) := by decide +kernel
theorem dX10_simple_318 : decode cX10_simple 318 = .ok (.iastore, 1) := by decide +kernel
theorem dX10_simple_319 : decode cX10_simple 319 = .ok (.aload_n 0, 1) := by decide +kernel
theorem dX10_simple_320 : decode cX10_simple 320 = .ok (.iconst 0, 1) := by decide +kernel
theorem dX10_simple_321 : decode cX10_simple 321 = .ok (.invokevirtual 118, 3) := by decide +kernel
theorem dX10_simple_324 : decode cX10_simple 324 = .ok (.return_, 1) := by decide +kernel
theorem dX10_simple_325 : decode cX10_simple 325 = .ok (.aload_n 0, 1) := by decide +kernel
theorem dX10_simple_326 : decode cX10_simple 326 = .ok (.aload_n 0, 1) := by decide +kernel
theorem dX10_simple_327 : decode cX10_simple 327 = .ok (.getfield 32, 3) := by decide +kernel
theorem dX10_simple_330 : decode cX10_simple 330 = .ok (.iload_n 2, 1) := by decide +kernel
theorem dX10_simple_331 : decode cX10_simple 331 = .ok (.iaload, 1) := by decide +kernel
theorem dX10_simple_332 : decode cX10_simple 332 = .ok (.putfield 168, 3) := by decide +kernel
theorem dX10_simple_335 : decode cX10_simple 335 = .ok (.aload_n 0, 1) := by decide +kernel
theorem dX10_simple_336 : decode cX10_simple 336 = .ok (.iconst 1, 1) := by decide +kernel
theorem dX10_simple_337 : decode cX10_simple 337 = .ok (.invokevirtual 118, 3) := by decide +kernel
theorem dX10_simple_340 : decode cX10_simple 340 = .ok (.return_, 1) := by decide +kernel
theorem dX10_simple_341 : decode cX10_simple 341 = .ok (.aload_n 0, 1) := by decide +kernel
theorem dX10_simple_342 : decode cX10_simple 342 = .ok (.iconst 5, 1) := by decide +kernel
theorem dX10_simple_343 : decode cX10_simple 343 = .ok (.aload_n 0, 1) := by decide +kernel
theorem dX10_simple_344 : decode cX10_simple 344 = .ok (.getfield 32, 3) := by decide +kernel
theorem dX10_simple_347 : decode cX10_simple 347 = .ok (.iload_n 2, 1) := by decide +kernel
theorem dX10_simple_348 : decode cX10_simple 348 = .ok (.iaload, 1) := by decide +kernel
theorem dX10_simple_349 : decode cX10_simple 349 = .ok (.invokevirtual 149, 3) := by decide +kernel
theorem dX10_simple_352 : decode cX10_simple 352 = .ok (.return_, 1) := by decide +kernel
theorem dX10_simple_353 : decode cX10_simple 353 = .ok (.aload_n 0, 1) := by decide +kernel
theorem dX10_simple_354 : decode cX10_simple 354 = .ok (.getfield 32, 3) := by decide +kernel
theorem dX10_simple_357 : decode cX10_simple 357 = .ok (.iload_n 2, 1) := by decide +kernel
theorem dX10_simple_358 : decode cX10_simple 358 = .ok (.aload_n 0, 1) := by decide +kernel
theorem dX10_simple_359 : decode cX10_simple 359 = .ok (.getfield 168, 3) := by decide +kernel
theorem dX10_simple_362 : decode cX10_simple 362 = .ok (.iastore, 1) := by decide +kernel
theorem dX10_simple_363 : decode cX10_simple 363 = .ok (.aload_n 0, 1) := by decide +kernel
theorem dX10_simple_364 : decode cX10_simple 364 = .ok (.iconst 0, 1) := by decide +kernel
theorem dX10_simple_365 : decode cX10_simple 365 = .ok (.invokevirtual 118, 3) := by decide +kernel
theorem dX10_simple_368 : decode cX10_simple 368 = .ok (.return_, 1) := by decide +kernel
theorem dX10_simple_369 : decode cX10_simple 369 = .ok (.aload_n 0, 1) := by decide +kernel
theorem dX10_simple_370 : decode cX10_simple 370 = .ok (.iload_n 1, 1) := by decide +kernel
theorem dX10_simple_371 : decode cX10_simple 371 = .ok (.invokevirtual 171, 3) := by decide +kernel
theorem dX10_simple_374 : decode cX10_simple 374 = .ok (.return_, 1) := by decide +kernel
theorem dX10_calls_0 : decode cX10_calls 0 = .ok (.aload_n 0, 1) := by decide +kernel
theorem dX10_calls_1 : decode cX10_calls 1 = .ok (.getfield 29, 3) := by decide +kernel
theorem dX10_calls_4 : decode cX10_calls 4 = .ok (.aload_n 0, 1) := by decide +kernel
theorem dX10_calls_5 : decode cX10_calls 5 = .ok (.getfield 17, 3) := by decide +kernel
theorem dX10_calls_8 : decode cX10_calls 8 = .ok (.iload_n 1, 1) := by decide +kernel
theorem dX10_calls_9 : decode cX10_calls 9 = .ok (.iaload, 1) := by decide +kernel
theorem dX10_calls_10 : decode cX10_calls 10 = .ok (.iaload, 1) := by decide +kernel
theorem dX10_calls_11 : decode cX10_calls 11 = .ok (.istore_n 2, 1) := by decide +kernel
theorem dX10_calls_12 : decode cX10_calls 12 = .ok (.aload_n 0, 1) := by decide +kernel
theorem dX10_calls_13 : decode cX10_calls 13 = .ok (.getfield 143, 3) := by decide +kernel
theorem dX10_calls_16 : decode cX10_calls 16 = .ok (.bipush 8, 2) := by decide +kernel
theorem dX10_calls_18 : decode cX10_calls 18 = .ok (.if_icmp .ne 13, 3) := by decide +kernel
theorem dX10_calls_21 : decode cX10_calls 21 = .ok (.aload_n 0, 1) := by decide +kernel
theorem dX10_calls_22 : decode cX10_calls 22 = .ok (.bipush 6, 2) := by decide +kernel
theorem dX10_calls_24 : decode cX10_calls 24 = .ok (.iconst 0, 1) := by decide +kernel
theorem dX10_calls_25 : decode cX10_calls 25 = .ok (.invokevirtual 149, 3) := by decide +kernel
theorem dX10_calls_28 : decode cX10_calls 28 = .ok (.goto 22, 3) := by decide +kernel
theorem dX10_calls_31 : decode cX10_calls 31 = .ok (.iload_n 2, 1) := by decide +kernel
theorem dX10_calls_32 : decode cX10_calls 32 = .ok (.iconst (-1), 1) := by decide +kernel
theorem dX10_calls_33 : decode cX10_calls 33 = .ok (.if_icmp .ne 12, 3) := by decide +kernel
theorem dX10_calls_36 : decode cX10_calls 36 = .ok (.aload_n 0, 1) := by decide +kernel
theorem dX10_calls_37 : decode cX10_calls 37 = .ok (.iconst 1, 1) := by decide +kernel
theorem dX10_calls_38 : decode cX10_calls 38 = .ok (.iconst 0, 1) := by decide +kernel
theorem dX10_calls_39 : decode cX10_calls 39 = .ok (.invokevirtual 149, 3) := by decide +kernel
theorem dX10_calls_42 : decode cX10_calls 42 = .ok (.goto 8, 3) := by decide +kernel
theorem dX10_calls_45 : decode cX10_calls 45 = .ok (.aload_n 0, 1) := by decide +kernel
theorem dX10_calls_46 : decode cX10_calls 46 = .ok (.iload_n 2, 1) := by decide +kernel
theorem dX10_calls_47 : decode cX10_calls 47 = .ok (.invokevirtual 174, 3) := by decide +kernel
theorem dX10_calls_50 : decode cX10_calls 50 = .ok (.return_, 1) := by decide +kernel
theorem dX10_enter_0 : decode cX10_enter 0 = .ok (.aload_n 0, 1) := by decide +kernel
theorem dX10_enter_1 : decode cX10_enter 1 = .ok (.iconst 1, 1) := by decide +kernel
theorem dX10_enter_2 : decode cX10_enter 2 = .ok (.iconst 2, 1) := by decide +kernel
theorem dX10_enter_3 : decode cX10_enter 3 = .ok (.invokevirtual 153, 3) := by decide +kernel
theorem dX10_enter_6 : decode cX10_enter 6 = .ok (.ifCond .ne 4, 3) := by decide +kernel
theorem dX10_enter_9 : decode cX10_enter 9 = .ok (.return_, 1) := by decide +kernel
theorem dX10_enter_10 : decode cX10_enter 10 = .ok (.aload_n 0, 1) := by decide +kernel
theorem dX10_enter_11 : decode cX10_enter 11 = .ok (.dup, 1) := by decide +kernel
theorem dX10_enter_12 : decode cX10_enter 12 = .ok (.getfield 143, 3) := by decide +kernel
theorem dX10_enter_15 : decode cX10_enter 15 = .ok (.iconst 1, 1) := by decide +kernel
theorem dX10_enter_16 : decode cX10_enter 16 = .ok (.iadd, 1) := by decide +kernel
theorem dX10_enter_17 : decode cX10_enter 17 = .ok (.putfield 143, 3) := by decide +kernel
theorem dX10_enter_20 : decode cX10_enter 20 = .ok (.aload_n 0, 1) := by decide +kernel
theorem dX10_enter_21 : decode cX10_enter 21 = .ok (.aload_n 0, 1) := by decide +kernel
theorem dX10_enter_22 : decode cX10_enter 22 = .ok (.getfield 143, 3) := by decide +kernel
theorem dX10_enter_25 : decode cX10_enter 25 = .ok (.aload_n 0, 1) := by decide +kernel
theorem dX10_enter_26 : decode cX10_enter 26 = .ok (.getfield 177, 3) := by decide +kernel
theorem dX10_enter_29 : decode cX10_enter 29 = .ok (.if_icmp .le 10, 3) := by decide +kernel
theorem dX10_enter_32 : decode cX10_enter 32 = .ok (.aload_n 0, 1) := by decide +kernel
theorem dX10_enter_33 : decode cX10_enter 33 = .ok (.getfield 143, 3) := by decide +kernel
theorem dX10_enter_36 : decode cX10_enter 36 = .ok (.goto 7, 3) := by decide +kernel
theorem dX10_enter_39 : decode cX10_enter 39 = .ok (.aload_n 0, 1) := by decide +kernel
theorem dX10_enter_40 : decode cX10_enter 40 = .ok (.getfield 177, 3) := by decide +kernel
theorem dX10_enter_43 : decode cX10_enter 43 = .ok (.putfield 177, 3) := by decide +kernel
theorem dX10_enter_46 : decode cX10_enter 46 = .ok (.aload_n 0, 1) := by decide +kernel
theorem dX10_enter_47 : decode cX10_enter 47 = .ok (.getfield 65, 3) := by decide +kernel
theorem dX10_enter_50 : decode cX10_enter 50 = .ok (.aload_n 0, 1) := by decide +kernel
theorem dX10_enter_51 : decode cX10_enter 51 = .ok (.getfield 106, 3) := by decide +kernel
theorem dX10_enter_54 : decode cX10_enter 54 = .ok (.iconst 1, 1) := by decide +kernel
theorem dX10_enter_55 : decode cX10_enter 55 = .ok (.isub, 1) := by decide +kernel
theorem dX10_enter_56 : decode cX10_enter 56 = .ok (.iconst 1, 1) := by decide +kernel
theorem dX10_enter_57 : decode cX10_enter 57 = .ok (.iastore, 1) := by decide +kernel
theorem dX10_enter_58 : decode cX10_enter 58 = .ok (.aload_n 0, 1) := by decide +kernel
theorem dX10_enter_59 : decode cX10_enter 59 = .ok (.iload_n 1, 1) := by decide +kernel
theorem dX10_enter_60 : decode cX10_enter 60 = .ok (.invokevirtual 180, 3) := by decide +kernel
theorem dX10_enter_63 : decode cX10_enter 63 = .ok (.return_, 1) := by decide +kernel
theorem dX10_locks_0 : decode cX10_locks 0 = .ok (.aload_n 0, 1) := by decide +kernel
theorem dX10_locks_1 : decode cX10_locks 1 = .ok (.getfield 17, 3) := by decide +kernel
theorem dX10_locks_4 : decode cX10_locks 4 = .ok (.iload_n 1, 1) := by decide +kernel
theorem dX10_locks_5 : decode cX10_locks 5 = .ok (.iaload, 1) := by decide +kernel
theorem dX10_locks_6 : decode cX10_locks 6 = .ok (.istore_n 2, 1) := by decide +kernel
theorem dX10_locks_7 : decode cX10_locks 7 = .ok (.aload_n 0, 1) := by decide +kernel
theorem dX10_locks_8 : decode cX10_locks 8 = .ok (.getfield 38, 3) := by decide +kernel
theorem dX10_locks_11 : decode cX10_locks 11 = .ok (.iload_n 2, 1) := by decide +kernel
theorem dX10_locks_12 : decode cX10_locks 12 = .ok (.dup2, 1) := by decide +kernel
theorem dX10_locks_13 : decode cX10_locks 13 = .ok (.iaload, 1) := by decide +kernel
theorem dX10_locks_14 : decode cX10_locks 14 = .ok (.iconst 1, 1) := by decide +kernel
theorem dX10_locks_15 : decode cX10_locks 15 = .ok (.iadd, 1) := by decide +kernel
theorem dX10_locks_16 : decode cX10_locks 16 = .ok (.iastore, 1) := by decide +kernel
theorem dX10_locks_17 : decode cX10_locks 17 = .ok (.aload_n 0, 1) := by decide +kernel
theorem dX10_locks_18 : decode cX10_locks 18 = .ok (.aload_n 0, 1) := by decide +kernel
theorem dX10_locks_19 : decode cX10_locks 19 = .ok (.getfield 38, 3) := by decide +kernel
theorem dX10_locks_22 : decode cX10_locks 22 = .ok (.iload_n 2, 1) := by decide +kernel
theorem dX10_locks_23 : decode cX10_locks 23 = .ok (.iaload, 1) := by decide +kernel
theorem dX10_locks_24 : decode cX10_locks 24 = .ok (.aload_n 0, 1) := by decide +kernel
theorem dX10_locks_25 : decode cX10_locks 25 = .ok (.getfield 183, 3) := by decide +kernel
theorem dX10_locks_28 : decode cX10_locks 28 = .ok (.if_icmp .le 12, 3) := by decide +kernel
theorem dX10_locks_31 : decode cX10_locks 31 = .ok (.aload_n 0, 1) := by decide +kernel
theorem dX10_locks_32 : decode cX10_locks 32 = .ok (.getfield 38, 3) := by decide +kernel
theorem dX10_locks_35 : decode cX10_locks 35 = .ok (.iload_n 2, 1) := by decide +kernel
theorem dX10_locks_36 : decode cX10_locks 36 = .ok (.iaload, 1) := by decide +kernel
theorem dX10_locks_37 : decode cX10_locks 37 = .ok (.goto 7, 3) := by decide +kernel
theorem dX10_locks_40 : decode cX10_locks 40 = .ok (.aload_n 0, 1) := by decide +kernel
theorem dX10_locks_41 : decode cX10_locks 41 = .ok (.getfield 183, 3) := by decide +kernel
theorem dX10_locks_44 : decode cX10_locks 44 = .ok (.putfield 183, 3) := by decide +kernel
theorem dX10_locks_47 : decode cX10_locks 47 = .ok (.aload_n 0, 1) := by decide +kernel
theorem dX10_locks_48 : decode cX10_locks 48 = .ok (.getfield 65, 3) := by decide +kernel
theorem dX10_locks_51 : decode cX10_locks 51 = .ok (.aload_n 0, 1) := by decide +kernel
theorem dX10_locks_52 : decode cX10_locks 52 = .ok (.getfield 106, 3) := by decide +kernel
theorem dX10_locks_55 : decode cX10_locks 55 = .ok (.iconst 1, 1) := by decide +kernel
theorem dX10_locks_56 : decode cX10_locks 56 = .ok (.isub, 1) := by decide +kernel
theorem dX10_locks_57 : decode cX10_locks 57 = .ok (.iconst 1, 1) := by decide +kernel
theorem dX10_locks_58 : decode cX10_locks 58 = .ok (.iastore, 1) := by decide +kernel
theorem dX10_locks_59 : decode cX10_locks 59 = .ok (.aload_n 0, 1) := by decide +kernel
theorem dX10_locks_60 : decode cX10_locks 60 = .ok (.aload_n 0, 1) := by decide +kernel
theorem dX10_locks_61 : decode cX10_locks 61 = .ok (.getfield 20, 3) := by decide +kernel
theorem dX10_locks_64 : decode cX10_locks 64 = .ok (.iload_n 1, 1) := by decide +kernel
theorem dX10_locks_65 : decode cX10_locks 65 = .ok (.iaload, 1) := by decide +kernel
theorem dX10_locks_66 : decode cX10_locks 66 = .ok (.invokevirtual 180, 3) := by decide +kernel
theorem dX10_locks_69 : decode cX10_locks 69 = .ok (.return_, 1) := by decide +kernel
theorem dX10_begin_0 : decode cX10_begin 0 = .ok (.aload_n 0, 1) := by decide +kernel
theorem dX10_begin_1 : decode cX10_begin 1 = .ok (.getfield 62, 3) := by decide +kernel
theorem dX10_begin_4 : decode cX10_begin 4 = .ok (.aload_n 0, 1) := by decide +kernel
theorem dX10_begin_5 : decode cX10_begin 5 = .ok (.getfield 106, 3) := by decide +kernel
theorem dX10_begin_8 : decode cX10_begin 8 = .ok (.iconst 1, 1) := by decide +kernel
theorem dX10_begin_9 : decode cX10_begin 9 = .ok (.isub, 1) := by decide +kernel
theorem dX10_begin_10 : decode cX10_begin 10 = .ok (.iaload, 1) := by decide +kernel
theorem dX10_begin_11 : decode cX10_begin 11 = .ok (.istore_n 1, 1) := by decide +kernel
theorem dX10_begin_12 : decode cX10_begin 12 = .ok (.aload_n 0, 1) := by decide +kernel
theorem dX10_begin_13 : decode cX10_begin 13 = .ok (.getfield 13, 3) := by decide +kernel
theorem dX10_begin_16 : decode cX10_begin 16 = .ok (.iload_n 1, 1) := by decide +kernel
theorem dX10_begin_17 : decode cX10_begin 17 = .ok (.iaload, 1) := by decide +kernel
theorem dX10_begin_18 : decode cX10_begin 18 = .ok (.tableswitch 176 12 20 #[50, 73, 119, 164, 176, 176, 50, 50, 170], 50) := by decide +kernel
theorem dX10_begin_68 : decode cX10_begin 68 = .ok (.aload_n 0, 1) := by decide +kernel
theorem dX10_begin_69 : decode cX10_begin 69 = .ok (.getfield 65, 3) := by decide +kernel
theorem dX10_begin_72 : decode cX10_begin 72 = .ok (.aload_n 0, 1) := by decide +kernel
theorem dX10_begin_73 : decode cX10_begin 73 = .ok (.getfield 106, 3) := by decide +kernel
theorem dX10_begin_76 : decode cX10_begin 76 = .ok (.iconst 1, 1) := by decide +kernel
theorem dX10_begin_77 : decode cX10_begin 77 = .ok (.isub, 1) := by decide +kernel
theorem dX10_begin_78 : decode cX10_begin 78 = .ok (.iconst 1, 1) := by decide +kernel
theorem dX10_begin_79 : decode cX10_begin 79 = .ok (.iastore, 1) := by decide +kernel
theorem dX10_begin_80 : decode cX10_begin 80 = .ok (.aload_n 0, 1) := by decide +kernel
theorem dX10_begin_81 : decode cX10_begin 81 = .ok (.aload_n 0, 1) := by decide +kernel
theorem dX10_begin_82 : decode cX10_begin 82 = .ok (.getfield 17, 3) := by decide +kernel
theorem dX10_begin_85 : decode cX10_begin 85 = .ok (.iload_n 1, 1) := by decide +kernel
theorem dX10_begin_86 : decode cX10_begin 86 = .ok (.iaload, 1) := by decide +kernel
theorem dX10_begin_87 : decode cX10_begin 87 = .ok (.invokevirtual 180, 3) := by decide +kernel
theorem dX10_begin_90 : decode cX10_begin 90 = .ok (.return_, 1) := by decide +kernel
theorem dX10_begin_91 : decode cX10_begin 91 = .ok (.aload_n 0, 1) := by decide +kernel
theorem dX10_begin_92 : decode cX10_begin 92 = .ok (.getfield 65, 3) := by decide +kernel
theorem dX10_begin_95 : decode cX10_begin 95 = .ok (.aload_n 0, 1) := by decide +kernel
theorem dX10_begin_96 : decode cX10_begin 96 = .ok (.getfield 106, 3) := by decide +kernel
theorem dX10_begin_99 : decode cX10_begin 99 = .ok (.iconst 1, 1) := by decide +kernel
theorem dX10_begin_100 : decode cX10_begin 100 = .ok (.isub, 1) := by decide +kernel
theorem dX10_begin_101 : decode cX10_begin 101 = .ok (.iconst 1, 1) := by decide +kernel
theorem dX10_begin_102 : decode cX10_begin 102 = .ok (.iastore, 1) := by decide +kernel
theorem dX10_begin_103 : decode cX10_begin 103 = .ok (.aload_n 0, 1) := by decide +kernel
theorem dX10_begin_104 : decode cX10_begin 104 = .ok (.aload_n 0, 1) := by decide +kernel
theorem dX10_begin_105 : decode cX10_begin 105 = .ok (.getfield 32, 3) := by decide +kernel
theorem dX10_begin_108 : decode cX10_begin 108 = .ok (.aload_n 0, 1) := by decide +kernel
theorem dX10_begin_109 : decode cX10_begin 109 = .ok (.getfield 17, 3) := by decide +kernel
theorem dX10_begin_112 : decode cX10_begin 112 = .ok (.iload_n 1, 1) := by decide +kernel
theorem dX10_begin_113 : decode cX10_begin 113 = .ok (.iaload, 1) := by decide +kernel
theorem dX10_begin_114 : decode cX10_begin 114 = .ok (.iaload, 1) := by decide +kernel
theorem dX10_begin_115 : decode cX10_begin 115 = .ok (.ifCond .eq 12, 3) := by decide +kernel
theorem dX10_begin_118 : decode cX10_begin 118 = .ok (.aload_n 0, 1) := by decide +kernel
theorem dX10_begin_119 : decode cX10_begin 119 = .ok (.getfield 20, 3) := by decide +kernel
theorem dX10_begin_122 : decode cX10_begin 122 = .ok (.iload_n 1, 1) := by decide +kernel
theorem dX10_begin_123 : decode cX10_begin 123 = .ok (.iaload, 1) := by decide +kernel
theorem dX10_begin_124 : decode cX10_begin 124 = .ok (.goto 9, 3) := by decide +kernel
theorem dX10_begin_127 : decode cX10_begin 127 = .ok (.aload_n 0, 1) := by decide +kernel
theorem dX10_begin_128 : decode cX10_begin 128 = .ok (.getfield 23, 3) := by decide +kernel
theorem dX10_begin_131 : decode cX10_begin 131 = .ok (.iload_n 1, 1) := by decide +kernel
theorem dX10_begin_132 : decode cX10_begin 132 = .ok (.iaload, 1) := by decide +kernel
theorem dX10_begin_133 : decode cX10_begin 133 = .ok (.invokevirtual 180, 3) := by decide +kernel
theorem dX10_begin_136 : decode cX10_begin 136 = .ok (.return_, 1) := by decide +kernel
theorem dX10_begin_137 : decode cX10_begin 137 = .ok (.aload_n 0, 1) := by decide +kernel
theorem dX10_begin_138 : decode cX10_begin 138 = .ok (.getfield 32, 3) := by decide +kernel
theorem dX10_begin_141 : decode cX10_begin 141 = .ok (.aload_n 0, 1) := by decide +kernel
theorem dX10_begin_142 : decode cX10_begin 142 = .ok (.getfield 17, 3) := by decide +kernel
theorem dX10_begin_145 : decode cX10_begin 145 = .ok (.iload_n 1, 1) := by decide +kernel
theorem dX10_begin_146 : decode cX10_begin 146 = .ok (.iaload, 1) := by decide +kernel
theorem dX10_begin_147 : decode cX10_begin 147 = .ok (.iaload, 1) := by decide +kernel
theorem dX10_begin_148 : decode cX10_begin 148 = .ok (.ifCond .ne 11, 3) := by decide +kernel
theorem dX10_begin_151 : decode cX10_begin 151 = .ok (.aload_n 0, 1) := by decide +kernel
theorem dX10_begin_152 : decode cX10_begin 152 = .ok (.iconst 0, 1) := by decide +kernel
theorem dX10_begin_153 : decode cX10_begin 153 = .ok (.invokevirtual 118, 3) := by decide +kernel
theorem dX10_begin_156 : decode cX10_begin 156 = .ok (.goto 25, 3) := by decide +kernel
theorem dX10_begin_159 : decode cX10_begin 159 = .ok (.aload_n 0, 1) := by decide +kernel
theorem dX10_begin_160 : decode cX10_begin 160 = .ok (.getfield 65, 3) := by decide +kernel
theorem dX10_begin_163 : decode cX10_begin 163 = .ok (.aload_n 0, 1) := by decide +kernel
theorem dX10_begin_164 : decode cX10_begin 164 = .ok (.getfield 106, 3) := by decide +kernel
theorem dX10_begin_167 : decode cX10_begin 167 = .ok (.iconst 1, 1) := by decide +kernel
theorem dX10_begin_168 : decode cX10_begin 168 = .ok (.isub, 1) := by decide +kernel
theorem dX10_begin_169 : decode cX10_begin 169 = .ok (.iconst 1, 1) := by decide +kernel
theorem dX10_begin_170 : decode cX10_begin 170 = .ok (.iastore, 1) := by decide +kernel
theorem dX10_begin_171 : decode cX10_begin 171 = .ok (.aload_n 0, 1) := by decide +kernel
theorem dX10_begin_172 : decode cX10_begin 172 = .ok (.aload_n 0, 1) := by decide +kernel
theorem dX10_begin_173 : decode cX10_begin 173 = .ok (.getfield 20, 3) := by decide +kernel
theorem dX10_begin_176 : decode cX10_begin 176 = .ok (.iload_n 1, 1) := by decide +kernel
theorem dX10_begin_177 : decode cX10_begin 177 = .ok (.iaload, 1) := by decide +kernel
theorem dX10_begin_178 : decode cX10_begin 178 = .ok (.invokevirtual 180, 3) := by decide +kernel
theorem dX10_begin_181 : decode cX10_begin 181 = .ok (.return_, 1) := by decide +kernel
theorem dX10_begin_182 : decode cX10_begin 182 = .ok (.aload_n 0, 1) := by decide +kernel
theorem dX10_begin_183 : decode cX10_begin 183 = .ok (.iload_n 1, 1) := by decide +kernel
theorem dX10_begin_184 : decode cX10_begin 184 = .ok (.invokevirtual 186, 3) := by decide +kernel
theorem dX10_begin_187 : decode cX10_begin 187 = .ok (.return_, 1) := by decide +kernel
theorem dX10_begin_188 : decode cX10_begin 188 = .ok (.aload_n 0, 1) := by decide +kernel
theorem dX10_begin_189 : decode cX10_begin 189 = .ok (.iload_n 1, 1) := by decide +kernel
theorem dX10_begin_190 : decode cX10_begin 190 = .ok (.invokevirtual 189, 3) := by decide +kernel
theorem dX10_begin_193 : decode cX10_begin 193 = .ok (.return_, 1) := by decide +kernel
theorem dX10_begin_194 : decode cX10_begin 194 = .ok (.aload_n 0, 1) := by decide +kernel
theorem dX10_begin_195 : decode cX10_begin 195 = .ok (.iload_n 1, 1) := by decide +kernel
theorem dX10_begin_196 : decode cX10_begin 196 = .ok (.invokevirtual 192, 3) := by decide +kernel
theorem dX10_begin_199 : decode cX10_begin 199 = .ok (.return_, 1) := by decide +kernel
theorem dX10_second_0 : decode cX10_second 0 = .ok (.aload_n 0, 1) := by decide +kernel
theorem dX10_second_1 : decode cX10_second 1 = .ok (.getfield 65, 3) := by decide +kernel
theorem dX10_second_4 : decode cX10_second 4 = .ok (.aload_n 0, 1) := by decide +kernel
theorem dX10_second_5 : decode cX10_second 5 = .ok (.getfield 106, 3) := by decide +kernel
theorem dX10_second_8 : decode cX10_second 8 = .ok (.iconst 1, 1) := by decide +kernel
theorem dX10_second_9 : decode cX10_second 9 = .ok (.isub, 1) := by decide +kernel
theorem dX10_second_10 : decode cX10_second 10 = .ok (.iconst 2, 1) := by decide +kernel
theorem dX10_second_11 : decode cX10_second 11 = .ok (.iastore, 1) := by decide +kernel
theorem dX10_second_12 : decode cX10_second 12 = .ok (.aload_n 0, 1) := by decide +kernel
theorem dX10_second_13 : decode cX10_second 13 = .ok (.iload_n 1, 1) := by decide +kernel
theorem dX10_second_14 : decode cX10_second 14 = .ok (.invokevirtual 180, 3) := by decide +kernel
theorem dX10_second_17 : decode cX10_second 17 = .ok (.return_, 1) := by decide +kernel
theorem dX10_handles_0 : decode cX10_handles 0 = .ok (.aload_n 0, 1) := by decide +kernel
theorem dX10_handles_1 : decode cX10_handles 1 = .ok (.getfield 65, 3) := by decide +kernel
theorem dX10_handles_4 : decode cX10_handles 4 = .ok (.aload_n 0, 1) := by decide +kernel
theorem dX10_handles_5 : decode cX10_handles 5 = .ok (.getfield 106, 3) := by decide +kernel
theorem dX10_handles_8 : decode cX10_handles 8 = .ok (.iconst 1, 1) := by decide +kernel
theorem dX10_handles_9 : decode cX10_handles 9 = .ok (.isub, 1) := by decide +kernel
theorem dX10_handles_10 : decode cX10_handles 10 = .ok (.iaload, 1) := by decide +kernel
theorem dX10_handles_11 : decode cX10_handles 11 = .ok (.iconst 1, 1) := by decide +kernel
theorem dX10_handles_12 : decode cX10_handles 12 = .ok (.if_icmp .ne 32, 3) := by decide +kernel
theorem dX10_handles_15 : decode cX10_handles 15 = .ok (.aload_n 0, 1) := by decide +kernel
theorem dX10_handles_16 : decode cX10_handles 16 = .ok (.getfield 109, 3) := by decide +kernel
theorem dX10_handles_19 : decode cX10_handles 19 = .ok (.iconst 2, 1) := by decide +kernel
theorem dX10_handles_20 : decode cX10_handles 20 = .ok (.if_icmp .ne 24, 3) := by decide +kernel
theorem dX10_handles_23 : decode cX10_handles 23 = .ok (.aload_n 0, 1) := by decide +kernel
theorem dX10_handles_24 : decode cX10_handles 24 = .ok (.getfield 20, 3) := by decide +kernel
theorem dX10_handles_27 : decode cX10_handles 27 = .ok (.iload_n 1, 1) := by decide +kernel
theorem dX10_handles_28 : decode cX10_handles 28 = .ok (.iaload, 1) := by decide +kernel
theorem dX10_handles_29 : decode cX10_handles 29 = .ok (.aload_n 0, 1) := by decide +kernel
theorem dX10_handles_30 : decode cX10_handles 30 = .ok (.getfield 112, 3) := by decide +kernel
theorem dX10_handles_33 : decode cX10_handles 33 = .ok (.ishr, 1) := by decide +kernel
theorem dX10_handles_34 : decode cX10_handles 34 = .ok (.iconst 1, 1) := by decide +kernel
theorem dX10_handles_35 : decode cX10_handles 35 = .ok (.iand, 1) := by decide +kernel
theorem dX10_handles_36 : decode cX10_handles 36 = .ok (.iconst 1, 1) := by decide +kernel
theorem dX10_handles_37 : decode cX10_handles 37 = .ok (.if_icmp .ne 7, 3) := by decide +kernel
theorem dX10_handles_40 : decode cX10_handles 40 = .ok (.iconst 1, 1) := by decide +kernel
theorem dX10_handles_41 : decode cX10_handles 41 = .ok (.goto 4, 3) := by decide +kernel
theorem dX10_handles_44 : decode cX10_handles 44 = .ok (.iconst 0, 1) := by decide +kernel
theorem dX10_handles_45 : decode cX10_handles 45 = .ok (.istore_n 2, 1) := by decide +kernel
theorem dX10_handles_46 : decode cX10_handles 46 = .ok (.iload_n 2, 1) := by decide +kernel
theorem dX10_handles_47 : decode cX10_handles 47 = .ok (.ifCond .ne 14, 3) := by decide +kernel
theorem dX10_handles_50 : decode cX10_handles 50 = .ok (.aload_n 0, 1) := by decide +kernel
theorem dX10_handles_51 : decode cX10_handles 51 = .ok (.dup, 1) := by decide +kernel
theorem dX10_handles_52 : decode cX10_handles 52 = .ok (.getfield 106, 3) := by decide +kernel
theorem dX10_handles_55 : decode cX10_handles 55 = .ok (.iconst 1, 1) := by decide +kernel
theorem dX10_handles_56 : decode cX10_handles 56 = .ok (.isub, 1) := by decide +kernel
theorem dX10_handles_57 : decode cX10_handles 57 = .ok (.putfield 106, 3) := by decide +kernel
theorem dX10_handles_60 : decode cX10_handles 60 = .ok (.return_, 1) := by decide +kernel
theorem dX10_handles_61 : decode cX10_handles 61 = .ok (.aload_n 0, 1) := by decide +kernel
theorem dX10_handles_62 : decode cX10_handles 62 = .ok (.iconst 2, 1) := by decide +kernel
theorem dX10_handles_63 : decode cX10_handles 63 = .ok (.bipush 10, 2) := by decide +kernel
theorem dX10_handles_65 : decode cX10_handles 65 = .ok (.invokevirtual 153, 3) := by decide +kernel
theorem dX10_handles_68 : decode cX10_handles 68 = .ok (.ifCond .ne 4, 3) := by decide +kernel
theorem dX10_handles_71 : decode cX10_handles 71 = .ok (.return_, 1) := by decide +kernel
theorem dX10_handles_72 : decode cX10_handles 72 = .ok (.aload_n 0, 1) := by decide +kernel
theorem dX10_handles_73 : decode cX10_handles 73 = .ok (.getfield 32, 3) := by decide +kernel
theorem dX10_handles_76 : decode cX10_handles 76 = .ok (.bipush 7, 2) := by decide +kernel
theorem dX10_handles_78 : decode cX10_handles 78 = .ok (.aload_n 0, 1) := by decide +kernel
theorem dX10_handles_79 : decode cX10_handles 79 = .ok (.getfield 112, 3) := by decide +kernel
theorem dX10_handles_82 : decode cX10_handles 82 = .ok (.iconst 5, 1) := by decide +kernel
theorem dX10_handles_83 : decode cX10_handles 83 = .ok (.if_icmp .ne 13, 3) := by decide +kernel
theorem dX10_handles_86 : decode cX10_handles 86 = .ok (.bipush 100, 2) := by decide +kernel
theorem dX10_handles_88 : decode cX10_handles 88 = .ok (.aload_n 0, 1) := by decide +kernel
theorem dX10_handles_89 : decode cX10_handles 89 = .ok (.getfield 115, 3) := by decide +kernel
theorem dX10_handles_92 : decode cX10_handles 92 = .ok (.iadd, 1) := by decide +kernel
theorem dX10_handles_93 : decode cX10_handles 93 = .ok (.goto 7, 3) := by decide +kernel
theorem dX10_handles_96 : decode cX10_handles 96 = .ok (.aload_n 0, 1) := by decide +kernel
theorem dX10_handles_97 : decode cX10_handles 97 = .ok (.getfield 112, 3) := by decide +kernel
theorem dX10_handles_100 : decode cX10_handles 100 = .ok (.iastore, 1) := by decide +kernel
theorem dX10_handles_101 : decode cX10_handles 101 = .ok (.aload_n 0, 1) := by decide +kernel
theorem dX10_handles_102 : decode cX10_handles 102 = .ok (.iload_n 1, 1) := by decide +kernel
theorem dX10_handles_103 : decode cX10_handles 103 = .ok (.invokevirtual 195, 3) := by decide +kernel
theorem dX10_handles_106 : decode cX10_handles 106 = .ok (.aload_n 0, 1) := by decide +kernel
theorem dX10_handles_107 : decode cX10_handles 107 = .ok (.aload_n 0, 1) := by decide +kernel
theorem dX10_handles_108 : decode cX10_handles 108 = .ok (.getfield 23, 3) := by decide +kernel
theorem dX10_handles_111 : decode cX10_handles 111 = .ok (.iload_n 1, 1) := by decide +kernel
theorem dX10_handles_112 : decode cX10_handles 112 = .ok (.iaload, 1) := by decide +kernel
theorem dX10_handles_113 : decode cX10_handles 113 = .ok (.invokevirtual 198, 3) := by decide +kernel
theorem dX10_handles_116 : decode cX10_handles 116 = .ok (.return_, 1) := by decide +kernel
theorem dX10_finalOf_0 : decode cX10_finalOf 0 = .ok (.aload_n 0, 1) := by decide +kernel
theorem dX10_finalOf_1 : decode cX10_finalOf 1 = .ok (.getfield 106, 3) := by decide +kernel
theorem dX10_finalOf_4 : decode cX10_finalOf 4 = .ok (.iconst 1, 1) := by decide +kernel
theorem dX10_finalOf_5 : decode cX10_finalOf 5 = .ok (.isub, 1) := by decide +kernel
theorem dX10_finalOf_6 : decode cX10_finalOf 6 = .ok (.istore_n 2, 1) := by decide +kernel
theorem dX10_finalOf_7 : decode cX10_finalOf 7 = .ok (.aload_n 0, 1) := by decide +kernel
theorem dX10_finalOf_8 : decode cX10_finalOf 8 = .ok (.getfield 68, 3) := by decide +kernel
theorem dX10_finalOf_11 : decode cX10_finalOf 11 = .ok (.iload_n 2, 1) := by decide +kernel
theorem dX10_finalOf_12 : decode cX10_finalOf 12 = .ok (.aload_n 0, 1) := by decide +kernel
theorem dX10_finalOf_13 : decode cX10_finalOf 13 = .ok (.getfield 109, 3) := by decide +kernel
theorem dX10_finalOf_16 : decode cX10_finalOf 16 = .ok (.iastore, 1) := by decide +kernel
theorem dX10_finalOf_17 : decode cX10_finalOf 17 = .ok (.aload_n 0, 1) := by decide +kernel
theorem dX10_finalOf_18 : decode cX10_finalOf 18 = .ok (.getfield 71, 3) := by decide +kernel
theorem dX10_finalOf_21 : decode cX10_finalOf 21 = .ok (.iload_n 2, 1) := by decide +kernel
theorem dX10_finalOf_22 : decode cX10_finalOf 22 = .ok (.aload_n 0, 1) := by decide +kernel
theorem dX10_finalOf_23 : decode cX10_finalOf 23 = .ok (.getfield 112, 3) := by decide +kernel
theorem dX10_finalOf_26 : decode cX10_finalOf 26 = .ok (.iastore, 1) := by decide +kernel
theorem dX10_finalOf_27 : decode cX10_finalOf 27 = .ok (.aload_n 0, 1) := by decide +kernel
theorem dX10_finalOf_28 : decode cX10_finalOf 28 = .ok (.getfield 74, 3) := by decide +kernel
theorem dX10_finalOf_31 : decode cX10_finalOf 31 = .ok (.iload_n 2, 1) := by decide +kernel
theorem dX10_finalOf_32 : decode cX10_finalOf 32 = .ok (.aload_n 0, 1) := by decide +kernel
theorem dX10_finalOf_33 : decode cX10_finalOf 33 = .ok (.getfield 115, 3) := by decide +kernel
theorem dX10_finalOf_36 : decode cX10_finalOf 36 = .ok (.iastore, 1) := by decide +kernel
theorem dX10_finalOf_37 : decode cX10_finalOf 37 = .ok (.aload_n 0, 1) := by decide +kernel
theorem dX10_finalOf_38 : decode cX10_finalOf 38 = .ok (.getfield 109, 3) := by decide +kernel
theorem dX10_finalOf_41 : decode cX10_finalOf 41 = .ok (.iconst 3, 1) := by decide +kernel
theorem dX10_finalOf_42 : decode cX10_finalOf 42 = .ok (.if_icmp .ne 28, 3) := by decide +kernel
theorem dX10_finalOf_45 : decode cX10_finalOf 45 = .ok (.aload_n 0, 1) := by decide +kernel
theorem dX10_finalOf_46 : decode cX10_finalOf 46 = .ok (.getfield 128, 3) := by decide +kernel
theorem dX10_finalOf_49 : decode cX10_finalOf 49 = .ok (.bipush 10, 2) := by decide +kernel
theorem dX10_finalOf_51 : decode cX10_finalOf 51 = .ok (.if_icmp .ge 14, 3) := by decide +kernel
theorem dX10_finalOf_54 : decode cX10_finalOf 54 = .ok (.aload_n 0, 1) := by decide +kernel
theorem dX10_finalOf_55 : decode cX10_finalOf 55 = .ok (.dup, 1) := by decide +kernel
theorem dX10_finalOf_56 : decode cX10_finalOf 56 = .ok (.getfield 106, 3) := by decide +kernel
theorem dX10_finalOf_59 : decode cX10_finalOf 59 = .ok (.iconst 1, 1) := by decide +kernel
theorem dX10_finalOf_60 : decode cX10_finalOf 60 = .ok (.isub, 1) := by decide +kernel
theorem dX10_finalOf_61 : decode cX10_finalOf 61 = .ok (.putfield 106, 3) := by decide +kernel
theorem dX10_finalOf_64 : decode cX10_finalOf 64 = .ok (.return_, 1) := by decide +kernel
theorem dX10_finalOf_65 : decode cX10_finalOf 65 = .ok (.aload_n 0, 1) := by decide +kernel
theorem dX10_finalOf_66 : decode cX10_finalOf 66 = .ok (.iload_n 2, 1) := by decide +kernel
theorem dX10_finalOf_67 : decode cX10_finalOf 67 = .ok (.putfield 122, 3) := by decide +kernel
theorem dX10_finalOf_70 : decode cX10_finalOf 70 = .ok (.aload_n 0, 1) := by decide +kernel
theorem dX10_finalOf_71 : decode cX10_finalOf 71 = .ok (.iconst 3, 1) := by decide +kernel
theorem dX10_finalOf_72 : decode cX10_finalOf 72 = .ok (.bipush 10, 2) := by decide +kernel
theorem dX10_finalOf_74 : decode cX10_finalOf 74 = .ok (.invokevirtual 153, 3) := by decide +kernel
theorem dX10_finalOf_77 : decode cX10_finalOf 77 = .ok (.ifCond .ne 4, 3) := by decide +kernel
theorem dX10_finalOf_80 : decode cX10_finalOf 80 = .ok (.return_, 1) := by decide +kernel
theorem dX10_finalOf_81 : decode cX10_finalOf 81 = .ok (.aload_n 0, 1) := by decide +kernel
theorem dX10_finalOf_82 : decode cX10_finalOf 82 = .ok (.iload_n 1, 1) := by decide +kernel
theorem dX10_finalOf_83 : decode cX10_finalOf 83 = .ok (.invokevirtual 195, 3) := by decide +kernel
theorem dX10_finalOf_86 : decode cX10_finalOf 86 = .ok (.aload_n 0, 1) := by decide +kernel
theorem dX10_finalOf_87 : decode cX10_finalOf 87 = .ok (.aload_n 0, 1) := by decide +kernel
theorem dX10_finalOf_88 : decode cX10_finalOf 88 = .ok (.getfield 20, 3) := by decide +kernel
theorem dX10_finalOf_91 : decode cX10_finalOf 91 = .ok (.iload_n 1, 1) := by decide +kernel
theorem dX10_finalOf_92 : decode cX10_finalOf 92 = .ok (.iaload, 1) := by decide +kernel
theorem dX10_finalOf_93 : decode cX10_finalOf 93 = .ok (.invokevirtual 198, 3) := by decide +kernel
theorem dX10_finalOf_96 : decode cX10_finalOf 96 = .ok (.return_, 1) := by decide +kernel
theorem dX10_lastDone_0 : decode cX10_lastDone 0 = .ok (.aload_n 0, 1) := by decide +kernel
theorem dX10_lastDone_1 : decode cX10_lastDone 1 = .ok (.getfield 106, 3) := by decide +kernel
theorem dX10_lastDone_4 : decode cX10_lastDone 4 = .ok (.iconst 1, 1) := by decide +kernel
theorem dX10_lastDone_5 : decode cX10_lastDone 5 = .ok (.isub, 1) := by decide +kernel
theorem dX10_lastDone_6 : decode cX10_lastDone 6 = .ok (.istore_n 1, 1) := by decide +kernel
theorem dX10_lastDone_7 : decode cX10_lastDone 7 = .ok (.aload_n 0, 1) := by decide +kernel
theorem dX10_lastDone_8 : decode cX10_lastDone 8 = .ok (.getfield 122, 3) := by decide +kernel
theorem dX10_lastDone_11 : decode cX10_lastDone 11 = .ok (.iload_n 1, 1) := by decide +kernel
theorem dX10_lastDone_12 : decode cX10_lastDone 12 = .ok (.if_icmp .ne 14, 3) := by decide +kernel
theorem dX10_lastDone_15 : decode cX10_lastDone 15 = .ok (.aload_n 0, 1) := by decide +kernel
theorem dX10_lastDone_16 : decode cX10_lastDone 16 = .ok (.iconst (-1), 1) := by decide +kernel
theorem dX10_lastDone_17 : decode cX10_lastDone 17 = .ok (.putfield 122, 3) := by decide +kernel
theorem dX10_lastDone_20 : decode cX10_lastDone 20 = .ok (.aload_n 0, 1) := by decide +kernel
theorem dX10_lastDone_21 : decode cX10_lastDone 21 = .ok (.iconst 3, 1) := by decide +kernel
theorem dX10_lastDone_22 : decode cX10_lastDone 22 = .ok (.invokevirtual 118, 3) := by decide +kernel
theorem dX10_lastDone_25 : decode cX10_lastDone 25 = .ok (.return_, 1) := by decide +kernel
theorem dX10_lastDone_26 : decode cX10_lastDone 26 = .ok (.aload_n 0, 1) := by decide +kernel
theorem dX10_lastDone_27 : decode cX10_lastDone 27 = .ok (.getfield 109, 3) := by decide +kernel
theorem dX10_lastDone_30 : decode cX10_lastDone 30 = .ok (.ifCond .ne 7, 3) := by decide +kernel
theorem dX10_lastDone_33 : decode cX10_lastDone 33 = .ok (.iconst 1, 1) := by decide +kernel
theorem dX10_lastDone_34 : decode cX10_lastDone 34 = .ok (.goto 4, 3) := by decide +kernel
theorem dX10_lastDone_37 : decode cX10_lastDone 37 = .ok (.iconst 0, 1) := by decide +kernel
theorem dX10_lastDone_38 : decode cX10_lastDone 38 = .ok (.istore_n 2, 1) := by decide +kernel
theorem dX10_lastDone_39 : decode cX10_lastDone 39 = .ok (.iload_n 2, 1) := by decide +kernel
theorem dX10_lastDone_40 : decode cX10_lastDone 40 = .ok (.ifCond .eq 12, 3) := by decide +kernel
theorem dX10_lastDone_43 : decode cX10_lastDone 43 = .ok (.aload_n 0, 1) := by decide +kernel
theorem dX10_lastDone_44 : decode cX10_lastDone 44 = .ok (.getfield 68, 3) := by decide +kernel
theorem dX10_lastDone_47 : decode cX10_lastDone 47 = .ok (.iload_n 1, 1) := by decide +kernel
theorem dX10_lastDone_48 : decode cX10_lastDone 48 = .ok (.iaload, 1) := by decide +kernel
theorem dX10_lastDone_49 : decode cX10_lastDone 49 = .ok (.goto 7, 3) := by decide +kernel
theorem dX10_lastDone_52 : decode cX10_lastDone 52 = .ok (.aload_n 0, 1) := by decide +kernel
theorem dX10_lastDone_53 : decode cX10_lastDone 53 = .ok (.getfield 109, 3) := by decide +kernel
theorem dX10_lastDone_56 : decode cX10_lastDone 56 = .ok (.istore_n 3, 1) := by decide +kernel
theorem dX10_lastDone_57 : decode cX10_lastDone 57 = .ok (.aload_n 0, 1) := by decide +kernel
theorem dX10_lastDone_58 : decode cX10_lastDone 58 = .ok (.iload_n 2, 1) := by decide +kernel
theorem dX10_lastDone_59 : decode cX10_lastDone 59 = .ok (.ifCond .eq 12, 3) := by decide +kernel
theorem dX10_lastDone_62 : decode cX10_lastDone 62 = .ok (.aload_n 0, 1) := by decide +kernel
theorem dX10_lastDone_63 : decode cX10_lastDone 63 = .ok (.getfield 71, 3) := by decide +kernel
theorem dX10_lastDone_66 : decode cX10_lastDone 66 = .ok (.iload_n 1, 1) := by decide +kernel
theorem dX10_lastDone_67 : decode cX10_lastDone 67 = .ok (.iaload, 1) := by decide +kernel
theorem dX10_lastDone_68 : decode cX10_lastDone 68 = .ok (.goto 7, 3) := by decide +kernel
theorem dX10_lastDone_71 : decode cX10_lastDone 71 = .ok (.aload_n 0, 1) := by decide +kernel
theorem dX10_lastDone_72 : decode cX10_lastDone 72 = .ok (.getfield 112, 3) := by decide +kernel
theorem dX10_lastDone_75 : decode cX10_lastDone 75 = .ok (.putfield 112, 3) := by decide +kernel
theorem dX10_lastDone_78 : decode cX10_lastDone 78 = .ok (.aload_n 0, 1) := by decide +kernel
theorem dX10_lastDone_79 : decode cX10_lastDone 79 = .ok (.iload_n 2, 1) := by decide +kernel
theorem dX10_lastDone_80 : decode cX10_lastDone 80 = .ok (.ifCond .eq 12, 3) := by decide +kernel
theorem dX10_lastDone_83 : decode cX10_lastDone 83 = .ok (.aload_n 0, 1) := by decide +kernel
theorem dX10_lastDone_84 : decode cX10_lastDone 84 = .ok (.getfield 74, 3) := by decide +kernel
theorem dX10_lastDone_87 : decode cX10_lastDone 87 = .ok (.iload_n 1, 1) := by decide +kernel
theorem dX10_lastDone_88 : decode cX10_lastDone 88 = .ok (.iaload, 1) := by decide +kernel
theorem dX10_lastDone_89 : decode cX10_lastDone 89 = .ok (.goto 7, 3) := by decide +kernel
theorem dX10_lastDone_92 : decode cX10_lastDone 92 = .ok (.aload_n 0, 1) := by decide +kernel
theorem dX10_lastDone_93 : decode cX10_lastDone 93 = .ok (.getfield 115, 3) := by decide +kernel
theorem dX10_lastDone_96 : decode cX10_lastDone 96 = .ok (.putfield 115, 3) := by decide +kernel
theorem dX10_lastDone_99 : decode cX10_lastDone 99 = .ok (.aload_n 0, 1) := by decide +kernel
theorem dX10_lastDone_100 : decode cX10_lastDone 100 = .ok (.iload_n 3, 1) := by decide +kernel
theorem dX10_lastDone_101 : decode cX10_lastDone 101 = .ok (.invokevirtual 118, 3) := by decide +kernel
theorem dX10_lastDone_104 : decode cX10_lastDone 104 = .ok (.return_, 1) := by decide +kernel
theorem dX10_tell_0 : decode cX10_tell 0 = .ok (.aload_n 0, 1) := by decide +kernel
theorem dX10_tell_1 : decode cX10_tell 1 = .ok (.getfield 106, 3) := by decide +kernel
theorem dX10_tell_4 : decode cX10_tell 4 = .ok (.iconst 1, 1) := by decide +kernel
theorem dX10_tell_5 : decode cX10_tell 5 = .ok (.isub, 1) := by decide +kernel
theorem dX10_tell_6 : decode cX10_tell 6 = .ok (.istore_n 1, 1) := by decide +kernel
theorem dX10_tell_7 : decode cX10_tell 7 = .ok (.aload_n 0, 1) := by decide +kernel
theorem dX10_tell_8 : decode cX10_tell 8 = .ok (.getfield 62, 3) := by decide +kernel
theorem dX10_tell_11 : decode cX10_tell 11 = .ok (.iload_n 1, 1) := by decide +kernel
theorem dX10_tell_12 : decode cX10_tell 12 = .ok (.iaload, 1) := by decide +kernel
theorem dX10_tell_13 : decode cX10_tell 13 = .ok (.istore_n 2, 1) := by decide +kernel
theorem dX10_tell_14 : decode cX10_tell 14 = .ok (.aload_n 0, 1) := by decide +kernel
theorem dX10_tell_15 : decode cX10_tell 15 = .ok (.getfield 13, 3) := by decide +kernel
theorem dX10_tell_18 : decode cX10_tell 18 = .ok (.iload_n 2, 1) := by decide +kernel
theorem dX10_tell_19 : decode cX10_tell 19 = .ok (.iaload, 1) := by decide +kernel
theorem dX10_tell_20 : decode cX10_tell 20 = .ok (.tableswitch 199 12 20 #[52, 199, 93, 128, 199, 199, 154, 160, 183], 52) := by decide +kernel
theorem dX10_tell_72 : decode cX10_tell 72 = .ok (.aload_n 0, 1) := by decide +kernel
theorem dX10_tell_73 : decode cX10_tell 73 = .ok (.getfield 65, 3) := by decide +kernel
theorem dX10_tell_76 : decode cX10_tell 76 = .ok (.iload_n 1, 1) := by decide +kernel
theorem dX10_tell_77 : decode cX10_tell 77 = .ok (.iaload, 1) := by decide +kernel
theorem dX10_tell_78 : decode cX10_tell 78 = .ok (.iconst 1, 1) := by decide +kernel
theorem dX10_tell_79 : decode cX10_tell 79 = .ok (.if_icmp .ne 23, 3) := by decide +kernel
theorem dX10_tell_82 : decode cX10_tell 82 = .ok (.aload_n 0, 1) := by decide +kernel
theorem dX10_tell_83 : decode cX10_tell 83 = .ok (.getfield 109, 3) := by decide +kernel
theorem dX10_tell_86 : decode cX10_tell 86 = .ok (.ifCond .ne 16, 3) := by decide +kernel
theorem dX10_tell_89 : decode cX10_tell 89 = .ok (.aload_n 0, 1) := by decide +kernel
theorem dX10_tell_90 : decode cX10_tell 90 = .ok (.aload_n 0, 1) := by decide +kernel
theorem dX10_tell_91 : decode cX10_tell 91 = .ok (.getfield 20, 3) := by decide +kernel
theorem dX10_tell_94 : decode cX10_tell 94 = .ok (.iload_n 2, 1) := by decide +kernel
theorem dX10_tell_95 : decode cX10_tell 95 = .ok (.iaload, 1) := by decide +kernel
theorem dX10_tell_96 : decode cX10_tell 96 = .ok (.invokevirtual 198, 3) := by decide +kernel
theorem dX10_tell_99 : decode cX10_tell 99 = .ok (.goto 13, 3) := by decide +kernel
theorem dX10_tell_102 : decode cX10_tell 102 = .ok (.aload_n 0, 1) := by decide +kernel
theorem dX10_tell_103 : decode cX10_tell 103 = .ok (.dup, 1) := by decide +kernel
theorem dX10_tell_104 : decode cX10_tell 104 = .ok (.getfield 106, 3) := by decide +kernel
theorem dX10_tell_107 : decode cX10_tell 107 = .ok (.iconst 1, 1) := by decide +kernel
theorem dX10_tell_108 : decode cX10_tell 108 = .ok (.isub, 1) := by decide +kernel
theorem dX10_tell_109 : decode cX10_tell 109 = .ok (.putfield 106, 3) := by decide +kernel
theorem dX10_tell_112 : decode cX10_tell 112 = .ok (.return_, 1) := by decide +kernel
theorem dX10_tell_113 : decode cX10_tell 113 = .ok (.aload_n 0, 1) := by decide +kernel
theorem dX10_tell_114 : decode cX10_tell 114 = .ok (.getfield 109, 3) := by decide +kernel
theorem dX10_tell_117 : decode cX10_tell 117 = .ok (.ifCond .eq 16, 3) := by decide +kernel
theorem dX10_tell_120 : decode cX10_tell 120 = .ok (.aload_n 0, 1) := by decide +kernel
theorem dX10_tell_121 : decode cX10_tell 121 = .ok (.dup, 1) := by decide +kernel
theorem dX10_tell_122 : decode cX10_tell 122 = .ok (.getfield 106, 3) := by decide +kernel
theorem dX10_tell_125 : decode cX10_tell 125 = .ok (.iconst 1, 1) := by decide +kernel
theorem dX10_tell_126 : decode cX10_tell 126 = .ok (.isub, 1) := by decide +kernel
theorem dX10_tell_127 : decode cX10_tell 127 = .ok (.putfield 106, 3) := by decide +kernel
theorem dX10_tell_130 : decode cX10_tell 130 = .ok (.goto 17, 3) := by decide +kernel
theorem dX10_tell_133 : decode cX10_tell 133 = .ok (.aload_n 0, 1) := by decide +kernel
theorem dX10_tell_134 : decode cX10_tell 134 = .ok (.iconst 0, 1) := by decide +kernel
theorem dX10_tell_135 : decode cX10_tell 135 = .ok (.iconst 1, 1) := by decide +kernel
theorem dX10_tell_136 : decode cX10_tell 136 = .ok (.invokevirtual 153, 3) := by decide +kernel
theorem dX10_tell_139 : decode cX10_tell 139 = .ok (.ifCond .eq 8, 3) := by decide +kernel
theorem dX10_tell_142 : decode cX10_tell 142 = .ok (.aload_n 0, 1) := by decide +kernel
theorem dX10_tell_143 : decode cX10_tell 143 = .ok (.iconst (-1), 1) := by decide +kernel
theorem dX10_tell_144 : decode cX10_tell 144 = .ok (.putfield 109, 3) := by decide +kernel
theorem dX10_tell_147 : decode cX10_tell 147 = .ok (.return_, 1) := by decide +kernel
theorem dX10_tell_148 : decode cX10_tell 148 = .ok (.aload_n 0, 1) := by decide +kernel
theorem dX10_tell_149 : decode cX10_tell 149 = .ok (.iload_n 1, 1) := by decide +kernel
theorem dX10_tell_150 : decode cX10_tell 150 = .ok (.invokevirtual 140, 3) := by decide +kernel
theorem dX10_tell_153 : decode cX10_tell 153 = .ok (.aload_n 0, 1) := by decide +kernel
theorem dX10_tell_154 : decode cX10_tell 154 = .ok (.aload_n 0, 1) := by decide +kernel
theorem dX10_tell_155 : decode cX10_tell 155 = .ok (.getfield 109, 3) := by decide +kernel
theorem dX10_tell_158 : decode cX10_tell 158 = .ok (.iconst 1, 1) := by decide +kernel
theorem dX10_tell_159 : decode cX10_tell 159 = .ok (.if_icmp .ne 7, 3) := by decide +kernel
theorem dX10_tell_162 : decode cX10_tell 162 = .ok (.iconst 0, 1) := by decide +kernel
theorem dX10_tell_163 : decode cX10_tell 163 = .ok (.goto 7, 3) := by decide +kernel
theorem dX10_tell_166 : decode cX10_tell 166 = .ok (.aload_n 0, 1) := by decide +kernel
theorem dX10_tell_167 : decode cX10_tell 167 = .ok (.getfield 109, 3) := by decide +kernel
theorem dX10_tell_170 : decode cX10_tell 170 = .ok (.invokevirtual 118, 3) := by decide +kernel
theorem dX10_tell_173 : decode cX10_tell 173 = .ok (.return_, 1) := by decide +kernel
theorem dX10_tell_174 : decode cX10_tell 174 = .ok (.aload_n 0, 1) := by decide +kernel
theorem dX10_tell_175 : decode cX10_tell 175 = .ok (.iload_n 2, 1) := by decide +kernel
theorem dX10_tell_176 : decode cX10_tell 176 = .ok (.invokevirtual 201, 3) := by decide +kernel
theorem dX10_tell_179 : decode cX10_tell 179 = .ok (.return_, 1) := by decide +kernel
theorem dX10_tell_180 : decode cX10_tell 180 = .ok (.aload_n 0, 1) := by decide +kernel
theorem dX10_tell_181 : decode cX10_tell 181 = .ok (.getfield 65, 3) := by decide +kernel
theorem dX10_tell_184 : decode cX10_tell 184 = .ok (.iload_n 1, 1) := by decide +kernel
theorem dX10_tell_185 : decode cX10_tell 185 = .ok (.iaload, 1) := by decide +kernel
theorem dX10_tell_186 : decode cX10_tell 186 = .ok (.iconst 1, 1) := by decide +kernel
theorem dX10_tell_187 : decode cX10_tell 187 = .ok (.if_icmp .ne 11, 3) := by decide +kernel
theorem dX10_tell_190 : decode cX10_tell 190 = .ok (.aload_n 0, 1) := by decide +kernel
theorem dX10_tell_191 : decode cX10_tell 191 = .ok (.iload_n 2, 1) := by decide +kernel
theorem dX10_tell_192 : decode cX10_tell 192 = .ok (.invokevirtual 204, 3) := by decide +kernel
theorem dX10_tell_195 : decode cX10_tell 195 = .ok (.goto 7, 3) := by decide +kernel
theorem dX10_tell_198 : decode cX10_tell 198 = .ok (.aload_n 0, 1) := by decide +kernel
theorem dX10_tell_199 : decode cX10_tell 199 = .ok (.invokevirtual 207, 3) := by decide +kernel
theorem dX10_tell_202 : decode cX10_tell 202 = .ok (.return_, 1) := by decide +kernel
theorem dX10_tell_203 : decode cX10_tell 203 = .ok (.aload_n 0, 1) := by decide +kernel
theorem dX10_tell_204 : decode cX10_tell 204 = .ok (.iload_n 1, 1) := by decide +kernel
theorem dX10_tell_205 : decode cX10_tell 205 = .ok (.invokevirtual 140, 3) := by decide +kernel
theorem dX10_tell_208 : decode cX10_tell 208 = .ok (.aload_n 0, 1) := by decide +kernel
theorem dX10_tell_209 : decode cX10_tell 209 = .ok (.dup, 1) := by decide +kernel
theorem dX10_tell_210 : decode cX10_tell 210 = .ok (.getfield 106, 3) := by decide +kernel
theorem dX10_tell_213 : decode cX10_tell 213 = .ok (.iconst 1, 1) := by decide +kernel
theorem dX10_tell_214 : decode cX10_tell 214 = .ok (.isub, 1) := by decide +kernel
theorem dX10_tell_215 : decode cX10_tell 215 = .ok (.putfield 106, 3) := by decide +kernel
theorem dX10_tell_218 : decode cX10_tell 218 = .ok (.return_, 1) := by decide +kernel
theorem dX10_tell_219 : decode cX10_tell 219 = .ok (.aload_n 0, 1) := by decide +kernel
theorem dX10_tell_220 : decode cX10_tell 220 = .ok (.dup, 1) := by decide +kernel
theorem dX10_tell_221 : decode cX10_tell 221 = .ok (.getfield 106, 3) := by decide +kernel
theorem dX10_tell_224 : decode cX10_tell 224 = .ok (.iconst 1, 1) := by decide +kernel
theorem dX10_tell_225 : decode cX10_tell 225 = .ok (.isub, 1) := by decide +kernel
theorem dX10_tell_226 : decode cX10_tell 226 = .ok (.putfield 106, 3) := by decide +kernel
theorem dX10_tell_229 : decode cX10_tell 229 = .ok (.return_, 1) := by decide +kernel
theorem dX10_reset_0 : decode cX10_reset 0 = .ok (.iconst 0, 1) := by decide +kernel
theorem dX10_reset_1 : decode cX10_reset 1 = .ok (.istore_n 3, 1) := by decide +kernel
theorem dX10_reset_2 : decode cX10_reset 2 = .ok (.iload_n 3, 1) := by decide +kernel
theorem dX10_reset_3 : decode cX10_reset 3 = .ok (.bipush 8, 2) := by decide +kernel
theorem dX10_reset_5 : decode cX10_reset 5 = .ok (.if_icmp .ge 16, 3) := by decide +kernel
theorem dX10_reset_8 : decode cX10_reset 8 = .ok (.aload_n 0, 1) := by decide +kernel
theorem dX10_reset_9 : decode cX10_reset 9 = .ok (.getfield 32, 3) := by decide +kernel
theorem dX10_reset_12 : decode cX10_reset 12 = .ok (.iload_n 3, 1) := by decide +kernel
theorem dX10_reset_13 : decode cX10_reset 13 = .ok (.iconst 0, 1) := by decide +kernel
theorem dX10_reset_14 : decode cX10_reset 14 = .ok (.iastore, 1) := by decide +kernel
theorem dX10_reset_15 : decode cX10_reset 15 = .ok (.iinc 3 1, 3) := by decide +kernel
theorem dX10_reset_18 : decode cX10_reset 18 = .ok (.goto (-16), 3) := by decide +kernel
theorem dX10_reset_21 : decode cX10_reset 21 = .ok (.iconst 0, 1) := by decide +kernel
theorem dX10_reset_22 : decode cX10_reset 22 = .ok (.istore_n 3, 1) := by decide +kernel
theorem dX10_reset_23 : decode cX10_reset 23 = .ok (.iload_n 3, 1) := by decide +kernel
theorem dX10_reset_24 : decode cX10_reset 24 = .ok (.iconst 4, 1) := by decide +kernel
theorem dX10_reset_25 : decode cX10_reset 25 = .ok (.if_icmp .ge 23, 3) := by decide +kernel
theorem dX10_reset_28 : decode cX10_reset 28 = .ok (.aload_n 0, 1) := by decide +kernel
theorem dX10_reset_29 : decode cX10_reset 29 = .ok (.getfield 35, 3) := by decide +kernel
theorem dX10_reset_32 : decode cX10_reset 32 = .ok (.iload_n 3, 1) := by decide +kernel
theorem dX10_reset_33 : decode cX10_reset 33 = .ok (.iconst (-1), 1) := by decide +kernel
theorem dX10_reset_34 : decode cX10_reset 34 = .ok (.iastore, 1) := by decide +kernel
theorem dX10_reset_35 : decode cX10_reset 35 = .ok (.aload_n 0, 1) := by decide +kernel
theorem dX10_reset_36 : decode cX10_reset 36 = .ok (.getfield 38, 3) := by decide +kernel
theorem dX10_reset_39 : decode cX10_reset 39 = .ok (.iload_n 3, 1) := by decide +kernel
theorem dX10_reset_40 : decode cX10_reset 40 = .ok (.iconst 0, 1) := by decide +kernel
theorem dX10_reset_41 : decode cX10_reset 41 = .ok (.iastore, 1) := by decide +kernel
theorem dX10_reset_42 : decode cX10_reset 42 = .ok (.iinc 3 1, 3) := by decide +kernel
theorem dX10_reset_45 : decode cX10_reset 45 = .ok (.goto (-22), 3) := by decide +kernel
theorem dX10_reset_48 : decode cX10_reset 48 = .ok (.iconst 0, 1) := by decide +kernel
theorem dX10_reset_49 : decode cX10_reset 49 = .ok (.istore_n 3, 1) := by decide +kernel
theorem dX10_reset_50 : decode cX10_reset 50 = .ok (.iload_n 3, 1) := by decide +kernel
theorem dX10_reset_51 : decode cX10_reset 51 = .ok (.iconst 5, 1) := by decide +kernel
theorem dX10_reset_52 : decode cX10_reset 52 = .ok (.if_icmp .ge 16, 3) := by decide +kernel
theorem dX10_reset_55 : decode cX10_reset 55 = .ok (.aload_n 0, 1) := by decide +kernel
theorem dX10_reset_56 : decode cX10_reset 56 = .ok (.getfield 50, 3) := by decide +kernel
theorem dX10_reset_59 : decode cX10_reset 59 = .ok (.iload_n 3, 1) := by decide +kernel
theorem dX10_reset_60 : decode cX10_reset 60 = .ok (.iconst 0, 1) := by decide +kernel
theorem dX10_reset_61 : decode cX10_reset 61 = .ok (.iastore, 1) := by decide +kernel
theorem dX10_reset_62 : decode cX10_reset 62 = .ok (.iinc 3 1, 3) := by decide +kernel
theorem dX10_reset_65 : decode cX10_reset 65 = .ok (.goto (-15), 3) := by decide +kernel
theorem dX10_reset_68 : decode cX10_reset 68 = .ok (.aload_n 0, 1) := by decide +kernel
theorem dX10_reset_69 : decode cX10_reset 69 = .ok (.getfield 32, 3) := by decide +kernel
theorem dX10_reset_72 : decode cX10_reset 72 = .ok (.iconst 0, 1) := by decide +kernel
theorem dX10_reset_73 : decode cX10_reset 73 = .ok (.iload_n 1, 1) := by decide +kernel
theorem dX10_reset_74 : decode cX10_reset 74 = .ok (.iastore, 1) := by decide +kernel
theorem dX10_reset_75 : decode cX10_reset 75 = .ok (.aload_n 0, 1) := by decide +kernel
theorem dX10_reset_76 : decode cX10_reset 76 = .ok (.iconst 0, 1) := by decide +kernel
theorem dX10_reset_77 : decode cX10_reset 77 = .ok (.putfield 156, 3) := by decide +kernel
theorem dX10_reset_80 : decode cX10_reset 80 = .ok (.aload_n 0, 1) := by decide +kernel
theorem dX10_reset_81 : decode cX10_reset 81 = .ok (.iconst 0, 1) := by decide +kernel
theorem dX10_reset_82 : decode cX10_reset 82 = .ok (.putfield 159, 3) := by decide +kernel
theorem dX10_reset_85 : decode cX10_reset 85 = .ok (.aload_n 0, 1) := by decide +kernel
theorem dX10_reset_86 : decode cX10_reset 86 = .ok (.iload_n 2, 1) := by decide +kernel
theorem dX10_reset_87 : decode cX10_reset 87 = .ok (.putfield 125, 3) := by decide +kernel
theorem dX10_reset_90 : decode cX10_reset 90 = .ok (.aload_n 0, 1) := by decide +kernel
theorem dX10_reset_91 : decode cX10_reset 91 = .ok (.bipush 40, 2) := by decide +kernel
theorem dX10_reset_93 : decode cX10_reset 93 = .ok (.putfield 128, 3) := by decide +kernel
theorem dX10_reset_96 : decode cX10_reset 96 = .ok (.aload_n 0, 1) := by decide +kernel
theorem dX10_reset_97 : decode cX10_reset 97 = .ok (.iconst 0, 1) := by decide +kernel
theorem dX10_reset_98 : decode cX10_reset 98 = .ok (.putfield 134, 3) := by decide +kernel
theorem dX10_reset_101 : decode cX10_reset 101 = .ok (.aload_n 0, 1) := by decide +kernel
theorem dX10_reset_102 : decode cX10_reset 102 = .ok (.iconst 0, 1) := by decide +kernel
theorem dX10_reset_103 : decode cX10_reset 103 = .ok (.putfield 137, 3) := by decide +kernel
theorem dX10_reset_106 : decode cX10_reset 106 = .ok (.aload_n 0, 1) := by decide +kernel
theorem dX10_reset_107 : decode cX10_reset 107 = .ok (.iconst 0, 1) := by decide +kernel
theorem dX10_reset_108 : decode cX10_reset 108 = .ok (.putfield 146, 3) := by decide +kernel
theorem dX10_reset_111 : decode cX10_reset 111 = .ok (.aload_n 0, 1) := by decide +kernel
theorem dX10_reset_112 : decode cX10_reset 112 = .ok (.iconst 0, 1) := by decide +kernel
theorem dX10_reset_113 : decode cX10_reset 113 = .ok (.putfield 168, 3) := by decide +kernel
theorem dX10_reset_116 : decode cX10_reset 116 = .ok (.aload_n 0, 1) := by decide +kernel
theorem dX10_reset_117 : decode cX10_reset 117 = .ok (.iconst 0, 1) := by decide +kernel
theorem dX10_reset_118 : decode cX10_reset 118 = .ok (.putfield 177, 3) := by decide +kernel
theorem dX10_reset_121 : decode cX10_reset 121 = .ok (.aload_n 0, 1) := by decide +kernel
theorem dX10_reset_122 : decode cX10_reset 122 = .ok (.iconst 0, 1) := by decide +kernel
theorem dX10_reset_123 : decode cX10_reset 123 = .ok (.putfield 183, 3) := by decide +kernel
theorem dX10_reset_126 : decode cX10_reset 126 = .ok (.aload_n 0, 1) := by decide +kernel
theorem dX10_reset_127 : decode cX10_reset 127 = .ok (.iconst 0, 1) := by decide +kernel
theorem dX10_reset_128 : decode cX10_reset 128 = .ok (.putfield 112, 3) := by decide +kernel
theorem dX10_reset_131 : decode cX10_reset 131 = .ok (.aload_n 0, 1) := by decide +kernel
theorem dX10_reset_132 : decode cX10_reset 132 = .ok (.iconst 0, 1) := by decide +kernel
theorem dX10_reset_133 : decode cX10_reset 133 = .ok (.putfield 115, 3) := by decide +kernel
theorem dX10_reset_136 : decode cX10_reset 136 = .ok (.aload_n 0, 1) := by decide +kernel
theorem dX10_reset_137 : decode cX10_reset 137 = .ok (.iconst 0, 1) := by decide +kernel
theorem dX10_reset_138 : decode cX10_reset 138 = .ok (.putfield 106, 3) := by decide +kernel
theorem dX10_reset_141 : decode cX10_reset 141 = .ok (.aload_n 0, 1) := by decide +kernel
theorem dX10_reset_142 : decode cX10_reset 142 = .ok (.iconst 0, 1) := by decide +kernel
theorem dX10_reset_143 : decode cX10_reset 143 = .ok (.putfield 143, 3) := by decide +kernel
theorem dX10_reset_146 : decode cX10_reset 146 = .ok (.aload_n 0, 1) := by decide +kernel
theorem dX10_reset_147 : decode cX10_reset 147 = .ok (.iconst (-1), 1) := by decide +kernel
theorem dX10_reset_148 : decode cX10_reset 148 = .ok (.putfield 122, 3) := by decide +kernel
theorem dX10_reset_151 : decode cX10_reset 151 = .ok (.return_, 1) := by decide +kernel
theorem dX10_isRun_0 : decode cX10_isRun 0 = .ok (.iload_n 1, 1) := by decide +kernel
theorem dX10_isRun_1 : decode cX10_isRun 1 = .ok (.bipush 8, 2) := by decide +kernel
theorem dX10_isRun_3 : decode cX10_isRun 3 = .ok (.invokestatic 86, 3) := by decide +kernel
theorem dX10_isRun_6 : decode cX10_isRun 6 = .ok (.ifCond .eq 28, 3) := by decide +kernel
theorem dX10_isRun_9 : decode cX10_isRun 9 = .ok (.aload_n 0, 1) := by decide +kernel
theorem dX10_isRun_10 : decode cX10_isRun 10 = .ok (.getfield 29, 3) := by decide +kernel
theorem dX10_isRun_13 : decode cX10_isRun 13 = .ok (.iload_n 1, 1) := by decide +kernel
theorem dX10_isRun_14 : decode cX10_isRun 14 = .ok (.iaload, 1) := by decide +kernel
theorem dX10_isRun_15 : decode cX10_isRun 15 = .ok (.iconst (-1), 1) := by decide +kernel
theorem dX10_isRun_16 : decode cX10_isRun 16 = .ok (.if_icmp .eq 18, 3) := by decide +kernel
theorem dX10_isRun_19 : decode cX10_isRun 19 = .ok (.iload_n 2, 1) := by decide +kernel
theorem dX10_isRun_20 : decode cX10_isRun 20 = .ok (.ifCond .lt 14, 3) := by decide +kernel
theorem dX10_isRun_23 : decode cX10_isRun 23 = .ok (.iload_n 2, 1) := by decide +kernel
theorem dX10_isRun_24 : decode cX10_isRun 24 = .ok (.sipush 160, 3) := by decide +kernel
theorem dX10_isRun_27 : decode cX10_isRun 27 = .ok (.if_icmp .gt 7, 3) := by decide +kernel
theorem dX10_isRun_30 : decode cX10_isRun 30 = .ok (.iconst 1, 1) := by decide +kernel
theorem dX10_isRun_31 : decode cX10_isRun 31 = .ok (.goto 4, 3) := by decide +kernel
theorem dX10_isRun_34 : decode cX10_isRun 34 = .ok (.iconst 0, 1) := by decide +kernel
theorem dX10_isRun_35 : decode cX10_isRun 35 = .ok (.ireturn, 1) := by decide +kernel
theorem dX10_runs_0 : decode cX10_runs 0 = .ok (.aload_n 0, 1) := by decide +kernel
theorem dX10_runs_1 : decode cX10_runs 1 = .ok (.iload_n 2, 1) := by decide +kernel
theorem dX10_runs_2 : decode cX10_runs 2 = .ok (.iload_n 3, 1) := by decide +kernel
theorem dX10_runs_3 : decode cX10_runs 3 = .ok (.invokevirtual 210, 3) := by decide +kernel
theorem dX10_runs_6 : decode cX10_runs 6 = .ok (.aload_n 0, 1) := by decide +kernel
theorem dX10_runs_7 : decode cX10_runs 7 = .ok (.iconst (-1), 1) := by decide +kernel
theorem dX10_runs_8 : decode cX10_runs 8 = .ok (.putfield 109, 3) := by decide +kernel
theorem dX10_runs_11 : decode cX10_runs 11 = .ok (.aload_n 0, 1) := by decide +kernel
theorem dX10_runs_12 : decode cX10_runs 12 = .ok (.iconst 1, 1) := by decide +kernel
theorem dX10_runs_13 : decode cX10_runs 13 = .ok (.iconst 2, 1) := by decide +kernel
theorem dX10_runs_14 : decode cX10_runs 14 = .ok (.invokevirtual 153, 3) := by decide +kernel
theorem dX10_runs_17 : decode cX10_runs 17 = .ok (.ifCond .eq 23, 3) := by decide +kernel
theorem dX10_runs_20 : decode cX10_runs 20 = .ok (.aload_n 0, 1) := by decide +kernel
theorem dX10_runs_21 : decode cX10_runs 21 = .ok (.iconst 1, 1) := by decide +kernel
theorem dX10_runs_22 : decode cX10_runs 22 = .ok (.putfield 143, 3) := by decide +kernel
theorem dX10_runs_25 : decode cX10_runs 25 = .ok (.aload_n 0, 1) := by decide +kernel
theorem dX10_runs_26 : decode cX10_runs 26 = .ok (.iconst 1, 1) := by decide +kernel
theorem dX10_runs_27 : decode cX10_runs 27 = .ok (.putfield 177, 3) := by decide +kernel
theorem dX10_runs_30 : decode cX10_runs 30 = .ok (.aload_n 0, 1) := by decide +kernel
theorem dX10_runs_31 : decode cX10_runs 31 = .ok (.aload_n 0, 1) := by decide +kernel
theorem dX10_runs_32 : decode cX10_runs 32 = .ok (.getfield 29, 3) := by decide +kernel
theorem dX10_runs_35 : decode cX10_runs 35 = .ok (.iload_n 1, 1) := by decide +kernel
theorem dX10_runs_36 : decode cX10_runs 36 = .ok (.iaload, 1) := by decide +kernel
theorem dX10_runs_37 : decode cX10_runs 37 = .ok (.invokevirtual 180, 3) := by decide +kernel
theorem dX10_runs_40 : decode cX10_runs 40 = .ok (.aload_n 0, 1) := by decide +kernel
theorem dX10_runs_41 : decode cX10_runs 41 = .ok (.getfield 106, 3) := by decide +kernel
theorem dX10_runs_44 : decode cX10_runs 44 = .ok (.ifCond .le 25, 3) := by decide +kernel
theorem dX10_runs_47 : decode cX10_runs 47 = .ok (.aload_n 0, 1) := by decide +kernel
theorem dX10_runs_48 : decode cX10_runs 48 = .ok (.getfield 109, 3) := by decide +kernel
theorem dX10_runs_51 : decode cX10_runs 51 = .ok (.iconst (-1), 1) := by decide +kernel
theorem dX10_runs_52 : decode cX10_runs 52 = .ok (.if_icmp .ne 10, 3) := by decide +kernel
theorem dX10_runs_55 : decode cX10_runs 55 = .ok (.aload_n 0, 1) := by decide +kernel
theorem dX10_runs_56 : decode cX10_runs 56 = .ok (.invokevirtual 213, 3) := by decide +kernel
theorem dX10_runs_59 : decode cX10_runs 59 = .ok (.goto (-19), 3) := by decide +kernel
theorem dX10_runs_62 : decode cX10_runs 62 = .ok (.aload_n 0, 1) := by decide +kernel
theorem dX10_runs_63 : decode cX10_runs 63 = .ok (.invokevirtual 216, 3) := by decide +kernel
theorem dX10_runs_66 : decode cX10_runs 66 = .ok (.goto (-26), 3) := by decide +kernel
theorem dX10_runs_69 : decode cX10_runs 69 = .ok (.aload_n 0, 1) := by decide +kernel
theorem dX10_runs_70 : decode cX10_runs 70 = .ok (.aload_n 0, 1) := by decide +kernel
theorem dX10_runs_71 : decode cX10_runs 71 = .ok (.getfield 109, 3) := by decide +kernel
theorem dX10_runs_74 : decode cX10_runs 74 = .ok (.putfield 56, 3) := by decide +kernel
theorem dX10_runs_77 : decode cX10_runs 77 = .ok (.aload_n 0, 1) := by decide +kernel
theorem dX10_runs_78 : decode cX10_runs 78 = .ok (.aload_n 0, 1) := by decide +kernel
theorem dX10_runs_79 : decode cX10_runs 79 = .ok (.getfield 56, 3) := by decide +kernel
theorem dX10_runs_82 : decode cX10_runs 82 = .ok (.iconst 2, 1) := by decide +kernel
theorem dX10_runs_83 : decode cX10_runs 83 = .ok (.if_icmp .ne 10, 3) := by decide +kernel
theorem dX10_runs_86 : decode cX10_runs 86 = .ok (.aload_n 0, 1) := by decide +kernel
theorem dX10_runs_87 : decode cX10_runs 87 = .ok (.getfield 112, 3) := by decide +kernel
theorem dX10_runs_90 : decode cX10_runs 90 = .ok (.goto 4, 3) := by decide +kernel
theorem dX10_runs_93 : decode cX10_runs 93 = .ok (.iconst 0, 1) := by decide +kernel
theorem dX10_runs_94 : decode cX10_runs 94 = .ok (.putfield 112, 3) := by decide +kernel
theorem dX10_runs_97 : decode cX10_runs 97 = .ok (.aload_n 0, 1) := by decide +kernel
theorem dX10_runs_98 : decode cX10_runs 98 = .ok (.aload_n 0, 1) := by decide +kernel
theorem dX10_runs_99 : decode cX10_runs 99 = .ok (.getfield 56, 3) := by decide +kernel
theorem dX10_runs_102 : decode cX10_runs 102 = .ok (.iconst 2, 1) := by decide +kernel
theorem dX10_runs_103 : decode cX10_runs 103 = .ok (.if_icmp .ne 18, 3) := by decide +kernel
theorem dX10_runs_106 : decode cX10_runs 106 = .ok (.aload_n 0, 1) := by decide +kernel
theorem dX10_runs_107 : decode cX10_runs 107 = .ok (.getfield 112, 3) := by decide +kernel
theorem dX10_runs_110 : decode cX10_runs 110 = .ok (.iconst 5, 1) := by decide +kernel
theorem dX10_runs_111 : decode cX10_runs 111 = .ok (.if_icmp .ne 10, 3) := by decide +kernel
theorem dX10_runs_114 : decode cX10_runs 114 = .ok (.aload_n 0, 1) := by decide +kernel
theorem dX10_runs_115 : decode cX10_runs 115 = .ok (.getfield 115, 3) := by decide +kernel
theorem dX10_runs_118 : decode cX10_runs 118 = .ok (.goto 4, 3) := by decide +kernel
theorem dX10_runs_121 : decode cX10_runs 121 = .ok (.iconst 0, 1) := by decide +kernel
theorem dX10_runs_122 : decode cX10_runs 122 = .ok (.putfield 115, 3) := by decide +kernel
theorem dX10_runs_125 : decode cX10_runs 125 = .ok (.aload_n 0, 1) := by decide +kernel
theorem dX10_runs_126 : decode cX10_runs 126 = .ok (.getfield 59, 3) := by decide +kernel
theorem dX10_runs_129 : decode cX10_runs 129 = .ok (.aload_n 0, 1) := by decide +kernel
theorem dX10_runs_130 : decode cX10_runs 130 = .ok (.getfield 56, 3) := by decide +kernel
theorem dX10_runs_133 : decode cX10_runs 133 = .ok (.dup2, 1) := by decide +kernel
theorem dX10_runs_134 : decode cX10_runs 134 = .ok (.iaload, 1) := by decide +kernel
theorem dX10_runs_135 : decode cX10_runs 135 = .ok (.iconst 1, 1) := by decide +kernel
theorem dX10_runs_136 : decode cX10_runs 136 = .ok (.iadd, 1) := by decide +kernel
theorem dX10_runs_137 : decode cX10_runs 137 = .ok (.iastore, 1) := by decide +kernel
theorem dX10_runs_138 : decode cX10_runs 138 = .ok (.aload_n 0, 1) := by decide +kernel
theorem dX10_runs_139 : decode cX10_runs 139 = .ok (.getfield 56, 3) := by decide +kernel
theorem dX10_runs_142 : decode cX10_runs 142 = .ok (.ireturn, 1) := by decide +kernel
theorem dX10_run_0 : decode cX10_run 0 = .ok (.aload_n 0, 1) := by decide +kernel
theorem dX10_run_1 : decode cX10_run 1 = .ok (.iconst 0, 1) := by decide +kernel
theorem dX10_run_2 : decode cX10_run 2 = .ok (.putfield 1, 3) := by decide +kernel
theorem dX10_run_5 : decode cX10_run 5 = .ok (.aload_n 0, 1) := by decide +kernel
theorem dX10_run_6 : decode cX10_run 6 = .ok (.iload_n 1, 1) := by decide +kernel
theorem dX10_run_7 : decode cX10_run 7 = .ok (.iload_n 3, 1) := by decide +kernel
theorem dX10_run_8 : decode cX10_run 8 = .ok (.invokevirtual 219, 3) := by decide +kernel
theorem dX10_run_11 : decode cX10_run 11 = .ok (.ifCond .eq 13, 3) := by decide +kernel
theorem dX10_run_14 : decode cX10_run 14 = .ok (.aload_n 0, 1) := by decide +kernel
theorem dX10_run_15 : decode cX10_run 15 = .ok (.iload_n 1, 1) := by decide +kernel
theorem dX10_run_16 : decode cX10_run 16 = .ok (.iload_n 2, 1) := by decide +kernel
theorem dX10_run_17 : decode cX10_run 17 = .ok (.iload_n 3, 1) := by decide +kernel
theorem dX10_run_18 : decode cX10_run 18 = .ok (.invokevirtual 222, 3) := by decide +kernel
theorem dX10_run_21 : decode cX10_run 21 = .ok (.goto 5, 3) := by decide +kernel
theorem dX10_run_24 : decode cX10_run 24 = .ok (.bipush (-2), 2) := by decide +kernel
theorem dX10_run_26 : decode cX10_run 26 = .ok (.ireturn, 1) := by decide +kernel
theorem dX10_told_0 : decode cX10_told 0 = .ok (.aload_n 0, 1) := by decide +kernel
theorem dX10_told_1 : decode cX10_told 1 = .ok (.iconst 0, 1) := by decide +kernel
theorem dX10_told_2 : decode cX10_told 2 = .ok (.putfield 1, 3) := by decide +kernel
theorem dX10_told_5 : decode cX10_told 5 = .ok (.iload_n 1, 1) := by decide +kernel
theorem dX10_told_6 : decode cX10_told 6 = .ok (.tableswitch 118 0 8 #[50, 55, 60, 65, 70, 75, 80, 85, 90], 50) := by decide +kernel
theorem dX10_told_56 : decode cX10_told 56 = .ok (.aload_n 0, 1) := by decide +kernel
theorem dX10_told_57 : decode cX10_told 57 = .ok (.getfield 56, 3) := by decide +kernel
theorem dX10_told_60 : decode cX10_told 60 = .ok (.ireturn, 1) := by decide +kernel
theorem dX10_told_61 : decode cX10_told 61 = .ok (.aload_n 0, 1) := by decide +kernel
theorem dX10_told_62 : decode cX10_told 62 = .ok (.getfield 112, 3) := by decide +kernel
theorem dX10_told_65 : decode cX10_told 65 = .ok (.ireturn, 1) := by decide +kernel
theorem dX10_told_66 : decode cX10_told 66 = .ok (.aload_n 0, 1) := by decide +kernel
theorem dX10_told_67 : decode cX10_told 67 = .ok (.getfield 115, 3) := by decide +kernel
theorem dX10_told_70 : decode cX10_told 70 = .ok (.ireturn, 1) := by decide +kernel
theorem dX10_told_71 : decode cX10_told 71 = .ok (.aload_n 0, 1) := by decide +kernel
theorem dX10_told_72 : decode cX10_told 72 = .ok (.getfield 168, 3) := by decide +kernel
theorem dX10_told_75 : decode cX10_told 75 = .ok (.ireturn, 1) := by decide +kernel
theorem dX10_told_76 : decode cX10_told 76 = .ok (.aload_n 0, 1) := by decide +kernel
theorem dX10_told_77 : decode cX10_told 77 = .ok (.getfield 134, 3) := by decide +kernel
theorem dX10_told_80 : decode cX10_told 80 = .ok (.ireturn, 1) := by decide +kernel
theorem dX10_told_81 : decode cX10_told 81 = .ok (.aload_n 0, 1) := by decide +kernel
theorem dX10_told_82 : decode cX10_told 82 = .ok (.getfield 137, 3) := by decide +kernel
theorem dX10_told_85 : decode cX10_told 85 = .ok (.ireturn, 1) := by decide +kernel
theorem dX10_told_86 : decode cX10_told 86 = .ok (.aload_n 0, 1) := by decide +kernel
theorem dX10_told_87 : decode cX10_told 87 = .ok (.getfield 177, 3) := by decide +kernel
theorem dX10_told_90 : decode cX10_told 90 = .ok (.ireturn, 1) := by decide +kernel
theorem dX10_told_91 : decode cX10_told 91 = .ok (.aload_n 0, 1) := by decide +kernel
theorem dX10_told_92 : decode cX10_told 92 = .ok (.getfield 183, 3) := by decide +kernel
theorem dX10_told_95 : decode cX10_told 95 = .ok (.ireturn, 1) := by decide +kernel
theorem dX10_told_96 : decode cX10_told 96 = .ok (.aload_n 0, 1) := by decide +kernel
theorem dX10_told_97 : decode cX10_told 97 = .ok (.getfield 38, 3) := by decide +kernel
theorem dX10_told_100 : decode cX10_told 100 = .ok (.iconst 0, 1) := by decide +kernel
theorem dX10_told_101 : decode cX10_told 101 = .ok (.iaload, 1) := by decide +kernel
theorem dX10_told_102 : decode cX10_told 102 = .ok (.aload_n 0, 1) := by decide +kernel
theorem dX10_told_103 : decode cX10_told 103 = .ok (.getfield 38, 3) := by decide +kernel
theorem dX10_told_106 : decode cX10_told 106 = .ok (.iconst 1, 1) := by decide +kernel
theorem dX10_told_107 : decode cX10_told 107 = .ok (.iaload, 1) := by decide +kernel
theorem dX10_told_108 : decode cX10_told 108 = .ok (.iadd, 1) := by decide +kernel
theorem dX10_told_109 : decode cX10_told 109 = .ok (.aload_n 0, 1) := by decide +kernel
theorem dX10_told_110 : decode cX10_told 110 = .ok (.getfield 38, 3) := by decide +kernel
theorem dX10_told_113 : decode cX10_told 113 = .ok (.iconst 2, 1) := by decide +kernel
theorem dX10_told_114 : decode cX10_told 114 = .ok (.iaload, 1) := by decide +kernel
theorem dX10_told_115 : decode cX10_told 115 = .ok (.iadd, 1) := by decide +kernel
theorem dX10_told_116 : decode cX10_told 116 = .ok (.aload_n 0, 1) := by decide +kernel
theorem dX10_told_117 : decode cX10_told 117 = .ok (.getfield 38, 3) := by decide +kernel
theorem dX10_told_120 : decode cX10_told 120 = .ok (.iconst 3, 1) := by decide +kernel
theorem dX10_told_121 : decode cX10_told 121 = .ok (.iaload, 1) := by decide +kernel
theorem dX10_told_122 : decode cX10_told 122 = .ok (.iadd, 1) := by decide +kernel
theorem dX10_told_123 : decode cX10_told 123 = .ok (.ireturn, 1) := by decide +kernel
theorem dX10_told_124 : decode cX10_told 124 = .ok (.bipush (-2), 2) := by decide +kernel
theorem dX10_told_126 : decode cX10_told 126 = .ok (.ireturn, 1) := by decide +kernel
theorem dX10_marks_0 : decode cX10_marks 0 = .ok (.aload_n 0, 1) := by decide +kernel
theorem dX10_marks_1 : decode cX10_marks 1 = .ok (.iconst 0, 1) := by decide +kernel
theorem dX10_marks_2 : decode cX10_marks 2 = .ok (.putfield 1, 3) := by decide +kernel
theorem dX10_marks_5 : decode cX10_marks 5 = .ok (.iload_n 1, 1) := by decide +kernel
theorem dX10_marks_6 : decode cX10_marks 6 = .ok (.iconst 5, 1) := by decide +kernel
theorem dX10_marks_7 : decode cX10_marks 7 = .ok (.invokestatic 86, 3) := by decide +kernel
theorem dX10_marks_10 : decode cX10_marks 10 = .ok (.ifCond .eq 12, 3) := by decide +kernel
theorem dX10_marks_13 : decode cX10_marks 13 = .ok (.aload_n 0, 1) := by decide +kernel
theorem dX10_marks_14 : decode cX10_marks 14 = .ok (.getfield 50, 3) := by decide +kernel
theorem dX10_marks_17 : decode cX10_marks 17 = .ok (.iload_n 1, 1) := by decide +kernel
theorem dX10_marks_18 : decode cX10_marks 18 = .ok (.iaload, 1) := by decide +kernel
theorem dX10_marks_19 : decode cX10_marks 19 = .ok (.goto 5, 3) := by decide +kernel
theorem dX10_marks_22 : decode cX10_marks 22 = .ok (.bipush (-2), 2) := by decide +kernel
theorem dX10_marks_24 : decode cX10_marks 24 = .ok (.ireturn, 1) := by decide +kernel
theorem dX10_began_0 : decode cX10_began 0 = .ok (.aload_n 0, 1) := by decide +kernel
theorem dX10_began_1 : decode cX10_began 1 = .ok (.iconst 0, 1) := by decide +kernel
theorem dX10_began_2 : decode cX10_began 2 = .ok (.putfield 1, 3) := by decide +kernel
theorem dX10_began_5 : decode cX10_began 5 = .ok (.iload_n 1, 1) := by decide +kernel
theorem dX10_began_6 : decode cX10_began 6 = .ok (.ifCond .ge 8, 3) := by decide +kernel
theorem dX10_began_9 : decode cX10_began 9 = .ok (.bipush (-2), 2) := by decide +kernel
theorem dX10_began_11 : decode cX10_began 11 = .ok (.goto 21, 3) := by decide +kernel
theorem dX10_began_14 : decode cX10_began 14 = .ok (.iload_n 1, 1) := by decide +kernel
theorem dX10_began_15 : decode cX10_began 15 = .ok (.aload_n 0, 1) := by decide +kernel
theorem dX10_began_16 : decode cX10_began 16 = .ok (.getfield 146, 3) := by decide +kernel
theorem dX10_began_19 : decode cX10_began 19 = .ok (.if_icmp .ge 12, 3) := by decide +kernel
theorem dX10_began_22 : decode cX10_began 22 = .ok (.aload_n 0, 1) := by decide +kernel
theorem dX10_began_23 : decode cX10_began 23 = .ok (.getfield 53, 3) := by decide +kernel
theorem dX10_began_26 : decode cX10_began 26 = .ok (.iload_n 1, 1) := by decide +kernel
theorem dX10_began_27 : decode cX10_began 27 = .ok (.iaload, 1) := by decide +kernel
theorem dX10_began_28 : decode cX10_began 28 = .ok (.goto 4, 3) := by decide +kernel
theorem dX10_began_31 : decode cX10_began 31 = .ok (.iconst (-1), 1) := by decide +kernel
theorem dX10_began_32 : decode cX10_began 32 = .ok (.ireturn, 1) := by decide +kernel
theorem dX10_variable_0 : decode cX10_variable 0 = .ok (.aload_n 0, 1) := by decide +kernel
theorem dX10_variable_1 : decode cX10_variable 1 = .ok (.iconst 0, 1) := by decide +kernel
theorem dX10_variable_2 : decode cX10_variable 2 = .ok (.putfield 1, 3) := by decide +kernel
theorem dX10_variable_5 : decode cX10_variable 5 = .ok (.iload_n 1, 1) := by decide +kernel
theorem dX10_variable_6 : decode cX10_variable 6 = .ok (.bipush 8, 2) := by decide +kernel
theorem dX10_variable_8 : decode cX10_variable 8 = .ok (.invokestatic 86, 3) := by decide +kernel
theorem dX10_variable_11 : decode cX10_variable 11 = .ok (.ifCond .eq 12, 3) := by decide +kernel
theorem dX10_variable_14 : decode cX10_variable 14 = .ok (.aload_n 0, 1) := by decide +kernel
theorem dX10_variable_15 : decode cX10_variable 15 = .ok (.getfield 32, 3) := by decide +kernel
theorem dX10_variable_18 : decode cX10_variable 18 = .ok (.iload_n 1, 1) := by decide +kernel
theorem dX10_variable_19 : decode cX10_variable 19 = .ok (.iaload, 1) := by decide +kernel
theorem dX10_variable_20 : decode cX10_variable 20 = .ok (.goto 4, 3) := by decide +kernel
theorem dX10_variable_23 : decode cX10_variable 23 = .ok (.iconst 0, 1) := by decide +kernel
theorem dX10_variable_24 : decode cX10_variable 24 = .ok (.ireturn, 1) := by decide +kernel
theorem dX10_size_0 : decode cX10_size 0 = .ok (.aload_n 0, 1) := by decide +kernel
theorem dX10_size_1 : decode cX10_size 1 = .ok (.iconst 0, 1) := by decide +kernel
theorem dX10_size_2 : decode cX10_size 2 = .ok (.putfield 1, 3) := by decide +kernel
theorem dX10_size_5 : decode cX10_size 5 = .ok (.iload_n 1, 1) := by decide +kernel
theorem dX10_size_6 : decode cX10_size 6 = .ok (.iconst 4, 1) := by decide +kernel
theorem dX10_size_7 : decode cX10_size 7 = .ok (.invokestatic 86, 3) := by decide +kernel
theorem dX10_size_10 : decode cX10_size 10 = .ok (.ifCond .ne 8, 3) := by decide +kernel
theorem dX10_size_13 : decode cX10_size 13 = .ok (.bipush (-2), 2) := by decide +kernel
theorem dX10_size_15 : decode cX10_size 15 = .ok (.goto 28, 3) := by decide +kernel
theorem dX10_size_18 : decode cX10_size 18 = .ok (.aload_n 0, 1) := by decide +kernel
theorem dX10_size_19 : decode cX10_size 19 = .ok (.getfield 35, 3) := by decide +kernel
theorem dX10_size_22 : decode cX10_size 22 = .ok (.iload_n 1, 1) := by decide +kernel
theorem dX10_size_23 : decode cX10_size 23 = .ok (.iaload, 1) := by decide +kernel
theorem dX10_size_24 : decode cX10_size 24 = .ok (.iconst (-1), 1) := by decide +kernel
theorem dX10_size_25 : decode cX10_size 25 = .ok (.if_icmp .ne 7, 3) := by decide +kernel
theorem dX10_size_28 : decode cX10_size 28 = .ok (.iconst (-1), 1) := by decide +kernel
theorem dX10_size_29 : decode cX10_size 29 = .ok (.goto 14, 3) := by decide +kernel
theorem dX10_size_32 : decode cX10_size 32 = .ok (.aload_n 0, 1) := by decide +kernel
theorem dX10_size_33 : decode cX10_size 33 = .ok (.getfield 41, 3) := by decide +kernel
theorem dX10_size_36 : decode cX10_size 36 = .ok (.aload_n 0, 1) := by decide +kernel
theorem dX10_size_37 : decode cX10_size 37 = .ok (.getfield 35, 3) := by decide +kernel
theorem dX10_size_40 : decode cX10_size 40 = .ok (.iload_n 1, 1) := by decide +kernel
theorem dX10_size_41 : decode cX10_size 41 = .ok (.iaload, 1) := by decide +kernel
theorem dX10_size_42 : decode cX10_size 42 = .ok (.iaload, 1) := by decide +kernel
theorem dX10_size_43 : decode cX10_size 43 = .ok (.ireturn, 1) := by decide +kernel
theorem dX10_item_0 : decode cX10_item 0 = .ok (.aload_n 0, 1) := by decide +kernel
theorem dX10_item_1 : decode cX10_item 1 = .ok (.iconst 0, 1) := by decide +kernel
theorem dX10_item_2 : decode cX10_item 2 = .ok (.putfield 1, 3) := by decide +kernel
theorem dX10_item_5 : decode cX10_item 5 = .ok (.iload_n 1, 1) := by decide +kernel
theorem dX10_item_6 : decode cX10_item 6 = .ok (.iconst 4, 1) := by decide +kernel
theorem dX10_item_7 : decode cX10_item 7 = .ok (.invokestatic 86, 3) := by decide +kernel
theorem dX10_item_10 : decode cX10_item 10 = .ok (.ifCond .ne 9, 3) := by decide +kernel
theorem dX10_item_13 : decode cX10_item 13 = .ok (.aload_n 0, 1) := by decide +kernel
theorem dX10_item_14 : decode cX10_item 14 = .ok (.iconst 2, 1) := by decide +kernel
theorem dX10_item_15 : decode cX10_item 15 = .ok (.invokevirtual 225, 3) := by decide +kernel
theorem dX10_item_18 : decode cX10_item 18 = .ok (.ireturn, 1) := by decide +kernel
theorem dX10_item_19 : decode cX10_item 19 = .ok (.aload_n 0, 1) := by decide +kernel
theorem dX10_item_20 : decode cX10_item 20 = .ok (.getfield 35, 3) := by decide +kernel
theorem dX10_item_23 : decode cX10_item 23 = .ok (.iload_n 1, 1) := by decide +kernel
theorem dX10_item_24 : decode cX10_item 24 = .ok (.iaload, 1) := by decide +kernel
theorem dX10_item_25 : decode cX10_item 25 = .ok (.iconst (-1), 1) := by decide +kernel
theorem dX10_item_26 : decode cX10_item 26 = .ok (.if_icmp .ne 9, 3) := by decide +kernel
theorem dX10_item_29 : decode cX10_item 29 = .ok (.aload_n 0, 1) := by decide +kernel
theorem dX10_item_30 : decode cX10_item 30 = .ok (.iconst 1, 1) := by decide +kernel
theorem dX10_item_31 : decode cX10_item 31 = .ok (.invokevirtual 225, 3) := by decide +kernel
theorem dX10_item_34 : decode cX10_item 34 = .ok (.ireturn, 1) := by decide +kernel
theorem dX10_item_35 : decode cX10_item 35 = .ok (.iload_n 2, 1) := by decide +kernel
theorem dX10_item_36 : decode cX10_item 36 = .ok (.aload_n 0, 1) := by decide +kernel
theorem dX10_item_37 : decode cX10_item 37 = .ok (.getfield 41, 3) := by decide +kernel
theorem dX10_item_40 : decode cX10_item 40 = .ok (.aload_n 0, 1) := by decide +kernel
theorem dX10_item_41 : decode cX10_item 41 = .ok (.getfield 35, 3) := by decide +kernel
theorem dX10_item_44 : decode cX10_item 44 = .ok (.iload_n 1, 1) := by decide +kernel
theorem dX10_item_45 : decode cX10_item 45 = .ok (.iaload, 1) := by decide +kernel
theorem dX10_item_46 : decode cX10_item 46 = .ok (.iaload, 1) := by decide +kernel
theorem dX10_item_47 : decode cX10_item 47 = .ok (.invokestatic 86, 3) := by decide +kernel
theorem dX10_item_50 : decode cX10_item 50 = .ok (.ifCond .eq 24, 3) := by decide +kernel
theorem dX10_item_53 : decode cX10_item 53 = .ok (.aload_n 0, 1) := by decide +kernel
theorem dX10_item_54 : decode cX10_item 54 = .ok (.getfield 47, 3) := by decide +kernel
theorem dX10_item_57 : decode cX10_item 57 = .ok (.aload_n 0, 1) := by decide +kernel
theorem dX10_item_58 : decode cX10_item 58 = .ok (.getfield 44, 3) := by decide +kernel
theorem dX10_item_61 : decode cX10_item 61 = .ok (.aload_n 0, 1) := by decide +kernel
theorem dX10_item_62 : decode cX10_item 62 = .ok (.getfield 35, 3) := by decide +kernel
theorem dX10_item_65 : decode cX10_item 65 = .ok (.iload_n 1, 1) := by decide +kernel
theorem dX10_item_66 : decode cX10_item 66 = .ok (.iaload, 1) := by decide +kernel
theorem dX10_item_67 : decode cX10_item 67 = .ok (.iaload, 1) := by decide +kernel
theorem dX10_item_68 : decode cX10_item 68 = .ok (.iload_n 2, 1) := by decide +kernel
theorem dX10_item_69 : decode cX10_item 69 = .ok (.iadd, 1) := by decide +kernel
theorem dX10_item_70 : decode cX10_item 70 = .ok (.iaload, 1) := by decide +kernel
theorem dX10_item_71 : decode cX10_item 71 = .ok (.goto 8, 3) := by decide +kernel
theorem dX10_item_74 : decode cX10_item 74 = .ok (.aload_n 0, 1) := by decide +kernel
theorem dX10_item_75 : decode cX10_item 75 = .ok (.iconst 2, 1) := by decide +kernel
theorem dX10_item_76 : decode cX10_item 76 = .ok (.invokevirtual 225, 3) := by decide +kernel
theorem dX10_item_79 : decode cX10_item 79 = .ok (.ireturn, 1) := by decide +kernel
theorem dX10_same_0 : decode cX10_same 0 = .ok (.aload_n 0, 1) := by decide +kernel
theorem dX10_same_1 : decode cX10_same 1 = .ok (.iconst 0, 1) := by decide +kernel
theorem dX10_same_2 : decode cX10_same 2 = .ok (.putfield 1, 3) := by decide +kernel
theorem dX10_same_5 : decode cX10_same 5 = .ok (.aload_n 0, 1) := by decide +kernel
theorem dX10_same_6 : decode cX10_same 6 = .ok (.iload_n 1, 1) := by decide +kernel
theorem dX10_same_7 : decode cX10_same 7 = .ok (.iload_n 3, 1) := by decide +kernel
theorem dX10_same_8 : decode cX10_same 8 = .ok (.invokevirtual 219, 3) := by decide +kernel
theorem dX10_same_11 : decode cX10_same 11 = .ok (.ifCond .eq 13, 3) := by decide +kernel
theorem dX10_same_14 : decode cX10_same 14 = .ok (.aload_n 0, 1) := by decide +kernel
theorem dX10_same_15 : decode cX10_same 15 = .ok (.iload_n 1, 1) := by decide +kernel
theorem dX10_same_16 : decode cX10_same 16 = .ok (.iload 4, 2) := by decide +kernel
theorem dX10_same_18 : decode cX10_same 18 = .ok (.invokevirtual 219, 3) := by decide +kernel
theorem dX10_same_21 : decode cX10_same 21 = .ok (.ifCond .ne 6, 3) := by decide +kernel
theorem dX10_same_24 : decode cX10_same 24 = .ok (.bipush (-2), 2) := by decide +kernel
theorem dX10_same_26 : decode cX10_same 26 = .ok (.ireturn, 1) := by decide +kernel
theorem dX10_same_27 : decode cX10_same 27 = .ok (.aload_n 0, 1) := by decide +kernel
theorem dX10_same_28 : decode cX10_same 28 = .ok (.getfield 77, 3) := by decide +kernel
theorem dX10_same_31 : decode cX10_same 31 = .ok (.iconst 0, 1) := by decide +kernel
theorem dX10_same_32 : decode cX10_same 32 = .ok (.aload_n 0, 1) := by decide +kernel
theorem dX10_same_33 : decode cX10_same 33 = .ok (.iload_n 1, 1) := by decide +kernel
theorem dX10_same_34 : decode cX10_same 34 = .ok (.iload_n 2, 1) := by decide +kernel
theorem dX10_same_35 : decode cX10_same 35 = .ok (.iload_n 3, 1) := by decide +kernel
theorem dX10_same_36 : decode cX10_same 36 = .ok (.invokevirtual 222, 3) := by decide +kernel
theorem dX10_same_39 : decode cX10_same 39 = .ok (.iastore, 1) := by decide +kernel
theorem dX10_same_40 : decode cX10_same 40 = .ok (.aload_n 0, 1) := by decide +kernel
theorem dX10_same_41 : decode cX10_same 41 = .ok (.getfield 77, 3) := by decide +kernel
theorem dX10_same_44 : decode cX10_same 44 = .ok (.iconst 1, 1) := by decide +kernel
theorem dX10_same_45 : decode cX10_same 45 = .ok (.aload_n 0, 1) := by decide +kernel
theorem dX10_same_46 : decode cX10_same 46 = .ok (.getfield 112, 3) := by decide +kernel
theorem dX10_same_49 : decode cX10_same 49 = .ok (.iastore, 1) := by decide +kernel
theorem dX10_same_50 : decode cX10_same 50 = .ok (.aload_n 0, 1) := by decide +kernel
theorem dX10_same_51 : decode cX10_same 51 = .ok (.getfield 77, 3) := by decide +kernel
end
section
theorem dX10_same_54 : decode cX10_same 54 = .ok (.iconst 2, 1) := by decide +kernel
theorem dX10_same_55 : decode cX10_same 55 = .ok (.aload_n 0, 1) := by decide +kernel
theorem dX10_same_56 : decode cX10_same 56 = .ok (.getfield 115, 3) := by decide +kernel
theorem dX10_same_59 : decode cX10_same 59 = .ok (.iastore, 1) := by decide +kernel
theorem dX10_same_60 : decode cX10_same 60 = .ok (.aload_n 0, 1) := by decide +kernel
theorem dX10_same_61 : decode cX10_same 61 = .ok (.getfield 77, 3) := by decide +kernel
theorem dX10_same_64 : decode cX10_same 64 = .ok (.iconst 3, 1) := by decide +kernel
theorem dX10_same_65 : decode cX10_same 65 = .ok (.aload_n 0, 1) := by decide +kernel
theorem dX10_same_66 : decode cX10_same 66 = .ok (.getfield 168, 3) := by decide +kernel
theorem dX10_same_69 : decode cX10_same 69 = .ok (.iastore, 1) := by decide +kernel
theorem dX10_same_70 : decode cX10_same 70 = .ok (.iconst 0, 1) := by decide +kernel
theorem dX10_same_71 : decode cX10_same 71 = .ok (.istore 5, 2) := by decide +kernel
theorem dX10_same_73 : decode cX10_same 73 = .ok (.iload 5, 2) := by decide +kernel
theorem dX10_same_75 : decode cX10_same 75 = .ok (.bipush 8, 2) := by decide +kernel
theorem dX10_same_77 : decode cX10_same 77 = .ok (.if_icmp .ge 25, 3) := by decide +kernel
theorem dX10_same_80 : decode cX10_same 80 = .ok (.aload_n 0, 1) := by decide +kernel
theorem dX10_same_81 : decode cX10_same 81 = .ok (.getfield 77, 3) := by decide +kernel
theorem dX10_same_84 : decode cX10_same 84 = .ok (.iconst 4, 1) := by decide +kernel
theorem dX10_same_85 : decode cX10_same 85 = .ok (.iload 5, 2) := by decide +kernel
theorem dX10_same_87 : decode cX10_same 87 = .ok (.iadd, 1) := by decide +kernel
theorem dX10_same_88 : decode cX10_same 88 = .ok (.aload_n 0, 1) := by decide +kernel
theorem dX10_same_89 : decode cX10_same 89 = .ok (.getfield 32, 3) := by decide +kernel
theorem dX10_same_92 : decode cX10_same 92 = .ok (.iload 5, 2) := by decide +kernel
theorem dX10_same_94 : decode cX10_same 94 = .ok (.iaload, 1) := by decide +kernel
theorem dX10_same_95 : decode cX10_same 95 = .ok (.iastore, 1) := by decide +kernel
theorem dX10_same_96 : decode cX10_same 96 = .ok (.iinc 5 1, 3) := by decide +kernel
theorem dX10_same_99 : decode cX10_same 99 = .ok (.goto (-26), 3) := by decide +kernel
theorem dX10_same_102 : decode cX10_same 102 = .ok (.iconst 0, 1) := by decide +kernel
theorem dX10_same_103 : decode cX10_same 103 = .ok (.istore 5, 2) := by decide +kernel
theorem dX10_same_105 : decode cX10_same 105 = .ok (.iconst 0, 1) := by decide +kernel
theorem dX10_same_106 : decode cX10_same 106 = .ok (.istore 6, 2) := by decide +kernel
theorem dX10_same_108 : decode cX10_same 108 = .ok (.iload 6, 2) := by decide +kernel
theorem dX10_same_110 : decode cX10_same 110 = .ok (.iconst 4, 1) := by decide +kernel
theorem dX10_same_111 : decode cX10_same 111 = .ok (.if_icmp .ge 63, 3) := by decide +kernel
theorem dX10_same_114 : decode cX10_same 114 = .ok (.aload_n 0, 1) := by decide +kernel
theorem dX10_same_115 : decode cX10_same 115 = .ok (.getfield 77, 3) := by decide +kernel
theorem dX10_same_118 : decode cX10_same 118 = .ok (.bipush 12, 2) := by decide +kernel
theorem dX10_same_120 : decode cX10_same 120 = .ok (.iload 6, 2) := by decide +kernel
theorem dX10_same_122 : decode cX10_same 122 = .ok (.iadd, 1) := by decide +kernel
theorem dX10_same_123 : decode cX10_same 123 = .ok (.aload_n 0, 1) := by decide +kernel
theorem dX10_same_124 : decode cX10_same 124 = .ok (.iload 6, 2) := by decide +kernel
theorem dX10_same_126 : decode cX10_same 126 = .ok (.invokevirtual 229, 3) := by decide +kernel
theorem dX10_same_129 : decode cX10_same 129 = .ok (.iastore, 1) := by decide +kernel
theorem dX10_same_130 : decode cX10_same 130 = .ok (.iconst 0, 1) := by decide +kernel
theorem dX10_same_131 : decode cX10_same 131 = .ok (.istore 7, 2) := by decide +kernel
theorem dX10_same_133 : decode cX10_same 133 = .ok (.iload 7, 2) := by decide +kernel
theorem dX10_same_135 : decode cX10_same 135 = .ok (.aload_n 0, 1) := by decide +kernel
theorem dX10_same_136 : decode cX10_same 136 = .ok (.iload 6, 2) := by decide +kernel
theorem dX10_same_138 : decode cX10_same 138 = .ok (.invokevirtual 229, 3) := by decide +kernel
theorem dX10_same_141 : decode cX10_same 141 = .ok (.if_icmp .ge 27, 3) := by decide +kernel
theorem dX10_same_144 : decode cX10_same 144 = .ok (.aload_n 0, 1) := by decide +kernel
theorem dX10_same_145 : decode cX10_same 145 = .ok (.getfield 80, 3) := by decide +kernel
theorem dX10_same_148 : decode cX10_same 148 = .ok (.iload 5, 2) := by decide +kernel
theorem dX10_same_150 : decode cX10_same 150 = .ok (.aload_n 0, 1) := by decide +kernel
theorem dX10_same_151 : decode cX10_same 151 = .ok (.iload 6, 2) := by decide +kernel
theorem dX10_same_153 : decode cX10_same 153 = .ok (.iload 7, 2) := by decide +kernel
theorem dX10_same_155 : decode cX10_same 155 = .ok (.invokevirtual 232, 3) := by decide +kernel
theorem dX10_same_158 : decode cX10_same 158 = .ok (.iastore, 1) := by decide +kernel
theorem dX10_same_159 : decode cX10_same 159 = .ok (.iinc 5 1, 3) := by decide +kernel
theorem dX10_same_162 : decode cX10_same 162 = .ok (.iinc 7 1, 3) := by decide +kernel
theorem dX10_same_165 : decode cX10_same 165 = .ok (.goto (-32), 3) := by decide +kernel
theorem dX10_same_168 : decode cX10_same 168 = .ok (.iinc 6 1, 3) := by decide +kernel
theorem dX10_same_171 : decode cX10_same 171 = .ok (.goto (-63), 3) := by decide +kernel
theorem dX10_same_174 : decode cX10_same 174 = .ok (.aload_n 0, 1) := by decide +kernel
theorem dX10_same_175 : decode cX10_same 175 = .ok (.getfield 77, 3) := by decide +kernel
theorem dX10_same_178 : decode cX10_same 178 = .ok (.iconst 0, 1) := by decide +kernel
theorem dX10_same_179 : decode cX10_same 179 = .ok (.iaload, 1) := by decide +kernel
theorem dX10_same_180 : decode cX10_same 180 = .ok (.aload_n 0, 1) := by decide +kernel
theorem dX10_same_181 : decode cX10_same 181 = .ok (.iload_n 1, 1) := by decide +kernel
theorem dX10_same_182 : decode cX10_same 182 = .ok (.iload_n 2, 1) := by decide +kernel
theorem dX10_same_183 : decode cX10_same 183 = .ok (.iload 4, 2) := by decide +kernel
theorem dX10_same_185 : decode cX10_same 185 = .ok (.invokevirtual 222, 3) := by decide +kernel
theorem dX10_same_188 : decode cX10_same 188 = .ok (.if_icmp .ne 46, 3) := by decide +kernel
theorem dX10_same_191 : decode cX10_same 191 = .ok (.aload_n 0, 1) := by decide +kernel
theorem dX10_same_192 : decode cX10_same 192 = .ok (.getfield 77, 3) := by decide +kernel
theorem dX10_same_195 : decode cX10_same 195 = .ok (.iconst 1, 1) := by decide +kernel
theorem dX10_same_196 : decode cX10_same 196 = .ok (.iaload, 1) := by decide +kernel
theorem dX10_same_197 : decode cX10_same 197 = .ok (.aload_n 0, 1) := by decide +kernel
theorem dX10_same_198 : decode cX10_same 198 = .ok (.getfield 112, 3) := by decide +kernel
theorem dX10_same_201 : decode cX10_same 201 = .ok (.if_icmp .ne 33, 3) := by decide +kernel
theorem dX10_same_204 : decode cX10_same 204 = .ok (.aload_n 0, 1) := by decide +kernel
theorem dX10_same_205 : decode cX10_same 205 = .ok (.getfield 77, 3) := by decide +kernel
theorem dX10_same_208 : decode cX10_same 208 = .ok (.iconst 2, 1) := by decide +kernel
theorem dX10_same_209 : decode cX10_same 209 = .ok (.iaload, 1) := by decide +kernel
theorem dX10_same_210 : decode cX10_same 210 = .ok (.aload_n 0, 1) := by decide +kernel
theorem dX10_same_211 : decode cX10_same 211 = .ok (.getfield 115, 3) := by decide +kernel
theorem dX10_same_214 : decode cX10_same 214 = .ok (.if_icmp .ne 20, 3) := by decide +kernel
theorem dX10_same_217 : decode cX10_same 217 = .ok (.aload_n 0, 1) := by decide +kernel
theorem dX10_same_218 : decode cX10_same 218 = .ok (.getfield 77, 3) := by decide +kernel
theorem dX10_same_221 : decode cX10_same 221 = .ok (.iconst 3, 1) := by decide +kernel
theorem dX10_same_222 : decode cX10_same 222 = .ok (.iaload, 1) := by decide +kernel
theorem dX10_same_223 : decode cX10_same 223 = .ok (.aload_n 0, 1) := by decide +kernel
theorem dX10_same_224 : decode cX10_same 224 = .ok (.getfield 168, 3) := by decide +kernel
theorem dX10_same_227 : decode cX10_same 227 = .ok (.if_icmp .ne 7, 3) := by decide +kernel
theorem dX10_same_230 : decode cX10_same 230 = .ok (.iconst 1, 1) := by decide +kernel
theorem dX10_same_231 : decode cX10_same 231 = .ok (.goto 4, 3) := by decide +kernel
theorem dX10_same_234 : decode cX10_same 234 = .ok (.iconst 0, 1) := by decide +kernel
theorem dX10_same_235 : decode cX10_same 235 = .ok (.istore 6, 2) := by decide +kernel
theorem dX10_same_237 : decode cX10_same 237 = .ok (.iconst 0, 1) := by decide +kernel
theorem dX10_same_238 : decode cX10_same 238 = .ok (.istore 7, 2) := by decide +kernel
theorem dX10_same_240 : decode cX10_same 240 = .ok (.iload 7, 2) := by decide +kernel
theorem dX10_same_242 : decode cX10_same 242 = .ok (.bipush 8, 2) := by decide +kernel
theorem dX10_same_244 : decode cX10_same 244 = .ok (.if_icmp .ge 40, 3) := by decide +kernel
theorem dX10_same_247 : decode cX10_same 247 = .ok (.iload 6, 2) := by decide +kernel
theorem dX10_same_249 : decode cX10_same 249 = .ok (.ifCond .eq 26, 3) := by decide +kernel
theorem dX10_same_252 : decode cX10_same 252 = .ok (.aload_n 0, 1) := by decide +kernel
theorem dX10_same_253 : decode cX10_same 253 = .ok (.getfield 77, 3) := by decide +kernel
theorem dX10_same_256 : decode cX10_same 256 = .ok (.iconst 4, 1) := by decide +kernel
theorem dX10_same_257 : decode cX10_same 257 = .ok (.iload 7, 2) := by decide +kernel
theorem dX10_same_259 : decode cX10_same 259 = .ok (.iadd, 1) := by decide +kernel
theorem dX10_same_260 : decode cX10_same 260 = .ok (.iaload, 1) := by decide +kernel
theorem dX10_same_261 : decode cX10_same 261 = .ok (.aload_n 0, 1) := by decide +kernel
theorem dX10_same_262 : decode cX10_same 262 = .ok (.getfield 32, 3) := by decide +kernel
theorem dX10_same_265 : decode cX10_same 265 = .ok (.iload 7, 2) := by decide +kernel
theorem dX10_same_267 : decode cX10_same 267 = .ok (.iaload, 1) := by decide +kernel
theorem dX10_same_268 : decode cX10_same 268 = .ok (.if_icmp .ne 7, 3) := by decide +kernel
theorem dX10_same_271 : decode cX10_same 271 = .ok (.iconst 1, 1) := by decide +kernel
theorem dX10_same_272 : decode cX10_same 272 = .ok (.goto 4, 3) := by decide +kernel
theorem dX10_same_275 : decode cX10_same 275 = .ok (.iconst 0, 1) := by decide +kernel
theorem dX10_same_276 : decode cX10_same 276 = .ok (.istore 6, 2) := by decide +kernel
theorem dX10_same_278 : decode cX10_same 278 = .ok (.iinc 7 1, 3) := by decide +kernel
theorem dX10_same_281 : decode cX10_same 281 = .ok (.goto (-41), 3) := by decide +kernel
theorem dX10_same_284 : decode cX10_same 284 = .ok (.iconst 0, 1) := by decide +kernel
theorem dX10_same_285 : decode cX10_same 285 = .ok (.istore 5, 2) := by decide +kernel
theorem dX10_same_287 : decode cX10_same 287 = .ok (.iconst 0, 1) := by decide +kernel
theorem dX10_same_288 : decode cX10_same 288 = .ok (.istore 7, 2) := by decide +kernel
theorem dX10_same_290 : decode cX10_same 290 = .ok (.iload 7, 2) := by decide +kernel
theorem dX10_same_292 : decode cX10_same 292 = .ok (.iconst 4, 1) := by decide +kernel
theorem dX10_same_293 : decode cX10_same 293 = .ok (.if_icmp .ge 93, 3) := by decide +kernel
theorem dX10_same_296 : decode cX10_same 296 = .ok (.iload 6, 2) := by decide +kernel
theorem dX10_same_298 : decode cX10_same 298 = .ok (.ifCond .eq 26, 3) := by decide +kernel
theorem dX10_same_301 : decode cX10_same 301 = .ok (.aload_n 0, 1) := by decide +kernel
theorem dX10_same_302 : decode cX10_same 302 = .ok (.getfield 77, 3) := by decide +kernel
theorem dX10_same_305 : decode cX10_same 305 = .ok (.bipush 12, 2) := by decide +kernel
theorem dX10_same_307 : decode cX10_same 307 = .ok (.iload 7, 2) := by decide +kernel
theorem dX10_same_309 : decode cX10_same 309 = .ok (.iadd, 1) := by decide +kernel
theorem dX10_same_310 : decode cX10_same 310 = .ok (.iaload, 1) := by decide +kernel
theorem dX10_same_311 : decode cX10_same 311 = .ok (.aload_n 0, 1) := by decide +kernel
theorem dX10_same_312 : decode cX10_same 312 = .ok (.iload 7, 2) := by decide +kernel
theorem dX10_same_314 : decode cX10_same 314 = .ok (.invokevirtual 229, 3) := by decide +kernel
theorem dX10_same_317 : decode cX10_same 317 = .ok (.if_icmp .ne 7, 3) := by decide +kernel
theorem dX10_same_320 : decode cX10_same 320 = .ok (.iconst 1, 1) := by decide +kernel
theorem dX10_same_321 : decode cX10_same 321 = .ok (.goto 4, 3) := by decide +kernel
theorem dX10_same_324 : decode cX10_same 324 = .ok (.iconst 0, 1) := by decide +kernel
theorem dX10_same_325 : decode cX10_same 325 = .ok (.istore 6, 2) := by decide +kernel
theorem dX10_same_327 : decode cX10_same 327 = .ok (.iconst 0, 1) := by decide +kernel
theorem dX10_same_328 : decode cX10_same 328 = .ok (.istore 8, 2) := by decide +kernel
theorem dX10_same_330 : decode cX10_same 330 = .ok (.iload 6, 2) := by decide +kernel
theorem dX10_same_332 : decode cX10_same 332 = .ok (.ifCond .eq 48, 3) := by decide +kernel
theorem dX10_same_335 : decode cX10_same 335 = .ok (.iload 8, 2) := by decide +kernel
theorem dX10_same_337 : decode cX10_same 337 = .ok (.aload_n 0, 1) := by decide +kernel
theorem dX10_same_338 : decode cX10_same 338 = .ok (.iload 7, 2) := by decide +kernel
theorem dX10_same_340 : decode cX10_same 340 = .ok (.invokevirtual 229, 3) := by decide +kernel
theorem dX10_same_343 : decode cX10_same 343 = .ok (.if_icmp .ge 37, 3) := by decide +kernel
theorem dX10_same_346 : decode cX10_same 346 = .ok (.aload_n 0, 1) := by decide +kernel
theorem dX10_same_347 : decode cX10_same 347 = .ok (.getfield 80, 3) := by decide +kernel
theorem dX10_same_350 : decode cX10_same 350 = .ok (.iload 5, 2) := by decide +kernel
theorem dX10_same_352 : decode cX10_same 352 = .ok (.iaload, 1) := by decide +kernel
theorem dX10_same_353 : decode cX10_same 353 = .ok (.aload_n 0, 1) := by decide +kernel
theorem dX10_same_354 : decode cX10_same 354 = .ok (.iload 7, 2) := by decide +kernel
theorem dX10_same_356 : decode cX10_same 356 = .ok (.iload 8, 2) := by decide +kernel
theorem dX10_same_358 : decode cX10_same 358 = .ok (.invokevirtual 232, 3) := by decide +kernel
theorem dX10_same_361 : decode cX10_same 361 = .ok (.if_icmp .ne 7, 3) := by decide +kernel
theorem dX10_same_364 : decode cX10_same 364 = .ok (.iconst 1, 1) := by decide +kernel
theorem dX10_same_365 : decode cX10_same 365 = .ok (.goto 4, 3) := by decide +kernel
theorem dX10_same_368 : decode cX10_same 368 = .ok (.iconst 0, 1) := by decide +kernel
theorem dX10_same_369 : decode cX10_same 369 = .ok (.istore 6, 2) := by decide +kernel
theorem dX10_same_371 : decode cX10_same 371 = .ok (.iinc 5 1, 3) := by decide +kernel
theorem dX10_same_374 : decode cX10_same 374 = .ok (.iinc 8 1, 3) := by decide +kernel
theorem dX10_same_377 : decode cX10_same 377 = .ok (.goto (-47), 3) := by decide +kernel
theorem dX10_same_380 : decode cX10_same 380 = .ok (.iinc 7 1, 3) := by decide +kernel
theorem dX10_same_383 : decode cX10_same 383 = .ok (.goto (-93), 3) := by decide +kernel
theorem dX10_same_386 : decode cX10_same 386 = .ok (.iload 6, 2) := by decide +kernel
theorem dX10_same_388 : decode cX10_same 388 = .ok (.ifCond .eq 7, 3) := by decide +kernel
theorem dX10_same_391 : decode cX10_same 391 = .ok (.iconst 1, 1) := by decide +kernel
theorem dX10_same_392 : decode cX10_same 392 = .ok (.goto 4, 3) := by decide +kernel
theorem dX10_same_395 : decode cX10_same 395 = .ok (.iconst 0, 1) := by decide +kernel
theorem dX10_same_396 : decode cX10_same 396 = .ok (.ireturn, 1) := by decide +kernel
theorem dX10_count_0 : decode cX10_count 0 = .ok (.aload_n 0, 1) := by decide +kernel
theorem dX10_count_1 : decode cX10_count 1 = .ok (.iconst 0, 1) := by decide +kernel
theorem dX10_count_2 : decode cX10_count 2 = .ok (.putfield 1, 3) := by decide +kernel
theorem dX10_count_5 : decode cX10_count 5 = .ok (.iconst 0, 1) := by decide +kernel
theorem dX10_count_6 : decode cX10_count 6 = .ok (.istore_n 2, 1) := by decide +kernel
theorem dX10_count_7 : decode cX10_count 7 = .ok (.iconst 0, 1) := by decide +kernel
theorem dX10_count_8 : decode cX10_count 8 = .ok (.istore_n 3, 1) := by decide +kernel
theorem dX10_count_9 : decode cX10_count 9 = .ok (.iload_n 3, 1) := by decide +kernel
theorem dX10_count_10 : decode cX10_count 10 = .ok (.bipush 8, 2) := by decide +kernel
theorem dX10_count_12 : decode cX10_count 12 = .ok (.if_icmp .ge 27, 3) := by decide +kernel
theorem dX10_count_15 : decode cX10_count 15 = .ok (.iload_n 2, 1) := by decide +kernel
theorem dX10_count_16 : decode cX10_count 16 = .ok (.aload_n 0, 1) := by decide +kernel
theorem dX10_count_17 : decode cX10_count 17 = .ok (.getfield 29, 3) := by decide +kernel
theorem dX10_count_20 : decode cX10_count 20 = .ok (.iload_n 3, 1) := by decide +kernel
theorem dX10_count_21 : decode cX10_count 21 = .ok (.iaload, 1) := by decide +kernel
theorem dX10_count_22 : decode cX10_count 22 = .ok (.iconst (-1), 1) := by decide +kernel
theorem dX10_count_23 : decode cX10_count 23 = .ok (.if_icmp .ne 7, 3) := by decide +kernel
theorem dX10_count_26 : decode cX10_count 26 = .ok (.iconst 0, 1) := by decide +kernel
theorem dX10_count_27 : decode cX10_count 27 = .ok (.goto 4, 3) := by decide +kernel
theorem dX10_count_30 : decode cX10_count 30 = .ok (.iconst 1, 1) := by decide +kernel
theorem dX10_count_31 : decode cX10_count 31 = .ok (.iadd, 1) := by decide +kernel
theorem dX10_count_32 : decode cX10_count 32 = .ok (.istore_n 2, 1) := by decide +kernel
theorem dX10_count_33 : decode cX10_count 33 = .ok (.iinc 3 1, 3) := by decide +kernel
theorem dX10_count_36 : decode cX10_count 36 = .ok (.goto (-27), 3) := by decide +kernel
theorem dX10_count_39 : decode cX10_count 39 = .ok (.iload_n 1, 1) := by decide +kernel
theorem dX10_count_40 : decode cX10_count 40 = .ok (.ifCond .lt 17, 3) := by decide +kernel
theorem dX10_count_43 : decode cX10_count 43 = .ok (.iload_n 1, 1) := by decide +kernel
theorem dX10_count_44 : decode cX10_count 44 = .ok (.iconst 3, 1) := by decide +kernel
theorem dX10_count_45 : decode cX10_count 45 = .ok (.if_icmp .gt 12, 3) := by decide +kernel
theorem dX10_count_48 : decode cX10_count 48 = .ok (.aload_n 0, 1) := by decide +kernel
theorem dX10_count_49 : decode cX10_count 49 = .ok (.getfield 59, 3) := by decide +kernel
theorem dX10_count_52 : decode cX10_count 52 = .ok (.iload_n 1, 1) := by decide +kernel
theorem dX10_count_53 : decode cX10_count 53 = .ok (.iaload, 1) := by decide +kernel
theorem dX10_count_54 : decode cX10_count 54 = .ok (.goto 26, 3) := by decide +kernel
theorem dX10_count_57 : decode cX10_count 57 = .ok (.iload_n 1, 1) := by decide +kernel
theorem dX10_count_58 : decode cX10_count 58 = .ok (.iconst 4, 1) := by decide +kernel
theorem dX10_count_59 : decode cX10_count 59 = .ok (.if_icmp .ne 10, 3) := by decide +kernel
theorem dX10_count_62 : decode cX10_count 62 = .ok (.aload_n 0, 1) := by decide +kernel
theorem dX10_count_63 : decode cX10_count 63 = .ok (.getfield 83, 3) := by decide +kernel
theorem dX10_count_66 : decode cX10_count 66 = .ok (.goto 14, 3) := by decide +kernel
theorem dX10_count_69 : decode cX10_count 69 = .ok (.iload_n 1, 1) := by decide +kernel
theorem dX10_count_70 : decode cX10_count 70 = .ok (.iconst 5, 1) := by decide +kernel
theorem dX10_count_71 : decode cX10_count 71 = .ok (.if_icmp .ne 7, 3) := by decide +kernel
theorem dX10_count_74 : decode cX10_count 74 = .ok (.iload_n 2, 1) := by decide +kernel
theorem dX10_count_75 : decode cX10_count 75 = .ok (.goto 5, 3) := by decide +kernel
theorem dX10_count_78 : decode cX10_count 78 = .ok (.bipush (-2), 2) := by decide +kernel
theorem dX10_count_80 : decode cX10_count 80 = .ok (.ireturn, 1) := by decide +kernel
theorem dJ9_max_7cf53_0 : decode cJ9_max_7cf53 0 = .ok (.iload_n 0, 1) := by decide +kernel
theorem dJ9_max_7cf53_1 : decode cJ9_max_7cf53 1 = .ok (.iload_n 1, 1) := by decide +kernel
theorem dJ9_max_7cf53_2 : decode cJ9_max_7cf53 2 = .ok (.if_icmp .lt 7, 3) := by decide +kernel
theorem dJ9_max_7cf53_5 : decode cJ9_max_7cf53 5 = .ok (.iload_n 0, 1) := by decide +kernel
theorem dJ9_max_7cf53_6 : decode cJ9_max_7cf53 6 = .ok (.goto 4, 3) := by decide +kernel
theorem dJ9_max_7cf53_9 : decode cJ9_max_7cf53 9 = .ok (.iload_n 1, 1) := by decide +kernel
theorem dJ9_max_7cf53_10 : decode cJ9_max_7cf53 10 = .ok (.ireturn, 1) := by decide +kernel
theorem dJ7_fill_53178_0 : decode cJ7_fill_53178 0 = .ok (.iconst 0, 1) := by decide +kernel
theorem dJ7_fill_53178_1 : decode cJ7_fill_53178 1 = .ok (.istore_n 2, 1) := by decide +kernel
theorem dJ7_fill_53178_2 : decode cJ7_fill_53178 2 = .ok (.aload_n 0, 1) := by decide +kernel
theorem dJ7_fill_53178_3 : decode cJ7_fill_53178 3 = .ok (.arraylength, 1) := by decide +kernel
theorem dJ7_fill_53178_4 : decode cJ7_fill_53178 4 = .ok (.istore_n 3, 1) := by decide +kernel
theorem dJ7_fill_53178_5 : decode cJ7_fill_53178 5 = .ok (.iload_n 2, 1) := by decide +kernel
theorem dJ7_fill_53178_6 : decode cJ7_fill_53178 6 = .ok (.iload_n 3, 1) := by decide +kernel
theorem dJ7_fill_53178_7 : decode cJ7_fill_53178 7 = .ok (.if_icmp .ge 13, 3) := by decide +kernel
theorem dJ7_fill_53178_10 : decode cJ7_fill_53178 10 = .ok (.aload_n 0, 1) := by decide +kernel
theorem dJ7_fill_53178_11 : decode cJ7_fill_53178 11 = .ok (.iload_n 2, 1) := by decide +kernel
theorem dJ7_fill_53178_12 : decode cJ7_fill_53178 12 = .ok (.iload_n 1, 1) := by decide +kernel
theorem dJ7_fill_53178_13 : decode cJ7_fill_53178 13 = .ok (.iastore, 1) := by decide +kernel
theorem dJ7_fill_53178_14 : decode cJ7_fill_53178 14 = .ok (.iinc 2 1, 3) := by decide +kernel
theorem dJ7_fill_53178_17 : decode cJ7_fill_53178 17 = .ok (.goto (-12), 3) := by decide +kernel
theorem dJ7_fill_53178_20 : decode cJ7_fill_53178 20 = .ok (.return_, 1) := by decide +kernel
end
section
section AJR
variable {d : Nat} {k : MK} {lay : Lay} {pc q : Nat} {ls : AL} {st : List Value} {S : Sx} {Q : Option Value → Sx → Prop}

theorem aj_iconst {n : Int} {v : Int32} (hd : decode k.2.1 pc = .ok (.iconst n, 1)) (hq : pc + 1 = q) (hv : Int32.ofInt n = v) (kk : AJ d k lay q ls (.int v :: st) S Q) : AJ d k lay pc ls st S Q := by
  subst hq
  intro p l e s m args below meth c dC dI cA ad A H locs lsA hC hW hL
  exact lv_iconst hC.1 hC.2.1 hd hv (kk p l e s m args below meth c dC dI cA ad A H locs lsA hC hW hL)
theorem aj_bipush {n : Int} {v : Int32} (hd : decode k.2.1 pc = .ok (.bipush n, 2)) (hq : pc + 2 = q) (hv : (Int8.ofInt n).toInt32 = v) (kk : AJ d k lay q ls (.int v :: st) S Q) : AJ d k lay pc ls st S Q := by
  subst hq
  intro p l e s m args below meth c dC dI cA ad A H locs lsA hC hW hL
  exact lv_bipush hC.1 hC.2.1 hd hv (kk p l e s m args below meth c dC dI cA ad A H locs lsA hC hW hL)
theorem aj_sipush {n : Int} {v : Int32} (hd : decode k.2.1 pc = .ok (.sipush n, 3)) (hq : pc + 3 = q) (hv : (Int16.ofInt n).toInt32 = v) (kk : AJ d k lay q ls (.int v :: st) S Q) : AJ d k lay pc ls st S Q := by
  subst hq
  intro p l e s m args below meth c dC dI cA ad A H locs lsA hC hW hL
  exact lv_sipush hC.1 hC.2.1 hd hv (kk p l e s m args below meth c dC dI cA ad A H locs lsA hC hW hL)
theorem aj_iload_n {j : Fin 4} {i : Nat} {x : Int32} (hd : decode k.2.1 pc = .ok (.iload_n j, 1)) (hq : pc + 1 = q) (hi : (j : Nat) = i) (hl : ls[i]? = some (some (.int x))) (kk : AJ d k lay q ls (.int x :: st) S Q) : AJ d k lay pc ls st S Q := by
  subst hq
  intro p l e s m args below meth c dC dI cA ad A H locs lsA hC hW hL
  exact lv_iload_n hC.1 hC.2.1 hd hi (hL.2.2 i _ hl).2 (kk p l e s m args below meth c dC dI cA ad A H locs lsA hC hW hL)
theorem aj_iload {i : Nat} {x : Int32} (hd : decode k.2.1 pc = .ok (.iload i, 2)) (hq : pc + 2 = q) (hl : ls[i]? = some (some (.int x))) (kk : AJ d k lay q ls (.int x :: st) S Q) : AJ d k lay pc ls st S Q := by
  subst hq
  intro p l e s m args below meth c dC dI cA ad A H locs lsA hC hW hL
  exact lv_iload hC.1 hC.2.1 hd (hL.2.2 i _ hl).2 (kk p l e s m args below meth c dC dI cA ad A H locs lsA hC hW hL)
theorem aj_aload_n {j : Fin 4} {i : Nat} {x : Nat} (hd : decode k.2.1 pc = .ok (.aload_n j, 1)) (hq : pc + 1 = q) (hi : (j : Nat) = i) (hl : ls[i]? = some (some (.ref x))) (kk : AJ d k lay q ls (.ref x :: st) S Q) : AJ d k lay pc ls st S Q := by
  subst hq
  intro p l e s m args below meth c dC dI cA ad A H locs lsA hC hW hL
  exact lv_aload_n hC.1 hC.2.1 hd hi (hL.2.2 i _ hl).2 (kk p l e s m args below meth c dC dI cA ad A H locs lsA hC hW hL)
theorem aj_aload {i : Nat} {x : Nat} (hd : decode k.2.1 pc = .ok (.aload i, 2)) (hq : pc + 2 = q) (hl : ls[i]? = some (some (.ref x))) (kk : AJ d k lay q ls (.ref x :: st) S Q) : AJ d k lay pc ls st S Q := by
  subst hq
  intro p l e s m args below meth c dC dI cA ad A H locs lsA hC hW hL
  exact lv_aload hC.1 hC.2.1 hd (hL.2.2 i _ hl).2 (kk p l e s m args below meth c dC dI cA ad A H locs lsA hC hW hL)
theorem aj_istore_n {j : Fin 4} {i : Nat} {x : Int32} {ls' : AL} (hd : decode k.2.1 pc = .ok (.istore_n j, 1)) (hq : pc + 1 = q) (hi : (j : Nat) = i) (hn : i < k.2.2.1) (hl : ls.set i (some (.int x)) = ls') (kk : AJ d k lay q ls' st S Q) : AJ d k lay pc ls (.int x :: st) S Q := by
  subst hq; subst hl
  intro p l e s m args below meth c dC dI cA ad A H locs lsA hC hW hL
  exact lv_istore_n hC.1 hC.2.1 hd hi hL.has hn rfl (fun lsB hB => kk p l e s m args below meth c dC dI cA ad A H locs lsB hC hW (hL.set rfl hB))
theorem aj_istore {i : Nat} {x : Int32} {ls' : AL} (hd : decode k.2.1 pc = .ok (.istore i, 2)) (hq : pc + 2 = q) (hn : i < k.2.2.1) (hl : ls.set i (some (.int x)) = ls') (kk : AJ d k lay q ls' st S Q) : AJ d k lay pc ls (.int x :: st) S Q := by
  subst hq; subst hl
  intro p l e s m args below meth c dC dI cA ad A H locs lsA hC hW hL
  exact lv_istore hC.1 hC.2.1 hd hL.has hn rfl (fun lsB hB => kk p l e s m args below meth c dC dI cA ad A H locs lsB hC hW (hL.set rfl hB))
theorem aj_astore_n {j : Fin 4} {i : Nat} {x : Nat} {ls' : AL} (hd : decode k.2.1 pc = .ok (.astore_n j, 1)) (hq : pc + 1 = q) (hi : (j : Nat) = i) (hn : i < k.2.2.1) (hl : ls.set i (some (.ref x)) = ls') (kk : AJ d k lay q ls' st S Q) : AJ d k lay pc ls (.ref x :: st) S Q := by
  subst hq; subst hl
  intro p l e s m args below meth c dC dI cA ad A H locs lsA hC hW hL
  exact lv_astore_n hC.1 hC.2.1 hd hi hL.has hn rfl (fun lsB hB => kk p l e s m args below meth c dC dI cA ad A H locs lsB hC hW (hL.set rfl hB))
theorem aj_astore {i : Nat} {x : Nat} {ls' : AL} (hd : decode k.2.1 pc = .ok (.astore i, 2)) (hq : pc + 2 = q) (hn : i < k.2.2.1) (hl : ls.set i (some (.ref x)) = ls') (kk : AJ d k lay q ls' st S Q) : AJ d k lay pc ls (.ref x :: st) S Q := by
  subst hq; subst hl
  intro p l e s m args below meth c dC dI cA ad A H locs lsA hC hW hL
  exact lv_astore hC.1 hC.2.1 hd hL.has hn rfl (fun lsB hB => kk p l e s m args below meth c dC dI cA ad A H locs lsB hC hW (hL.set rfl hB))
theorem aj_iinc {i : Nat} {n : Int} {x v : Int32} {ls' : AL} (hd : decode k.2.1 pc = .ok (.iinc i n, 3)) (hq : pc + 3 = q) (hx : ls[i]? = some (some (.int x))) (hv : x + Int32.ofInt n = v) (hn : i < k.2.2.1) (hl : ls.set i (some (.int v)) = ls') (kk : AJ d k lay q ls' st S Q) : AJ d k lay pc ls st S Q := by
  subst hq; subst hl
  intro p l e s m args below meth c dC dI cA ad A H locs lsA hC hW hL
  obtain ⟨z, hz⟩ := List.mem_iff_getElem?.mp (LRl_mem.mpr ⟨.int x, hx, rfl⟩ : (i, cv ad (.int x)) ∈ LRl ad ls)
  exact lv_iinc hC.1 hC.2.1 hd hL.has (k := z) hz hv hn rfl (fun lsB hB => kk p l e s m args below meth c dC dI cA ad A H locs lsB hC hW (hL.set rfl hB))
theorem aj_iadd {x y : Int32} (hd : decode k.2.1 pc = .ok (.iadd, 1)) (hq : pc + 1 = q) (kk : AJ d k lay q ls (.int (x + y) :: st) S Q) : AJ d k lay pc ls (.int y :: .int x :: st) S Q := by
  subst hq
  intro p l e s m args below meth c dC dI cA ad A H locs lsA hC hW hL
  exact lv_iadd hC.1 hC.2.1 hd (kk p l e s m args below meth c dC dI cA ad A H locs lsA hC hW hL)
theorem aj_isub {x y : Int32} (hd : decode k.2.1 pc = .ok (.isub, 1)) (hq : pc + 1 = q) (kk : AJ d k lay q ls (.int (x - y) :: st) S Q) : AJ d k lay pc ls (.int y :: .int x :: st) S Q := by
  subst hq
  intro p l e s m args below meth c dC dI cA ad A H locs lsA hC hW hL
  exact lv_isub hC.1 hC.2.1 hd (kk p l e s m args below meth c dC dI cA ad A H locs lsA hC hW hL)
theorem aj_imul {x y : Int32} (hd : decode k.2.1 pc = .ok (.imul, 1)) (hq : pc + 1 = q) (kk : AJ d k lay q ls (.int (x * y) :: st) S Q) : AJ d k lay pc ls (.int y :: .int x :: st) S Q := by
  subst hq
  intro p l e s m args below meth c dC dI cA ad A H locs lsA hC hW hL
  exact lv_imul hC.1 hC.2.1 hd (kk p l e s m args below meth c dC dI cA ad A H locs lsA hC hW hL)
theorem aj_iand {x y : Int32} (hd : decode k.2.1 pc = .ok (.iand, 1)) (hq : pc + 1 = q) (kk : AJ d k lay q ls (.int (x &&& y) :: st) S Q) : AJ d k lay pc ls (.int y :: .int x :: st) S Q := by
  subst hq
  intro p l e s m args below meth c dC dI cA ad A H locs lsA hC hW hL
  exact lv_iand hC.1 hC.2.1 hd (kk p l e s m args below meth c dC dI cA ad A H locs lsA hC hW hL)
theorem aj_ishr {x y : Int32} (hd : decode k.2.1 pc = .ok (.ishr, 1)) (hq : pc + 1 = q) (kk : AJ d k lay q ls (.int (x >>> (y &&& 31)) :: st) S Q) : AJ d k lay pc ls (.int y :: .int x :: st) S Q := by
  subst hq
  intro p l e s m args below meth c dC dI cA ad A H locs lsA hC hW hL
  exact lv_ishr hC.1 hC.2.1 hd (kk p l e s m args below meth c dC dI cA ad A H locs lsA hC hW hL)
theorem aj_idiv {x y : Int32} (hd : decode k.2.1 pc = .ok (.idiv, 1)) (hq : pc + 1 = q) (hne : ¬ y = 0) (kk : AJ d k lay q ls (.int (x / y) :: st) S Q) : AJ d k lay pc ls (.int y :: .int x :: st) S Q := by
  subst hq
  intro p l e s m args below meth c dC dI cA ad A H locs lsA hC hW hL
  exact lv_idiv hC.1 hC.2.1 hd hne (kk p l e s m args below meth c dC dI cA ad A H locs lsA hC hW hL)
theorem aj_irem {x y : Int32} (hd : decode k.2.1 pc = .ok (.irem, 1)) (hq : pc + 1 = q) (hne : ¬ y = 0) (kk : AJ d k lay q ls (.int (x - x / y * y) :: st) S Q) : AJ d k lay pc ls (.int y :: .int x :: st) S Q := by
  subst hq
  intro p l e s m args below meth c dC dI cA ad A H locs lsA hC hW hL
  exact lv_irem hC.1 hC.2.1 hd hne (kk p l e s m args below meth c dC dI cA ad A H locs lsA hC hW hL)
theorem aj_icmp_eq {x y : Int32} {off : Int} {tgt : Nat} (hd : decode k.2.1 pc = .ok (.if_icmp .eq off, 3)) (hq : pc + 3 = q) (ht : (pc : Int) + off = (tgt : Int)) (kt : x = y → AJ d k lay tgt ls st S Q) (kf : ¬ x = y → AJ d k lay q ls st S Q) : AJ d k lay pc ls (.int y :: .int x :: st) S Q := by
  subst hq
  intro p l e s m args below meth c dC dI cA ad A H locs lsA hC hW hL
  exact lv_icmp_eq hC.1 hC.2.1 hd ht (fun hc => kt hc p l e s m args below meth c dC dI cA ad A H locs lsA hC hW hL) (fun hc => kf hc p l e s m args below meth c dC dI cA ad A H locs lsA hC hW hL)
theorem aj_if_eq {x : Int32} {off : Int} {tgt : Nat} (hd : decode k.2.1 pc = .ok (.ifCond .eq off, 3)) (hq : pc + 3 = q) (ht : (pc : Int) + off = (tgt : Int)) (kt : x = 0 → AJ d k lay tgt ls st S Q) (kf : ¬ x = 0 → AJ d k lay q ls st S Q) : AJ d k lay pc ls (.int x :: st) S Q := by
  subst hq
  intro p l e s m args below meth c dC dI cA ad A H locs lsA hC hW hL
  exact lv_if_eq hC.1 hC.2.1 hd ht (fun hc => kt hc p l e s m args below meth c dC dI cA ad A H locs lsA hC hW hL) (fun hc => kf hc p l e s m args below meth c dC dI cA ad A H locs lsA hC hW hL)
theorem aj_icmp_ne {x y : Int32} {off : Int} {tgt : Nat} (hd : decode k.2.1 pc = .ok (.if_icmp .ne off, 3)) (hq : pc + 3 = q) (ht : (pc : Int) + off = (tgt : Int)) (kt : ¬ x = y → AJ d k lay tgt ls st S Q) (kf : x = y → AJ d k lay q ls st S Q) : AJ d k lay pc ls (.int y :: .int x :: st) S Q := by
  subst hq
  intro p l e s m args below meth c dC dI cA ad A H locs lsA hC hW hL
  exact lv_icmp_ne hC.1 hC.2.1 hd ht (fun hc => kt hc p l e s m args below meth c dC dI cA ad A H locs lsA hC hW hL) (fun hc => kf hc p l e s m args below meth c dC dI cA ad A H locs lsA hC hW hL)
theorem aj_if_ne {x : Int32} {off : Int} {tgt : Nat} (hd : decode k.2.1 pc = .ok (.ifCond .ne off, 3)) (hq : pc + 3 = q) (ht : (pc : Int) + off = (tgt : Int)) (kt : ¬ x = 0 → AJ d k lay tgt ls st S Q) (kf : x = 0 → AJ d k lay q ls st S Q) : AJ d k lay pc ls (.int x :: st) S Q := by
  subst hq
  intro p l e s m args below meth c dC dI cA ad A H locs lsA hC hW hL
  exact lv_if_ne hC.1 hC.2.1 hd ht (fun hc => kt hc p l e s m args below meth c dC dI cA ad A H locs lsA hC hW hL) (fun hc => kf hc p l e s m args below meth c dC dI cA ad A H locs lsA hC hW hL)
theorem aj_icmp_lt {x y : Int32} {off : Int} {tgt : Nat} (hd : decode k.2.1 pc = .ok (.if_icmp .lt off, 3)) (hq : pc + 3 = q) (ht : (pc : Int) + off = (tgt : Int)) (kt : x < y → AJ d k lay tgt ls st S Q) (kf : ¬ x < y → AJ d k lay q ls st S Q) : AJ d k lay pc ls (.int y :: .int x :: st) S Q := by
  subst hq
  intro p l e s m args below meth c dC dI cA ad A H locs lsA hC hW hL
  exact lv_icmp_lt hC.1 hC.2.1 hd ht (fun hc => kt hc p l e s m args below meth c dC dI cA ad A H locs lsA hC hW hL) (fun hc => kf hc p l e s m args below meth c dC dI cA ad A H locs lsA hC hW hL)
theorem aj_if_lt {x : Int32} {off : Int} {tgt : Nat} (hd : decode k.2.1 pc = .ok (.ifCond .lt off, 3)) (hq : pc + 3 = q) (ht : (pc : Int) + off = (tgt : Int)) (kt : x < 0 → AJ d k lay tgt ls st S Q) (kf : ¬ x < 0 → AJ d k lay q ls st S Q) : AJ d k lay pc ls (.int x :: st) S Q := by
  subst hq
  intro p l e s m args below meth c dC dI cA ad A H locs lsA hC hW hL
  exact lv_if_lt hC.1 hC.2.1 hd ht (fun hc => kt hc p l e s m args below meth c dC dI cA ad A H locs lsA hC hW hL) (fun hc => kf hc p l e s m args below meth c dC dI cA ad A H locs lsA hC hW hL)
theorem aj_icmp_ge {x y : Int32} {off : Int} {tgt : Nat} (hd : decode k.2.1 pc = .ok (.if_icmp .ge off, 3)) (hq : pc + 3 = q) (ht : (pc : Int) + off = (tgt : Int)) (kt : y ≤ x → AJ d k lay tgt ls st S Q) (kf : ¬ y ≤ x → AJ d k lay q ls st S Q) : AJ d k lay pc ls (.int y :: .int x :: st) S Q := by
  subst hq
  intro p l e s m args below meth c dC dI cA ad A H locs lsA hC hW hL
  exact lv_icmp_ge hC.1 hC.2.1 hd ht (fun hc => kt hc p l e s m args below meth c dC dI cA ad A H locs lsA hC hW hL) (fun hc => kf hc p l e s m args below meth c dC dI cA ad A H locs lsA hC hW hL)
theorem aj_if_ge {x : Int32} {off : Int} {tgt : Nat} (hd : decode k.2.1 pc = .ok (.ifCond .ge off, 3)) (hq : pc + 3 = q) (ht : (pc : Int) + off = (tgt : Int)) (kt : 0 ≤ x → AJ d k lay tgt ls st S Q) (kf : ¬ 0 ≤ x → AJ d k lay q ls st S Q) : AJ d k lay pc ls (.int x :: st) S Q := by
  subst hq
  intro p l e s m args below meth c dC dI cA ad A H locs lsA hC hW hL
  exact lv_if_ge hC.1 hC.2.1 hd ht (fun hc => kt hc p l e s m args below meth c dC dI cA ad A H locs lsA hC hW hL) (fun hc => kf hc p l e s m args below meth c dC dI cA ad A H locs lsA hC hW hL)
theorem aj_icmp_gt {x y : Int32} {off : Int} {tgt : Nat} (hd : decode k.2.1 pc = .ok (.if_icmp .gt off, 3)) (hq : pc + 3 = q) (ht : (pc : Int) + off = (tgt : Int)) (kt : y < x → AJ d k lay tgt ls st S Q) (kf : ¬ y < x → AJ d k lay q ls st S Q) : AJ d k lay pc ls (.int y :: .int x :: st) S Q := by
  subst hq
  intro p l e s m args below meth c dC dI cA ad A H locs lsA hC hW hL
  exact lv_icmp_gt hC.1 hC.2.1 hd ht (fun hc => kt hc p l e s m args below meth c dC dI cA ad A H locs lsA hC hW hL) (fun hc => kf hc p l e s m args below meth c dC dI cA ad A H locs lsA hC hW hL)
theorem aj_if_gt {x : Int32} {off : Int} {tgt : Nat} (hd : decode k.2.1 pc = .ok (.ifCond .gt off, 3)) (hq : pc + 3 = q) (ht : (pc : Int) + off = (tgt : Int)) (kt : 0 < x → AJ d k lay tgt ls st S Q) (kf : ¬ 0 < x → AJ d k lay q ls st S Q) : AJ d k lay pc ls (.int x :: st) S Q := by
  subst hq
  intro p l e s m args below meth c dC dI cA ad A H locs lsA hC hW hL
  exact lv_if_gt hC.1 hC.2.1 hd ht (fun hc => kt hc p l e s m args below meth c dC dI cA ad A H locs lsA hC hW hL) (fun hc => kf hc p l e s m args below meth c dC dI cA ad A H locs lsA hC hW hL)
theorem aj_icmp_le {x y : Int32} {off : Int} {tgt : Nat} (hd : decode k.2.1 pc = .ok (.if_icmp .le off, 3)) (hq : pc + 3 = q) (ht : (pc : Int) + off = (tgt : Int)) (kt : x ≤ y → AJ d k lay tgt ls st S Q) (kf : ¬ x ≤ y → AJ d k lay q ls st S Q) : AJ d k lay pc ls (.int y :: .int x :: st) S Q := by
  subst hq
  intro p l e s m args below meth c dC dI cA ad A H locs lsA hC hW hL
  exact lv_icmp_le hC.1 hC.2.1 hd ht (fun hc => kt hc p l e s m args below meth c dC dI cA ad A H locs lsA hC hW hL) (fun hc => kf hc p l e s m args below meth c dC dI cA ad A H locs lsA hC hW hL)
theorem aj_if_le {x : Int32} {off : Int} {tgt : Nat} (hd : decode k.2.1 pc = .ok (.ifCond .le off, 3)) (hq : pc + 3 = q) (ht : (pc : Int) + off = (tgt : Int)) (kt : x ≤ 0 → AJ d k lay tgt ls st S Q) (kf : ¬ x ≤ 0 → AJ d k lay q ls st S Q) : AJ d k lay pc ls (.int x :: st) S Q := by
  subst hq
  intro p l e s m args below meth c dC dI cA ad A H locs lsA hC hW hL
  exact lv_if_le hC.1 hC.2.1 hd ht (fun hc => kt hc p l e s m args below meth c dC dI cA ad A H locs lsA hC hW hL) (fun hc => kf hc p l e s m args below meth c dC dI cA ad A H locs lsA hC hW hL)
theorem aj_goto {off : Int} {tgt : Nat} (hd : decode k.2.1 pc = .ok (.goto off, 3)) (ht : (pc : Int) + off = (tgt : Int)) (kk : AJ d k lay tgt ls st S Q) : AJ d k lay pc ls st S Q := by
  intro p l e s m args below meth c dC dI cA ad A H locs lsA hC hW hL
  exact lv_goto hC.1 hC.2.1 hd ht (kk p l e s m args below meth c dC dI cA ad A H locs lsA hC hW hL)
theorem aj_dup {v : Value} (hd : decode k.2.1 pc = .ok (.dup, 1)) (hq : pc + 1 = q) (hc : v.category = 1) (kk : AJ d k lay q ls (v :: v :: st) S Q) : AJ d k lay pc ls (v :: st) S Q := by
  subst hq
  intro p l e s m args below meth c dC dI cA ad A H locs lsA hC hW hL
  exact lv_dup hC.1 hC.2.1 hd ((cv_cat ad v).trans hc) (kk p l e s m args below meth c dC dI cA ad A H locs lsA hC hW hL)
theorem aj_dup2 {v w : Value} (hd : decode k.2.1 pc = .ok (.dup2, 1)) (hq : pc + 1 = q) (hc : v.category = 1) (hc2 : w.category = 1) (kk : AJ d k lay q ls (v :: w :: v :: w :: st) S Q) : AJ d k lay pc ls (v :: w :: st) S Q := by
  subst hq
  intro p l e s m args below meth c dC dI cA ad A H locs lsA hC hW hL
  exact lv_dup2_11 hC.1 hC.2.1 hd ((cv_cat ad v).trans hc) ((cv_cat ad w).trans hc2) (kk p l e s m args below meth c dC dI cA ad A H locs lsA hC hW hL)
theorem aj_pop {v : Value} (hd : decode k.2.1 pc = .ok (.pop, 1)) (hq : pc + 1 = q) (hc : v.category = 1) (kk : AJ d k lay q ls st S Q) : AJ d k lay pc ls (v :: st) S Q := by
  subst hq
  intro p l e s m args below meth c dC dI cA ad A H locs lsA hC hW hL
  exact lv_pop hC.1 hC.2.1 hd ((cv_cat ad v).trans hc) (kk p l e s m args below meth c dC dI cA ad A H locs lsA hC hW hL)
theorem aj_ldc {idx : Nat} {v : Int32} (hd : decode k.2.1 pc = .ok (.ldc idx, 2)) (hq : pc + 2 = q) (hw : Cond.constant k.1.cls idx v ∈ TT) (kk : AJ d k lay q ls (.int v :: st) S Q) : AJ d k lay pc ls st S Q := by
  subst hq
  intro p l e s m args below meth c dC dI cA ad A H locs lsA hC hW hL
  exact lv_ldc hC.1 hC.2.1 hC.2.2.2.2.1 (hC.2.2.2.2.2.1 _ hw) hd (kk p l e s m args below meth c dC dI cA ad A H locs lsA hC hW hL)
theorem aj_ifnull {b : Nat} {off : Int} (hd : decode k.2.1 pc = .ok (.ifnull off, 3)) (hq : pc + 3 = q) (kk : AJ d k lay q ls st S Q) : AJ d k lay pc ls (.ref b :: st) S Q := by
  subst hq
  intro p l e s m args below meth c dC dI cA ad A H locs lsA hC hW hL
  exact lv_ifnull hC.1 hC.2.1 hd (kk p l e s m args below meth c dC dI cA ad A H locs lsA hC hW hL)
theorem aj_ifnonnull {b : Nat} {off : Int} {tgt : Nat} (hd : decode k.2.1 pc = .ok (.ifnonnull off, 3)) (ht : (pc : Int) + off = (tgt : Int)) (kk : AJ d k lay tgt ls st S Q) : AJ d k lay pc ls (.ref b :: st) S Q := by
  intro p l e s m args below meth c dC dI cA ad A H locs lsA hC hW hL
  exact lv_ifnonnull hC.1 hC.2.1 hd ht (kk p l e s m args below meth c dC dI cA ad A H locs lsA hC hW hL)
theorem aj_tsOut {dflt lo hi : Int} {offs : Array Int} {len : Nat} {x : Int32} {tgt : Nat} (hd : decode k.2.1 pc = .ok (.tableswitch dflt lo hi offs, len)) (h : x.toInt < lo ∨ hi < x.toInt) (ht : (pc : Int) + dflt = (tgt : Int)) (kk : AJ d k lay tgt ls st S Q) : AJ d k lay pc ls (.int x :: st) S Q := by
  intro p l e s m args below meth c dC dI cA ad A H locs lsA hC hW hL
  exact lv_tableOut hC.1 hC.2.1 hd h ht (kk p l e s m args below meth c dC dI cA ad A H locs lsA hC hW hL)
theorem aj_tsIn {dflt lo hi : Int} {offs : Array Int} {len : Nat} {x : Int32} {off : Int} {tgt : Nat} (hd : decode k.2.1 pc = .ok (.tableswitch dflt lo hi offs, len)) (h1 : ¬ x.toInt < lo) (h2 : ¬ hi < x.toInt) (ho : offs[(x.toInt - lo).toNat]? = some off) (ht : (pc : Int) + off = (tgt : Int)) (kk : AJ d k lay tgt ls st S Q) : AJ d k lay pc ls (.int x :: st) S Q := by
  intro p l e s m args below meth c dC dI cA ad A H locs lsA hC hW hL
  exact lv_tableIn hC.1 hC.2.1 hd h1 h2 ho ht (kk p l e s m args below meth c dC dI cA ad A H locs lsA hC hW hL)
theorem QQ.of {dC : Nat → ClassId} {dI : Nat → Nat → Nat} {cA : ClassId} {ad : List Nat} {A : Nat → Prop} {s t : State} {args : Array Value} {H : Heap} {locs : List Loc} {r : Option Value} (hW : Wd dC dI cA ad A s lay S H locs) (hQ : Q r S) (ht : t.heap = H) (hw : s.WarmedH t.vm) : QQ dC dI cA ad A lay Q args s (.returned (r.map (cv ad))) t :=
  ⟨⟨r, S, rfl, hQ, by rw [ht]; exact hW.2.1, va_K.moved hw.alike hW.1, hW.2.2.1⟩, hW.2.2.2.1.F ht⟩
theorem aj_ireturn {v : Int32} (hd : decode k.2.1 pc = .ok (.ireturn, 1)) (hr : k.2.2.2 = some .int) (hQ : Q (some (.int v)) S) : AJ d k lay pc ls [.int v] S Q := by
  intro p l e s m args below meth c dC dI cA ad A H locs lsA hC hW hL
  exact W.iret hC.1 hC.2.1 (hC.2.2.1.trans hr) (fun t ht hw => QQ.of (r := some (.int v)) hW hQ ht hw) hW.2.2.2.1.2.2 hd hC.2.2.2.2.2.2.1
theorem aj_zreturn {v : Int32} (hd : decode k.2.1 pc = .ok (.ireturn, 1)) (hr : k.2.2.2 = some .boolean) (hn : narrow .boolean (.int v) = .int v) (hQ : Q (some (.int v)) S) : AJ d k lay pc ls [.int v] S Q := by
  intro p l e s m args below meth c dC dI cA ad A H locs lsA hC hW hL
  exact W.zret (ty := .boolean) hC.1 hC.2.1 (hC.2.2.1.trans hr) hn (fun t ht hw => QQ.of (r := some (.int v)) hW hQ ht hw) hW.2.2.2.1.2.2 hd hC.2.2.2.2.2.2.1
theorem aj_return (hd : decode k.2.1 pc = .ok (.return_, 1)) (hr : k.2.2.2 = none) (hQ : Q none S) : AJ d k lay pc ls [] S Q := by
  intro p l e s m args below meth c dC dI cA ad A H locs lsA hC hW hL
  exact W.vret hC.1 hC.2.1 (hC.2.2.1.trans hr) (fun t ht hw => QQ.of (r := none) hW hQ ht hw) hW.2.2.2.1.2.2 hd hC.2.2.2.2.2.2.1
end AJR
section AJF
variable {d : Nat} {k : MK} {lay : Lay} {pc q : Nat} {ls : AL} {st : List Value} {S : Sx} {Q : Option Value → Sx → Prop}
theorem aj_getf {idx b ci j : Nat} {sl : List Slt} {x : Slt} (F : FL k.1.cls idx ci j) (hd : decode k.2.1 pc = .ok (.getfield idx, 3)) (hq : pc + 3 = q) (hlay : lay[b]? = some (.inr (ci, sl))) (hj : sl[j]? = some x) (kk : AJ d k lay q ls (slv S (100 * b + j) x :: st) S Q) : AJ d k lay pc ls (.ref b :: st) S Q := by
  subst hq
  intro p l e s m args below meth c dC dI cA ad A H locs lsA hC hW hL
  obtain ⟨C, T, N, h1, h2, h3, h4⟩ := F
  have he : (cw cA ad lay S)[b]? = some (ad.getD b 0, .inr (ci, sl.mapIdx (fun j x => cv ad (slv S (100 * b + j) x)))) := cw_get hlay
  have hv : (sl.mapIdx (fun j x => cv ad (slv S (100 * b + j) x)))[j]? = some (cv ad (slv S (100 * b + j) x)) := by rw [List.getElem?_mapIdx, hj]; rfl
  rcases h4 with h4 | ⟨host, h4⟩
  · exact va_get (D := (dC, dI)) hC.1 hC.2.1 hC.2.2.2.2.2.1 h3 hC.2.2.2.2.1 hW.1 hW.2.1 b he h1 j h2 (hC.2.2.2.2.2.1 _ h4) (fun _ h9 => h9) hv hd (kk p l e s m args below meth c dC dI cA ad A H locs lsA hC hW hL)
  · exact va_getN (D := (dC, dI)) hC.1 hC.2.1 hC.2.2.2.2.2.1 h3 hC.2.2.2.2.1 hW.1 hW.2.1 b he h1 j h2 (hC.2.2.2.2.2.2.2.use h4) (fun _ h9 => h9) hv hd (kk p l e s m args below meth c dC dI cA ad A H locs lsA hC hW hL)
theorem aj_getI {idx b ci j f : Nat} {sl : List Slt} (F : FL k.1.cls idx ci j) (hd : decode k.2.1 pc = .ok (.getfield idx, 3)) (hq : pc + 3 = q) (hlay : lay[b]? = some (.inr (ci, sl))) (hj : sl[j]? = some none) (hf : 100 * b + j = f) (kk : AJ d k lay q ls (.int (S f 0) :: st) S Q) : AJ d k lay pc ls (.ref b :: st) S Q := by
  subst hf
  exact aj_getf F hd hq hlay hj kk
theorem aj_getR {idx b ci j r : Nat} {sl : List Slt} (F : FL k.1.cls idx ci j) (hd : decode k.2.1 pc = .ok (.getfield idx, 3)) (hq : pc + 3 = q) (hlay : lay[b]? = some (.inr (ci, sl))) (hj : sl[j]? = some (some (some r))) (kk : AJ d k lay q ls (.ref r :: st) S Q) : AJ d k lay pc ls (.ref b :: st) S Q := aj_getf F hd hq hlay hj kk
theorem aj_getD {idx b ci j f : Nat} {sl : List Slt} (F : FL k.1.cls idx ci j) (hd : decode k.2.1 pc = .ok (.getfield idx, 3)) (hq : pc + 3 = q) (hlay : lay[b]? = some (.inr (ci, sl))) (hj : sl[j]? = some (some none)) (hf : 100 * b + j = f) (kk : AJ d k lay q ls (.ref (S f 0).toNatClampNeg :: st) S Q) : AJ d k lay pc ls (.ref b :: st) S Q := by
  subst hf
  exact aj_getf F hd hq hlay hj kk
theorem sl_set {S : Sx} {ad : List Nat} {b j : Nat} {sl : List Slt} {x : Slt} {v : Int32} {w : Value} (hj : sl[j]? = some x) (hw : w = cv ad (slv (sw S (100 * b + j) 0 v) (100 * b + j) x)) : (sl.mapIdx (fun j x => cv ad (slv S (100 * b + j) x))).set j w = sl.mapIdx (fun i x => cv ad (slv (sw S (100 * b + j) 0 v) (100 * b + i) x)) := by
  apply List.ext_getElem?
  intro i
  rw [List.getElem?_set, List.getElem?_mapIdx, List.getElem?_mapIdx]
  by_cases hij : j = i
  · subst hij
    rw [if_pos rfl, if_pos (by rw [List.length_mapIdx]; exact (List.getElem?_eq_some_iff.mp hj).1), hj, hw]
    rfl
  · rw [if_neg hij]
    cases hs : sl[i]? with
    | none => rfl
    | some y =>
      have e : slv (sw S (100 * b + j) 0 v) (100 * b + i) y = slv S (100 * b + i) y := by
        unfold slv sw
        rw [if_neg (by omega)]
      show some (cv ad (slv S (100 * b + i) y)) = some (cv ad (slv (sw S (100 * b + j) 0 v) (100 * b + i) y))
      rw [e]
theorem aj_putf {idx b ci j : Nat} {sl : List Slt} {x : Slt} {ty : FieldType} {v : Int32} {w : Value} (hok : okL lay = true) (F : FP k.1.cls idx ci j ty) (hd : decode k.2.1 pc = .ok (.putfield idx, 3)) (hq : pc + 3 = q) (hlay : lay[b]? = some (.inr (ci, sl))) (hj : sl[j]? = some x) (hw : w = slv (sw S (100 * b + j) 0 v) (100 * b + j) x) (hn : ∀ ad, narrow ty (cv ad w) = cv ad w) (hfit : ∀ ad, fits ty (cv ad w) = true) (kk : AJ d k lay q ls st (sw S (100 * b + j) 0 v) Q) : AJ d k lay pc ls (w :: .ref b :: st) S Q := by
  subst hq
  intro p l e s m args below meth c dC dI cA ad A H locs lsA hC hW hL
  obtain ⟨C, T, N, ty0, h1, h2, h3, h4, h5, h6, h7, h8⟩ := F
  have hlt : sl.length < 100 := by
    have := List.all_eq_true.mp hok _ (List.mem_of_getElem? hlay)
    simpa using this
  have hjl : j < sl.length := (List.getElem?_eq_some_iff.mp hj).1
  have he : (cw cA ad lay S)[b]? = some (ad.getD b 0, .inr (ci, sl.mapIdx (fun j x => cv ad (slv S (100 * b + j) x)))) := cw_get hlay
  have hset := cw_set (cA := cA) (ad := ad) (S := S) (i := 0) (v := v) (E := .inr (ci, (sl.mapIdx (fun j x => cv ad (slv S (100 * b + j) x))).set j (cv ad w))) hok (show j < 100 by omega) hlay (by rw [sl_set (v := v) hj (by rw [hw])]; rfl)
  refine va_put (D := (dC, dI)) hC.1 hC.2.1 hC.2.2.2.2.2.1 h3 ty0 h5 h6 hC.2.2.2.2.1 hW.1 hW.2.1 hW.2.2.1 hW.2.2.2.1 b he h1 j h2 (hC.2.2.2.2.2.1 _ h4) (fun _ h9 => h9) h7 h8 (hn ad) (hfit ad) (by rw [List.length_mapIdx]; exact hjl) hd (fun H1 locs1 hP1 hD1 hS1 => ?_)
  rw [hset] at hP1 hD1
  exact kk p l e s m args below meth c dC dI cA ad A H1 locs1 lsA hC ⟨hW.1, hP1, hD1, hS1, hW.2.2.2.2⟩ hL
theorem aj_putI {idx b ci j f : Nat} {sl : List Slt} {v : Int32} (hok : okL lay = true) (F : FP k.1.cls idx ci j .int) (hd : decode k.2.1 pc = .ok (.putfield idx, 3)) (hq : pc + 3 = q) (hlay : lay[b]? = some (.inr (ci, sl))) (hj : sl[j]? = some none) (hf : 100 * b + j = f) (kk : AJ d k lay q ls st (sw S f 0 v) Q) : AJ d k lay pc ls (.int v :: .ref b :: st) S Q := by
  subst hf
  exact aj_putf (v := v) hok F hd hq hlay hj (by simp [slv, sw]) (fun _ => rfl) (fun _ => rfl) kk
theorem aj_putZ {idx b ci j f : Nat} {sl : List Slt} {v : Int32} (hok : okL lay = true) (F : FP k.1.cls idx ci j .boolean) (hd : decode k.2.1 pc = .ok (.putfield idx, 3)) (hq : pc + 3 = q) (hlay : lay[b]? = some (.inr (ci, sl))) (hj : sl[j]? = some none) (hf : 100 * b + j = f) (hn : narrow .boolean (.int v) = .int v) (hfit : fits .boolean (.int v) = true) (kk : AJ d k lay q ls st (sw S f 0 v) Q) : AJ d k lay pc ls (.int v :: .ref b :: st) S Q := by
  subst hf
  exact aj_putf (v := v) hok F hd hq hlay hj (by simp [slv, sw]) (fun _ => hn) (fun _ => hfit) kk
theorem aj_putD {idx b ci j f r : Nat} {C : String} {sl : List Slt} (hok : okL lay = true) (F : FP k.1.cls idx ci j (.object C)) (hd : decode k.2.1 pc = .ok (.putfield idx, 3)) (hq : pc + 3 = q) (hlay : lay[b]? = some (.inr (ci, sl))) (hj : sl[j]? = some (some none)) (hf : 100 * b + j = f) (hr : r < 2 ^ 31) (kk : AJ d k lay q ls st (sw S f 0 (nI r)) Q) : AJ d k lay pc ls (.ref r :: .ref b :: st) S Q := by
  subst hf
  exact aj_putf (v := nI r) hok F hd hq hlay hj (by simp [slv, sw, nI_clamp hr]) (fun _ => rfl) (fun _ => rfl) kk
theorem aj_iaload {b n f : Nat} {i : Int32} (hd : decode k.2.1 pc = .ok (.iaload, 1)) (hq : pc + 1 = q) (hlay : lay[b]? = some (.inl n)) (hf : 100 * b = f) (hin : vp_in i n) (kk : AJ d k lay q ls (.int (S f i.toNatClampNeg) :: st) S Q) : AJ d k lay pc ls (.int i :: .ref b :: st) S Q := by
  subst hq; subst hf
  intro p l e s m args below meth c dC dI cA ad A H locs lsA hC hW hL
  exact va_iald (D := (dC, dI)) hC.1 hC.2.1 hW.1 hW.2.1 b 0 (cw_get hlay) rfl hin hd (kk p l e s m args below meth c dC dI cA ad A H locs lsA hC hW hL)
theorem aj_alen {b n : Nat} {v : Int32} (hd : decode k.2.1 pc = .ok (.arraylength, 1)) (hq : pc + 1 = q) (hlay : lay[b]? = some (.inl n)) (hv : Int32.ofNat n = v) (kk : AJ d k lay q ls (.int v :: st) S Q) : AJ d k lay pc ls (.ref b :: st) S Q := by
  subst hq
  intro p l e s m args below meth c dC dI cA ad A H locs lsA hC hW hL
  exact va_alen (D := (dC, dI)) hC.1 hC.2.1 hW.1 hW.2.1 b 0 (cw_get hlay) (ty := .int) rfl hv hd (kk p l e s m args below meth c dC dI cA ad A H locs lsA hC hW hL)
theorem aj_iastore {b n f : Nat} {i x : Int32} (hok : okL lay = true) (hd : decode k.2.1 pc = .ok (.iastore, 1)) (hq : pc + 1 = q) (hlay : lay[b]? = some (.inl n)) (hf : 100 * b = f) (hin : vp_in i n) (kk : AJ d k lay q ls st (sw S f i.toNatClampNeg x) Q) : AJ d k lay pc ls (.int x :: .int i :: .ref b :: st) S Q := by
  subst hq; subst hf
  intro p l e s m args below meth c dC dI cA ad A H locs lsA hC hW hL
  have hset := cw_set (cA := cA) (ad := ad) (S := S) (j := 0) (i := i.toNatClampNeg) (v := x) (E := .inl (cA, n, .inl (upd (S (100 * b)) i.toNatClampNeg x))) hok (by omega) hlay (by
    simp only [ce]
    congr 4
    funext z
    simp [upd, sw])
  refine va_iast (D := (dC, dI)) hC.1 hC.2.1 hW.1 hW.2.1 hW.2.2.1 hW.2.2.2.1 b 0 (cw_get hlay) rfl hin hd (fun H1 locs1 hP1 hD1 hS1 => ?_)
  rw [hset] at hP1 hD1
  exact kk p l e s m args below meth c dC dI cA ad A H1 locs1 lsA hC ⟨hW.1, hP1, hD1, hS1, hW.2.2.2.2⟩ hL
theorem aj_weaken {ls' : AL} (hs : ∀ (i : Nat) (v : Value), ls'[i]? = some (some v) → ls[i]? = some (some v)) (kk : AJ d k lay pc ls' st S Q) : AJ d k lay pc ls st S Q := by
  intro p l e s m args below meth c dC dI cA ad A H locs lsA hC hW hL
  exact kk p l e s m args below meth c dC dI cA ad A H locs lsA hC hW (hL.weaken hs)
end AJF
/-! calls -/
def pushR (r : Option Value) (l : List Value) : List Value := match r with
  | none => l
  | some v => v :: l
theorem pushR_eq (r : Option Value) (l : List Value) : r.toList ++ l = pushR r l := by cases r <;> rfl
theorem wsK_good {k' : MK} (h : Cond.code k'.1 k'.2.1 k'.2.2.1 k'.2.2.2 ∈ TT) : GoodIn TT (wsK k') := by
  intro w hw
  have hm : w ∈ TT := by
    rcases List.mem_cons.mp hw with rfl | h1
    · exact h
    · exact h1
  exact ⟨hm, good_of_word (List.mem_filter.mp hm).2⟩
section AJC
variable {d : Nat} {k k' : MK} {lay : Lay} {pc q : Nat} {ls : AL} {st : List Value} {S : Sx} {Q : Option Value → Sx → Prop}
theorem PP.blind {dC : Nat → ClassId} {dI : Nat → Nat → Nat} {cA : ClassId} {ad : List Nat} {sz : Nat} {av : List Value} : FrameBlind (va_Pc av (PP dC dI cA ad lay S sz)) := fun a U g mk q => by
  obtain ⟨q0, q1, qP, qK, qD, qN⟩ := q
  exact ⟨q0, q1, qP, va_K.moved (u := U) (U := U.calling g mk a) (Vm.Alike.refl U.vm) qK, qD, NK.same (u := U) (U := U.calling g mk a) rfl qN⟩
theorem PP.at {dC : Nat → ClassId} {dI : Nat → Nat → Nat} {cA : ClassId} {ad : List Nat} {A : Nat → Prop} {s U : State} {H : Heap} {locs : List Loc} (hW : Wd dC dI cA ad A s lay S H locs) (hU : U.heap = H) (hw : s.WarmedH U.vm) (hN : NK s) : PP dC dI cA ad lay S H.size U :=
  ⟨by rw [hU], by rw [hU]; exact hW.2.1, va_K.moved hw.alike hW.1, hW.2.2.1.weaken (fun _ _ _ _ => trivial), hN.warm hw⟩
theorem Wd.free {dC : Nat → ClassId} {dI : Nat → Nat → Nat} {cA : ClassId} {ad : List Nat} {A : Nat → Prop} {s : State} {H : Heap} {locs : List Loc} (hW : Wd dC dI cA ad A s lay S H locs) : ∀ q, va_A (cw cA ad lay S) H.size q → A q := by
  intro q hq
  rcases hq with ⟨k, e, hk⟩ | hq
  · exact hW.2.2.1.2 k _ hk
  · exact hW.2.2.2.2 q (Nat.le_trans hW.2.2.2.1.1 hq)
/-- behind a call -/
theorem aj_back {p : Program} {l : Launch} {e : Env} {s : State} {m : MethodId} {args : Array Value} {below : List Frame} {meth : Method} {c : Code} {dC : Nat → ClassId} {dI : Nat → Nat → Nat} {cA : ClassId} {ad : List Nat} {A : Nat → Prop} {H : Heap} {locs : List Loc} {lsA : Array Slot} {st0 rest : List Value} {a : Array Value}
    (hC : Cx k p s m args meth c) (hW : Wd dC dI cA ad A s lay S H locs) (hL : LR ad ls k.2.2.1 lsA) (hq : pc + 3 = q)
    (hr : va_Run p l e (rmD d) s m args below meth c H locs 0 0 0 0 (F0 m pc lsA st0) (rest.map (cv ad)) (QQ dC dI cA ad (va_A (cw cA ad lay S) H.size) lay (fun r S' => AJ d k lay q ls (r.toList ++ rest) S' Q) a) (va_A (cw cA ad lay S) H.size)) :
    W p l e (rmD d) s m args below meth c H locs 0 0 (MQ below (QQ dC dI cA ad A lay Q) args s 0 0 A) (F0 m pc lsA st0) := by
  subst hq
  intro T hT X
  obtain ⟨v, st₀, t, T', L, h0, X', hLf, e1, e2, ⟨⟨r, S', ho, hQ, hP', hK', hD'⟩, hF⟩, st⟩ := hr T hT X
  have hv : v = r.map (cv ad) := by
    injection ho
  subst hv
  have hz : H.size ≤ t.heap.size := by rw [← h0]; exact hF.1
  have hkeep : ∀ z : Nat, z < H.size → ¬ va_A (cw cA ad lay S) H.size z → t.heap[z]? = H[z]? := fun z h1 h2 => by rw [hF.2 z (by rw [h0]; exact h1) h2, h0]
  have hS := hW.2.2.2.1
  have hW' : Wd dC dI cA ad A s lay S' T'.heap (locs ++ L) := by
    refine ⟨hW.1, by rw [e1]; exact hP', hD'.weaken (fun _ z _ hz => hW.free _ hz), ⟨Nat.le_trans hS.1 (by rw [e1]; exact hz), fun z h1 h2 => ?_, fun z hz => ?_⟩, hW.2.2.2.2⟩
    · rw [e1, hkeep z (Nat.lt_of_lt_of_le h1 hS.1) (fun h => h2 (hW.free _ h))]
      exact hS.2.1 z h1 h2
    · rcases List.mem_append.mp hz with h | h
      · exact hS.2.2 z h
      · exact hW.free _ (hLf z h)
  obtain ⟨t2, a1, b1⟩ := hQ p l e s m args below meth c dC dI cA ad A T'.heap (locs ++ L) lsA hC hW' hL T' rfl X'
  refine ⟨t2, st t2 ?_, b1⟩
  have : (r.toList ++ rest).map (cv ad) = (r.map (cv ad)).toList ++ rest.map (cv ad) := by cases r <;> simp
  rw [this] at a1
  exact a1
theorem aj_callV {idx b ci n : Nat} {sl : List Slt} {As rest : List Value} (F : CVok k.1.cls idx k') (G : MKok k' n) (hd : decode k.2.1 pc = .ok (.invokevirtual idx, 3)) (hq : pc + 3 = q) (hlay : lay[b]? = some (.inr (ci, sl))) (hci : (xcl[ci]?).map (fun z => z.1) = some k'.1.cls) (hn : As.length = n) (hr : (rest.map (fun v => v.category)).sum ≤ 8)
    (kk : CC d k' lay (.ref b :: As) S (fun r S' => AJ (d + 1) k lay q ls (pushR r rest) S' Q)) : AJ (d + 1) k lay pc ls (As.reverse ++ .ref b :: rest) S Q := by
  intro p l e s m args below meth c dC dI cA ad A H locs lsA hC hW hL
  obtain ⟨hx, hb, hret, hml, hown, hts, hlk, hNk⟩ := id hC
  obtain ⟨f1, f2, f3⟩ := F
  obtain ⟨g1, g2, g3, g4⟩ := G
  simp only [← pushR_eq] at kk
  have hM := kk l dC dI cA ad H.size
  obtain ⟨⟨C, T, N⟩, hcl, hC9⟩ : ∃ z, xcl[ci]? = some z ∧ z.1 = k'.1.cls := by
    cases hz : xcl[ci]? with
    | none => rw [hz] at hci; cases hci
    | some z => rw [hz] at hci; exact ⟨z, rfl, by simpa using hci⟩
  refine aj_back hC hW hL hq (va_runV (As := As.map (cv ad)) (b := ad.getD b 0) (n := n) (C := k'.1.cls) ⟨hx, hb, hml, hown, hts⟩ hM ⟨callB_of n hts (wsK_good g2) rfl rfl rfl (hts _ g1) (hts _ f1) g3 ⟨Nat.le_refl _, ?_⟩, hts _ f2, hts _ f3⟩ ⟨PP.blind, ?_, fun U hU hw => ⟨?_, PP.at hW hU hw hNk⟩⟩ rfl (by rw [List.length_map]; exact hn) hL.1 ?_ (lv_room ?_) hd ⟨Nat.le_refl _, Nat.le_refl _⟩)
  · show 8 + (k'.2.2.1 + 11) + 40 * d ≤ 40 * (d + 1)
    omega
  · have := va_recv hW.1 hW.2.1 (ci := ci) (q0 := b) hcl (cw_get hlay)
    simp only at hC9
    rw [← hC9]
    exact this
  · rfl
  · show (As.reverse ++ .ref b :: rest).map (cv ad) = _
    simp [cv]
  · rw [List.map_map]
    have : ((fun v => v.category) ∘ cv ad) = (fun v : Value => v.category) := by funext v; exact cv_cat ad v
    rw [this]
    exact hr
theorem aj_callS {idx n : Nat} {As rest : List Value} (F : CSok k.1.cls idx k') (G : MKok k' n) (hd : decode k.2.1 pc = .ok (.invokestatic idx, 3)) (hq : pc + 3 = q) (hn : As.length = n) (hr : (rest.map (fun v => v.category)).sum ≤ 8)
    (kk : CC d k' lay As S (fun r S' => AJ (d + 1) k lay q ls (pushR r rest) S' Q)) : AJ (d + 1) k lay pc ls (As.reverse ++ rest) S Q := by
  intro p l e s m args below meth c dC dI cA ad A H locs lsA hC hW hL
  obtain ⟨hx, hb, hret, hml, hown, hts, hlk, hNk⟩ := id hC
  obtain ⟨f1, f2⟩ := F
  obtain ⟨g1, g2, g3, g4⟩ := G
  simp only [← pushR_eq] at kk
  have hM := kk l dC dI cA ad H.size
  have hroom : 8 + (k'.2.2.1 + 11) + 40 * d ≤ 40 * (d + 1) := by omega
  have hst : (As.reverse ++ rest).map (cv ad) = (As.map (cv ad)).reverse ++ rest.map (cv ad) := by simp
  have hcat : ((rest.map (cv ad)).map fun v => v.category).sum ≤ 8 := by
    rw [List.map_map]
    have : ((fun v => v.category) ∘ cv ad) = (fun v : Value => v.category) := by funext v; exact cv_cat ad v
    rw [this]
    exact hr
  rcases f1 with f1 | ⟨host, f1⟩
  · exact aj_back hC hW hL hq (va_runS (As := As.map (cv ad)) (n := n) ⟨hx, hb, hml, hown, hts⟩ hM ⟨callB_of n hts (wsK_good g2) rfl rfl rfl (hts _ g1) (hts _ f1) g3 ⟨Nat.le_refl _, hroom⟩, hts _ f2⟩ ⟨PP.blind, fun U hU hw => ⟨rfl, PP.at hW hU hw hNk⟩⟩ rfl (by rw [List.length_map]; exact hn) hL.1 hst (lv_room hcat) hd ⟨Nat.le_refl _, Nat.le_refl _⟩)
  · exact aj_back hC hW hL hq (va_runSN (As := As.map (cv ad)) (n := n) ⟨hx, hb, hml, hown, hts⟩ hM ⟨va_cnB n hts (wsK_good g2) rfl rfl rfl (hNk _ f1) (hts _ g1) g3 ⟨Nat.le_refl _, hroom⟩, hts _ f2, trivial⟩ ⟨PP.blind, fun U hU hw => ⟨rfl, PP.at hW hU hw hNk⟩⟩ rfl (by rw [List.length_map]; exact hn) hL.1 hst (lv_room hcat) hd ⟨Nat.le_refl _, Nat.le_refl _⟩)
end AJC
end
section
def layR : Lay := [.inr (5, [some (some 17), some (some 1), some (some 6), some (some 9), some (some 11), none, none, none, none, none, none]), .inr (2, [some (some 2), some (some 3), some (some 4), some (some 5), none, none]), .inl 8, .inl 4, .inl 4, .inl 800, .inr (4, [some (some 7), some (some 8), none, none, none, none, none, none]), .inl 5, .inl 30, .inr (1, [some (some 10), none]), .inl 4, .inr (0, [some (some 12), some (some 13), some (some 14), some (some 15), some (some 16), none]), .inl 128, .inl 128, .inl 128, .inl 128, .inl 128, .inr (3, [some (some 18), some (some 19), some (some 20), some (some 21), some (some 22), some (some 23), none]), .inl 120, .inl 120, .inl 120, .inl 120, .inl 120, .inl 8]
theorem okR : okL layR = true := by decide +kernel
theorem lR_0 : layR[0]? = some (.inr (5, [some (some 17), some (some 1), some (some 6), some (some 9), some (some 11), none, none, none, none, none, none])) := rfl
theorem lR_1 : layR[1]? = some (.inr (2, [some (some 2), some (some 3), some (some 4), some (some 5), none, none])) := rfl
theorem lR_2 : layR[2]? = some (.inl 8) := rfl
theorem lR_3 : layR[3]? = some (.inl 4) := rfl
theorem lR_4 : layR[4]? = some (.inl 4) := rfl
theorem lR_5 : layR[5]? = some (.inl 800) := rfl
theorem lR_6 : layR[6]? = some (.inr (4, [some (some 7), some (some 8), none, none, none, none, none, none])) := rfl
theorem lR_7 : layR[7]? = some (.inl 5) := rfl
theorem lR_8 : layR[8]? = some (.inl 30) := rfl
theorem lR_9 : layR[9]? = some (.inr (1, [some (some 10), none])) := rfl
theorem lR_10 : layR[10]? = some (.inl 4) := rfl
theorem lR_11 : layR[11]? = some (.inr (0, [some (some 12), some (some 13), some (some 14), some (some 15), some (some 16), none])) := rfl
theorem lR_12 : layR[12]? = some (.inl 128) := rfl
theorem lR_13 : layR[13]? = some (.inl 128) := rfl
theorem lR_14 : layR[14]? = some (.inl 128) := rfl
theorem lR_15 : layR[15]? = some (.inl 128) := rfl
theorem lR_16 : layR[16]? = some (.inl 128) := rfl
theorem lR_17 : layR[17]? = some (.inr (3, [some (some 18), some (some 19), some (some 20), some (some 21), some (some 22), some (some 23), none])) := rfl
theorem lR_18 : layR[18]? = some (.inl 120) := rfl
theorem lR_19 : layR[19]? = some (.inl 120) := rfl
theorem lR_20 : layR[20]? = some (.inl 120) := rfl
theorem lR_21 : layR[21]? = some (.inl 120) := rfl
theorem lR_22 : layR[22]? = some (.inl 120) := rfl
theorem lR_23 : layR[23]? = some (.inl 8) := rfl
def layM : Lay := [.inr (7, [none, none, some (some 1), some (some 2), some (some 3), some (some 4), some (some 5), some (some 6), some (some 7), some (some 8), some (some 9), none, some (some 10), some (some 11), none, some (some 12), none, none, none, none, some (some 13), none, some (some 14), none, none, none, none, none, none, some (some 15), none, some (some 16), some (some 17), some (some 18), some (some 19), some (some 20), none, none, none, some (some 21), some (some 22)]), .inl 120, .inl 120, .inl 120, .inl 120, .inl 120, .inl 8, .inl 8, .inl 4, .inl 4, .inl 300, .inl 300, .inl 1400, .inl 5, .inl 30, .inl 4, .inl 180, .inl 180, .inl 180, .inl 180, .inl 180, .inl 16, .inl 4000]
theorem okM : okL layM = true := by decide +kernel
theorem lM_0 : layM[0]? = some (.inr (7, [none, none, some (some 1), some (some 2), some (some 3), some (some 4), some (some 5), some (some 6), some (some 7), some (some 8), some (some 9), none, some (some 10), some (some 11), none, some (some 12), none, none, none, none, some (some 13), none, some (some 14), none, none, none, none, none, none, some (some 15), none, some (some 16), some (some 17), some (some 18), some (some 19), some (some 20), none, none, none, some (some 21), some (some 22)])) := rfl
theorem lM_1 : layM[1]? = some (.inl 120) := rfl
theorem lM_2 : layM[2]? = some (.inl 120) := rfl
theorem lM_3 : layM[3]? = some (.inl 120) := rfl
theorem lM_4 : layM[4]? = some (.inl 120) := rfl
theorem lM_5 : layM[5]? = some (.inl 120) := rfl
theorem lM_6 : layM[6]? = some (.inl 8) := rfl
theorem lM_7 : layM[7]? = some (.inl 8) := rfl
theorem lM_8 : layM[8]? = some (.inl 4) := rfl
theorem lM_9 : layM[9]? = some (.inl 4) := rfl
theorem lM_10 : layM[10]? = some (.inl 300) := rfl
theorem lM_11 : layM[11]? = some (.inl 300) := rfl
theorem lM_12 : layM[12]? = some (.inl 1400) := rfl
theorem lM_13 : layM[13]? = some (.inl 5) := rfl
theorem lM_14 : layM[14]? = some (.inl 30) := rfl
theorem lM_15 : layM[15]? = some (.inl 4) := rfl
theorem lM_16 : layM[16]? = some (.inl 180) := rfl
theorem lM_17 : layM[17]? = some (.inl 180) := rfl
theorem lM_18 : layM[18]? = some (.inl 180) := rfl
theorem lM_19 : layM[19]? = some (.inl 180) := rfl
theorem lM_20 : layM[20]? = some (.inl 180) := rfl
theorem lM_21 : layM[21]? = some (.inl 16) := rfl
theorem lM_22 : layM[22]? = some (.inl 4000) := rfl
theorem cc_cat {av : List Value} (h : av.all (fun w => w.category == 1) = true) : ∀ w ∈ av, w.category = 1 := fun w hw => by simpa using List.all_eq_true.mp h w hw
theorem cc_ls {ls : AL} {av : List Value} (h : ls = av.map some ++ List.replicate (ls.length - av.length) none) : ∀ (i : Nat) (v : Value), ls[i]? = some (some v) → av[i]? = some v := by
  intro i v hi
  rw [h, List.getElem?_append] at hi
  split at hi
  · simpa using hi
  · have := List.mem_of_getElem? hi
    simp at this
theorem aj_tsn {d : Nat} {k : MK} {lay : Lay} {pc : Nat} {ls : AL} {st : List Value} {S : Sx} {Q : Option Value → Sx → Prop} {x : Int32} (kk : ∀ y : Int32, y = x → AJ d k lay pc ls (.int y :: st) S Q) : AJ d k lay pc ls (.int x :: st) S Q := kk x rfl
def inb (x n : Int32) : Bool := decide (0 ≤ x) && decide (x < n)
def bi (b : Bool) : Int32 := if b then 1 else 0
theorem bi_eq0 {b : Bool} : bi b = 0 ↔ b = false := by cases b <;> decide
theorem bi_ne0 {b : Bool} : ¬ bi b = 0 ↔ b = true := by cases b <;> decide
theorem bi_t : bi true = 1 := rfl
theorem bi_f : bi false = 0 := rfl
theorem bi_nar (b : Bool) : narrow .boolean (.int (bi b)) = .int (bi b) := by cases b <;> rfl
theorem inb_neg {x n : Int32} (h : x < 0) : inb x n = false := by
  have : ¬ (0 : Int32) ≤ x := Int32.not_le.mpr h
  simp [inb, this]
theorem inb_ge {x n : Int32} (h : n ≤ x) : inb x n = false := by
  have : ¬ x < n := Int32.not_lt.mpr h
  simp [inb, this]
theorem inb_in {x n : Int32} (h1 : ¬ x < 0) (h2 : ¬ n ≤ x) : inb x n = true := by
  have a : (0 : Int32) ≤ x := Int32.not_lt.mp h1
  have b : x < n := Int32.not_le.mp h2
  simp [inb, a, b]
theorem inb_iff {x n : Int32} : inb x n = true ↔ 0 ≤ x.toInt ∧ x.toInt < n.toInt := by
  simp only [inb, Bool.and_eq_true, decide_eq_true_eq, Int32.le_iff_toInt_le, Int32.lt_iff_toInt_lt]
  rfl
theorem vin {x m : Int32} {n : Nat} (hm : m.toInt = n) (h : inb x m = true) : vp_in x n := vp_in_iff.mpr ⟨(inb_iff.mp h).1, hm ▸ (inb_iff.mp h).2⟩
theorem vinb {x m : Int32} {n : Nat} (hm : m.toInt = n) (h : ¬ bi (inb x m) = 0) : vp_in x n := vin hm (bi_ne0.mp h)
def fil (S : Sx) (f n : Nat) (v : Int32) : Sx := fun g j => if g = f ∧ j < n then v else S g j
def imax (x y : Int32) : Int32 := if x < y then y else x
theorem fill_loop {d : Nat} {lay : Lay} {b n : Nat} {v : Int32} {Q : Option Value → Sx → Prop} (hok : okL lay = true) (hb : lay[b]? = some (.inl n)) (hn : n < 2 ^ 31) : ∀ (t i : Nat) (S : Sx), i + t = n → Q none (fun g j => if g = 100 * b ∧ i ≤ j ∧ j < n then v else S g j) → AJ d kJ7_fill_53178 lay 5 [some (.ref b), some (.int v), some (.int (nI i)), some (.int (nI n))] [] S Q := by
  intro t
  induction t with
  | zero =>
    intro i S hi hQ
    refine aj_iload_n (q := 6) (i := 2) dJ7_fill_53178_5 rfl rfl rfl ?_
    refine aj_iload_n (q := 7) (i := 3) dJ7_fill_53178_6 rfl rfl rfl ?_
    refine aj_icmp_ge (q := 10) (tgt := 20) dJ7_fill_53178_7 rfl (by decide) (fun c => ?_) (fun c => absurd (nI_le (by omega) (by omega)) c)
    refine aj_return dJ7_fill_53178_20 rfl ?_
    have e : (fun g j => if g = 100 * b ∧ i ≤ j ∧ j < n then v else S g j) = S := by
      funext g j
      rw [if_neg (by omega)]
    rw [e] at hQ
    exact hQ
  | succ t ih =>
    intro i S hi hQ
    refine aj_iload_n (q := 6) (i := 2) dJ7_fill_53178_5 rfl rfl rfl ?_
    refine aj_iload_n (q := 7) (i := 3) dJ7_fill_53178_6 rfl rfl rfl ?_
    refine aj_icmp_ge (q := 10) (tgt := 20) dJ7_fill_53178_7 rfl (by decide) (fun c => absurd c (nI_ge (by omega) (by omega))) (fun c => ?_)
    refine aj_aload_n (q := 11) (i := 0) dJ7_fill_53178_10 rfl rfl rfl ?_
    refine aj_iload_n (q := 12) (i := 2) dJ7_fill_53178_11 rfl rfl rfl ?_
    refine aj_iload_n (q := 13) (i := 1) dJ7_fill_53178_12 rfl rfl rfl ?_
    refine aj_iastore (q := 14) (f := 100 * b) hok dJ7_fill_53178_13 rfl hb rfl (vp_in_nI (by omega) hn) ?_
    refine aj_iinc (q := 17) (i := 2) (ls' := [_, _, _, _]) dJ7_fill_53178_14 rfl rfl (nI_1 i) (by decide) rfl ?_
    refine aj_goto (tgt := 5) dJ7_fill_53178_17 (by decide) ?_
    refine ih (i + 1) _ (by omega) ?_
    rw [nI_clamp (show i < 2 ^ 31 by omega)]
    have e : (fun g j => if g = 100 * b ∧ i + 1 ≤ j ∧ j < n then v else sw S (100 * b) i v g j) = (fun g j => if g = 100 * b ∧ i ≤ j ∧ j < n then v else S g j) := by
      funext g j
      unfold sw
      by_cases h1 : g = 100 * b
      · by_cases h2 : j = i
        · subst h2
          rw [if_neg (by omega), if_pos h1, if_pos rfl, if_pos (by omega)]
        · by_cases h3 : i + 1 ≤ j ∧ j < n
          · rw [if_pos ⟨h1, h3⟩, if_pos ⟨h1, by omega, h3.2⟩]
          · rw [if_neg (by omega), if_pos h1, if_neg h2, if_neg (by omega)]
      · rw [if_neg (by omega), if_neg h1, if_neg (by omega)]
    rw [e]
    exact hQ
theorem sp_fill {d : Nat} {lay : Lay} {b n : Nat} {v : Int32} {S : Sx} {Q : Option Value → Sx → Prop} (hok : okL lay = true) (hb : lay[b]? = some (.inl n)) (hn : n < 2 ^ 31) (hQ : Q none (fil S (100 * b) n v)) : CC d kJ7_fill_53178 lay [.ref b, .int v] S Q := by
  refine cc_intro [some _, some _, none, none] (by decide) (cc_cat (by rfl)) (Nat.le_of_ble_eq_true rfl) (cc_ls (by rfl)) ?_
  refine aj_iconst (q := 1) (v := 0) dJ7_fill_53178_0 rfl (by decide) ?_
  refine aj_istore_n (q := 2) (i := 2) (ls' := [_, _, _, _]) dJ7_fill_53178_1 rfl rfl (by decide) rfl ?_
  refine aj_aload_n (q := 3) (i := 0) dJ7_fill_53178_2 rfl rfl rfl ?_
  refine aj_alen (q := 4) dJ7_fill_53178_3 rfl hb rfl ?_
  refine aj_istore_n (q := 5) (i := 3) (ls' := [_, _, _, _]) dJ7_fill_53178_4 rfl rfl (by decide) rfl ?_
  refine fill_loop hok hb hn n 0 S (by omega) ?_
  have e : (fun g j => if g = 100 * b ∧ 0 ≤ j ∧ j < n then v else S g j) = fil S (100 * b) n v := by
    funext g j
    simp [fil]
  rw [e]
  exact hQ
theorem cm_X2_29 : Cond.methodLink RX2 29 yJ9_max_7cf53 ∈ TT := List.mem_filter.mpr ⟨List.mem_of_getElem? (i := 460) (by decide +kernel), by decide +kernel⟩
theorem cm_X5_60 : Cond.methodLink RX5 60 yJ9_max_7cf53 ∈ TT := List.mem_filter.mpr ⟨List.mem_of_getElem? (i := 299) (by decide +kernel), by decide +kernel⟩
theorem cm_X7_221 : Cond.methodLink RX7 221 yJ9_max_7cf53 ∈ TT := List.mem_filter.mpr ⟨List.mem_of_getElem? (i := 384) (by decide +kernel), by decide +kernel⟩
theorem cm_static : Cond.static yJ9_max_7cf53 ∈ TT := List.mem_filter.mpr ⟨List.mem_of_getElem? (i := 300) (by decide +kernel), by decide +kernel⟩
theorem aj_max {d : Nat} {k : MK} {lay : Lay} {pc q idx : Nat} {ls : AL} {st : List Value} {S : Sx} {Q : Option Value → Sx → Prop} {x y : Int32} (F : Cond.methodLink k.1.cls idx yJ9_max_7cf53 ∈ TT) (hd : decode k.2.1 pc = .ok (.invokestatic idx, 3)) (hq : pc + 3 = q) (hr : (st.map (fun v => v.category)).sum ≤ 8) (kk : AJ (d + 1) k lay q ls (.int (imax x y) :: st) S Q) : AJ (d + 1) k lay pc ls (.int y :: .int x :: st) S Q := by
  subst hq
  intro p l e s m args below meth c dC dI cA ad A H locs lsA hC hW hL
  have hcat : ((st.map (cv ad)).map fun v => v.category).sum ≤ 8 := by
    rw [List.map_map]
    have : ((fun v => v.category) ∘ cv ad) = (fun v : Value => v.category) := by funext v; exact cv_cat ad v
    rw [this]
    exact hr
  have hts := hC.2.2.2.2.2.1
  have hcode : (Cond.code Lib.Math.max.name Lib.Math.max.code 2 (some .int)).before args s = true := by
    have h := hts _ mk_J9_max_7cf53.2.1
    have e : cJ9_max_7cf53 = Lib.Math.max.code := by decide +kernel
    have h2 : (Cond.code yJ9_max_7cf53 cJ9_max_7cf53 2 (some .int)).before args s = true := h
    rw [e] at h2
    exact h2
  exact va_mmax hC.1 hC.2.1 (hC.2.2.2.1.trans hL.1.symm) hC.2.2.2.2.1 (hts _ F) (hts _ cm_static) (hts _ mk_J9_max_7cf53.1) hcode (show 1 ≤ d + 1 by omega) (show _ + 13 ≤ 40 * (d + 1) by omega) (Nat.le_refl _) (Nat.le_refl _) hd (kk p l e s m args below meth c dC dI cA ad A H locs lsA hC hW hL)
theorem sp_isBelow {d : Nat} {lay : Lay} {x y : Int32} {S : Sx} {Q : Option Value → Sx → Prop} (hQ : Q (some (.int (bi (inb x y)))) S) : CC d kX9_isBelow lay [.int x, .int y] S Q := by
  refine cc_intro [some _, some _] (by decide) (cc_cat (by rfl)) (Nat.le_of_ble_eq_true rfl) (cc_ls (by rfl)) ?_
  refine aj_iload_n (q := 1) (i := 0) dX9_isBelow_0 rfl rfl rfl ?_
  refine aj_if_lt (q := 4) (tgt := 13) dX9_isBelow_1 rfl (by decide) (fun c1_1 => ?_) (fun c1_1 => ?_)
  · refine aj_iconst (q := 14) (v := 0) dX9_isBelow_13 rfl (by decide) ?_
    refine aj_zreturn dX9_isBelow_14 rfl (by decide) ?_
    first | (rw [inb_neg (by assumption)] at hQ; exact hQ) | (rw [inb_ge (by assumption)] at hQ; exact hQ) | (rw [inb_in (by assumption) (by assumption)] at hQ; exact hQ)
  · refine aj_iload_n (q := 5) (i := 0) dX9_isBelow_4 rfl rfl rfl ?_
    refine aj_iload_n (q := 6) (i := 1) dX9_isBelow_5 rfl rfl rfl ?_
    refine aj_icmp_ge (q := 9) (tgt := 13) dX9_isBelow_6 rfl (by decide) (fun c6_2 => ?_) (fun c6_2 => ?_)
    · refine aj_iconst (q := 14) (v := 0) dX9_isBelow_13 rfl (by decide) ?_
      refine aj_zreturn dX9_isBelow_14 rfl (by decide) ?_
      first | (rw [inb_neg (by assumption)] at hQ; exact hQ) | (rw [inb_ge (by assumption)] at hQ; exact hQ) | (rw [inb_in (by assumption) (by assumption)] at hQ; exact hQ)
    · refine aj_iconst (q := 10) (v := 1) dX9_isBelow_9 rfl (by decide) ?_
      refine aj_goto (tgt := 14) dX9_isBelow_10 (by decide) ?_
      refine aj_zreturn dX9_isBelow_14 rfl (by decide) ?_
      first | (rw [inb_neg (by assumption)] at hQ; exact hQ) | (rw [inb_ge (by assumption)] at hQ; exact hQ) | (rw [inb_in (by assumption) (by assumption)] at hQ; exact hQ)
end
section
theorem sw_ne {S : Sx} {f g i j : Nat} {v : Int32} (h : g ≠ f) : sw S f i v g j = S g j := by unfold sw; rw [if_neg h]
theorem sw_eq {S : Sx} {f i : Nat} {v : Int32} : sw S f i v f i = v := by simp [sw]
theorem sw_ix {S : Sx} {f i j : Nat} {v : Int32} (h : j ≠ i) : sw S f i v f j = S f j := by simp [sw, h]
theorem sw_app (S : Sx) (f i : Nat) (v : Int32) (g j : Nat) : sw S f i v g j = if g = f then (if j = i then v else S g j) else S g j := rfl
theorem fil_ne {S : Sx} {f g n j : Nat} {v : Int32} (h : g ≠ f) : fil S f n v g j = S g j := by unfold fil; rw [if_neg (fun e => h e.1)]
section IFB
variable {d : Nat} {k : MK} {lay : Lay} {pc q : Nat} {ls : AL} {st : List Value} {S : Sx} {Q : Option Value → Sx → Prop}
theorem aj_ifB_eq {b : Bool} {off : Int} {tgt : Nat} (hd : decode k.2.1 pc = .ok (.ifCond .eq off, 3)) (hq : pc + 3 = q) (ht : (pc : Int) + off = (tgt : Int)) (kt : b = false → AJ d k lay tgt ls st S Q) (kf : b = true → AJ d k lay q ls st S Q) : AJ d k lay pc ls (.int (bi b) :: st) S Q := aj_if_eq hd hq ht (fun c => kt (bi_eq0.mp c)) (fun c => kf (bi_ne0.mp c))
theorem aj_ifB_ne {b : Bool} {off : Int} {tgt : Nat} (hd : decode k.2.1 pc = .ok (.ifCond .ne off, 3)) (hq : pc + 3 = q) (ht : (pc : Int) + off = (tgt : Int)) (kt : b = true → AJ d k lay tgt ls st S Q) (kf : b = false → AJ d k lay q ls st S Q) : AJ d k lay pc ls (.int (bi b) :: st) S Q := aj_if_ne hd hq ht (fun c => kt (bi_ne0.mp c)) (fun c => kf (bi_eq0.mp c))
end IFB
/-- what keeps the component's rows within their bounds -/
def wfR (S : Sx) : Prop := (0 ≤ (S 1105 0).toInt ∧ (S 1105 0).toInt ≤ 128) ∧ (0 ≤ (S 602 0).toInt ∧ (S 602 0).toInt ≤ 30) ∧ (0 ≤ (S 104 0).toInt ∧ (S 104 0).toInt ≤ 800) ∧ (∀ r, r < 4 → S 400 r = -1 ∨ (0 ≤ (S 400 r).toInt ∧ 0 ≤ (S 300 r).toInt ∧ (S 300 r).toInt + (S 400 r).toInt ≤ 800)) ∧ (0 ≤ (S 1706 0).toInt ∧ (S 1706 0).toInt ≤ 120) ∧ (S 607 0 = 0 ∨ S 607 0 = 1)
def wfFree (f : Nat) : Bool := !([1105, 602, 104, 400, 300, 1706, 607].contains f)
theorem wfR.sw {S : Sx} {f i : Nat} {v : Int32} (h : wfR S) (hf : wfFree f = true) : wfR (sw S f i v) := by
  have hne : 1105 ≠ f ∧ 602 ≠ f ∧ 104 ≠ f ∧ 400 ≠ f ∧ 300 ≠ f ∧ 1706 ≠ f ∧ 607 ≠ f := by
    simp [wfFree] at hf
    omega
  obtain ⟨n1, n2, n3, n4, n5, n6, n7⟩ := hne
  simpa only [wfR, sw_ne n1, sw_ne n2, sw_ne n3, sw_ne n4, sw_ne n5, sw_ne n6, sw_ne n7] using h
theorem wf_put {S : Sx} {f i : Nat} {v : Int32} {A : Prop} (h : wfR S) (hf : wfFree f = true) (k : wfR (sw S f i v) → A) : A := k (h.sw hf)
theorem i32_add {x y : Int32} (h1 : -2147483648 ≤ x.toInt + y.toInt) (h2 : x.toInt + y.toInt < 2147483648) : (x + y).toInt = x.toInt + y.toInt := by
  rw [Int32.toInt_add]
  exact Int.bmod_eq_of_le (by omega) (by omega)
theorem i32_sub {x y : Int32} (h1 : -2147483648 ≤ x.toInt - y.toInt) (h2 : x.toInt - y.toInt < 2147483648) : (x - y).toInt = x.toInt - y.toInt := by
  rw [Int32.toInt_sub]
  exact Int.bmod_eq_of_le (by omega) (by omega)
theorem i32_le {x y : Int32} : x ≤ y ↔ x.toInt ≤ y.toInt := Int32.le_iff_toInt_le
theorem i32_lt {x y : Int32} : x < y ↔ x.toInt < y.toInt := Int32.lt_iff_toInt_lt
/-! Frames -/
def fClear (S : Sx) : Sx := sw S 1105 0 0
def fEmpty (S : Sx) : Bool := decide (S 1105 0 = 0)
def fTop (S : Sx) : Nat := (S 1105 0 - 1).toNatClampNeg
def fOpen (S : Sx) (s : Int32) : Sx := if (128 : Int32) ≤ S 1105 0 then S else sw (sw (sw S 1200 (S 1105 0).toNatClampNeg s) 1300 (S 1105 0).toNatClampNeg 0) 1105 0 (S 1105 0 + 1)
def fClose (S : Sx) : Sx := if S 1105 0 ≤ 0 then S else sw S 1105 0 (S 1105 0 - 1)
def fGet (S : Sx) (f : Nat) (z : Int32) : Int32 := if S 1105 0 ≤ 0 then z else S f (fTop S)
def fSetStage (S : Sx) (g : Int32) : Sx := if S 1105 0 ≤ 0 then S else sw S 1300 (fTop S) g
def fKeep (S : Sx) (a b c : Int32) : Sx := if S 1105 0 ≤ 0 then S else sw (sw (sw S 1400 (fTop S) a) 1500 (fTop S) b) 1600 (fTop S) c
theorem wf_depth {S : Sx} (h : wfR S) (hc : ¬ (128 : Int32) ≤ S 1105 0) : vp_in (S 1105 0) 128 := vp_in_iff.mpr ⟨h.1.1, by
  have := h.1.2
  rw [i32_le] at hc
  have : (128 : Int32).toInt = 128 := rfl
  omega⟩
theorem wf_top {S : Sx} (h : wfR S) (hc : ¬ S 1105 0 ≤ 0) : vp_in (S 1105 0 - 1) 128 := by
  have h1 := h.1
  rw [i32_le] at hc
  have e0 : (0 : Int32).toInt = 0 := rfl
  have e1 : (1 : Int32).toInt = 1 := rfl
  have := i32_sub (x := S 1105 0) (y := 1) (by omega) (by omega)
  exact vp_in_iff.mpr ⟨by omega, by omega⟩
theorem wf_fClear {S : Sx} (h : wfR S) : wfR (fClear S) := by
  obtain ⟨h1, h2, h3, h4, h5, h6⟩ := h
  refine ⟨⟨by simp only [fClear, sw_eq]; decide, by simp only [fClear, sw_eq]; decide⟩, h2, h3, h4, h5, h6⟩
theorem wf_fOpen {S : Sx} {s : Int32} (h : wfR S) : wfR (fOpen S s) := by
  unfold fOpen
  split
  · exact h
  · rename_i hc
    obtain ⟨h1, h2, h3, h4, h5, h6⟩ := h
    rw [i32_le] at hc
    have e0 : (128 : Int32).toInt = 128 := rfl
    have e1 : (1 : Int32).toInt = 1 := rfl
    have := i32_add (x := S 1105 0) (y := 1) (by omega) (by omega)
    refine ⟨⟨by rw [sw_eq]; omega, by rw [sw_eq]; omega⟩, h2, h3, h4, h5, h6⟩
theorem wf_fClose {S : Sx} (h : wfR S) : wfR (fClose S) := by
  unfold fClose
  split
  · exact h
  · rename_i hc
    obtain ⟨h1, h2, h3, h4, h5, h6⟩ := h
    rw [i32_le] at hc
    have e0 : (0 : Int32).toInt = 0 := rfl
    have e1 : (1 : Int32).toInt = 1 := rfl
    have := i32_sub (x := S 1105 0) (y := 1) (by omega) (by omega)
    refine ⟨⟨by rw [sw_eq]; omega, by rw [sw_eq]; omega⟩, h2, h3, h4, h5, h6⟩
theorem wf_fSetStage {S : Sx} {g : Int32} (h : wfR S) : wfR (fSetStage S g) := by
  unfold fSetStage
  split
  · exact h
  · exact h.sw rfl
theorem wf_fKeep {S : Sx} {a b c : Int32} (h : wfR S) : wfR (fKeep S a b c) := by
  unfold fKeep
  split
  · exact h
  · exact ((h.sw rfl).sw rfl).sw rfl
theorem sp_X0_clear {d : Nat} {S : Sx} {Q : Option Value → Sx → Prop} (hw : wfR S) (hQ : wfR (fClear S) → Q none (fClear S)) : CC d kX0_clear layR [.ref 11] S Q := by
  refine cc_intro [some _] (by decide) (cc_cat (by rfl)) (Nat.le_of_ble_eq_true rfl) (cc_ls (by rfl)) ?_
  refine aj_aload_n (q := 1) (i := 0) dX0_clear_0 rfl rfl rfl ?_
  refine aj_iconst (q := 2) (v := 0) dX0_clear_1 rfl (by decide) ?_
  refine aj_putI (q := 5) (f := 1105) okR fp_X0_27 dX0_clear_2 rfl lR_11 rfl rfl ?_
  refine aj_return dX0_clear_5 rfl ?_
  exact hQ (wf_fClear hw)
theorem sp_X0_isEmpty {d : Nat} {S : Sx} {Q : Option Value → Sx → Prop} (hw : wfR S) (hQ : Q (some (.int (bi (fEmpty S)))) S) : CC d kX0_isEmpty layR [.ref 11] S Q := by
  refine cc_intro [some _] (by decide) (cc_cat (by rfl)) (Nat.le_of_ble_eq_true rfl) (cc_ls (by rfl)) ?_
  refine aj_aload_n (q := 1) (i := 0) dX0_isEmpty_0 rfl rfl rfl ?_
  refine aj_getI (q := 4) (f := 1105) fl_X0_27 dX0_isEmpty_1 rfl lR_11 rfl rfl ?_
  refine aj_if_ne (q := 7) (tgt := 11) dX0_isEmpty_4 rfl (by decide) (fun c4_1 => ?_) (fun c4_1 => ?_)
  · refine aj_iconst (q := 12) (v := 0) dX0_isEmpty_11 rfl (by decide) ?_
    refine aj_zreturn dX0_isEmpty_12 rfl (by decide) ?_
    simpa only [fEmpty, c4_1, decide_true, decide_false, bi_t, bi_f] using hQ
  · refine aj_iconst (q := 8) (v := 1) dX0_isEmpty_7 rfl (by decide) ?_
    refine aj_goto (tgt := 12) dX0_isEmpty_8 (by decide) ?_
    refine aj_zreturn dX0_isEmpty_12 rfl (by decide) ?_
    simpa only [fEmpty, c4_1, decide_true, decide_false, bi_t, bi_f] using hQ
theorem sp_X0_open {d : Nat} {S : Sx} {Q : Option Value → Sx → Prop} {s : Int32} (hw : wfR S) (hQ : wfR (fOpen S s) → Q none (fOpen S s)) : CC d kX0_open layR [.ref 11, .int s] S Q := by
  refine cc_intro [some _, some _] (by decide) (cc_cat (by rfl)) (Nat.le_of_ble_eq_true rfl) (cc_ls (by rfl)) ?_
  refine aj_aload_n (q := 1) (i := 0) dX0_open_0 rfl rfl rfl ?_
  refine aj_getI (q := 4) (f := 1105) fl_X0_27 dX0_open_1 rfl lR_11 rfl rfl ?_
  try simp only [sw_eq, sw_ne, fil_ne, ne_eq, Nat.reduceEqDiff, not_false_eq_true]
  refine aj_sipush (q := 7) (v := 128) dX0_open_4 rfl (by decide) ?_
  refine aj_icmp_ge (q := 10) (tgt := 40) dX0_open_7 rfl (by decide) (fun c7_1 => ?_) (fun c7_1 => ?_)
  · refine aj_return dX0_open_40 rfl ?_
    have hq := hQ (wf_fOpen hw)
    simpa only [fOpen, ↓reduceIte, sw_eq, sw_ne, ne_eq, Nat.reduceEqDiff, not_false_eq_true, Bool.false_eq_true, c7_1] using hq
  · refine aj_aload_n (q := 11) (i := 0) dX0_open_10 rfl rfl rfl ?_
    refine aj_getR (q := 14) fl_X0_11 dX0_open_11 rfl lR_11 rfl ?_
    refine aj_aload_n (q := 15) (i := 0) dX0_open_14 rfl rfl rfl ?_
    refine aj_getI (q := 18) (f := 1105) fl_X0_27 dX0_open_15 rfl lR_11 rfl rfl ?_
    try simp only [sw_eq, sw_ne, fil_ne, ne_eq, Nat.reduceEqDiff, not_false_eq_true]
    refine aj_iload_n (q := 19) (i := 1) dX0_open_18 rfl rfl rfl ?_
    refine aj_iastore (q := 20) (f := 1200) okR dX0_open_19 rfl lR_12 rfl (wf_depth hw c7_1) ?_
    refine aj_aload_n (q := 21) (i := 0) dX0_open_20 rfl rfl rfl ?_
    refine aj_getR (q := 24) fl_X0_15 dX0_open_21 rfl lR_11 rfl ?_
    refine aj_aload_n (q := 25) (i := 0) dX0_open_24 rfl rfl rfl ?_
    refine aj_getI (q := 28) (f := 1105) fl_X0_27 dX0_open_25 rfl lR_11 rfl rfl ?_
    try simp only [sw_eq, sw_ne, fil_ne, ne_eq, Nat.reduceEqDiff, not_false_eq_true]
    refine aj_iconst (q := 29) (v := 0) dX0_open_28 rfl (by decide) ?_
    refine aj_iastore (q := 30) (f := 1300) okR dX0_open_29 rfl lR_13 rfl (wf_depth hw c7_1) ?_
    refine aj_aload_n (q := 31) (i := 0) dX0_open_30 rfl rfl rfl ?_
    refine aj_dup (q := 32) dX0_open_31 rfl rfl ?_
    refine aj_getI (q := 35) (f := 1105) fl_X0_27 dX0_open_32 rfl lR_11 rfl rfl ?_
    try simp only [sw_eq, sw_ne, fil_ne, ne_eq, Nat.reduceEqDiff, not_false_eq_true]
    refine aj_iconst (q := 36) (v := 1) dX0_open_35 rfl (by decide) ?_
    refine aj_iadd (q := 37) dX0_open_36 rfl ?_
    refine aj_putI (q := 40) (f := 1105) okR fp_X0_27 dX0_open_37 rfl lR_11 rfl rfl ?_
    refine aj_return dX0_open_40 rfl ?_
    have hq := hQ (wf_fOpen hw)
    simpa only [fOpen, ↓reduceIte, sw_eq, sw_ne, ne_eq, Nat.reduceEqDiff, not_false_eq_true, Bool.false_eq_true, c7_1] using hq
theorem sp_X0_close {d : Nat} {S : Sx} {Q : Option Value → Sx → Prop} (hw : wfR S) (hQ : wfR (fClose S) → Q none (fClose S)) : CC d kX0_close layR [.ref 11] S Q := by
  refine cc_intro [some _] (by decide) (cc_cat (by rfl)) (Nat.le_of_ble_eq_true rfl) (cc_ls (by rfl)) ?_
  refine aj_aload_n (q := 1) (i := 0) dX0_close_0 rfl rfl rfl ?_
  refine aj_getI (q := 4) (f := 1105) fl_X0_27 dX0_close_1 rfl lR_11 rfl rfl ?_
  refine aj_if_le (q := 7) (tgt := 17) dX0_close_4 rfl (by decide) (fun c4_1 => ?_) (fun c4_1 => ?_)
  · refine aj_return dX0_close_17 rfl ?_
    have hq := hQ (wf_fClose hw)
    simpa only [fClose, ↓reduceIte, sw_eq, sw_ne, ne_eq, Nat.reduceEqDiff, not_false_eq_true, Bool.false_eq_true, c4_1] using hq
  · refine aj_aload_n (q := 8) (i := 0) dX0_close_7 rfl rfl rfl ?_
    refine aj_dup (q := 9) dX0_close_8 rfl rfl ?_
    refine aj_getI (q := 12) (f := 1105) fl_X0_27 dX0_close_9 rfl lR_11 rfl rfl ?_
    refine aj_iconst (q := 13) (v := 1) dX0_close_12 rfl (by decide) ?_
    refine aj_isub (q := 14) dX0_close_13 rfl ?_
    refine aj_putI (q := 17) (f := 1105) okR fp_X0_27 dX0_close_14 rfl lR_11 rfl rfl ?_
    refine aj_return dX0_close_17 rfl ?_
    have hq := hQ (wf_fClose hw)
    simpa only [fClose, ↓reduceIte, sw_eq, sw_ne, ne_eq, Nat.reduceEqDiff, not_false_eq_true, Bool.false_eq_true, c4_1] using hq
theorem sp_X0_statement {d : Nat} {S : Sx} {Q : Option Value → Sx → Prop} (hw : wfR S) (hQ : Q (some (.int (fGet S 1200 (-1)))) S) : CC d kX0_statement layR [.ref 11] S Q := by
  refine cc_intro [some _] (by decide) (cc_cat (by rfl)) (Nat.le_of_ble_eq_true rfl) (cc_ls (by rfl)) ?_
  refine aj_aload_n (q := 1) (i := 0) dX0_statement_0 rfl rfl rfl ?_
  refine aj_getI (q := 4) (f := 1105) fl_X0_27 dX0_statement_1 rfl lR_11 rfl rfl ?_
  refine aj_if_le (q := 7) (tgt := 21) dX0_statement_4 rfl (by decide) (fun c4_1 => ?_) (fun c4_1 => ?_)
  · refine aj_iconst (q := 22) (v := (-1)) dX0_statement_21 rfl (by decide) ?_
    refine aj_ireturn dX0_statement_22 rfl ?_
    simpa only [fGet, fTop, ↓reduceIte, c4_1] using hQ
  · refine aj_aload_n (q := 8) (i := 0) dX0_statement_7 rfl rfl rfl ?_
    refine aj_getR (q := 11) fl_X0_11 dX0_statement_8 rfl lR_11 rfl ?_
    refine aj_aload_n (q := 12) (i := 0) dX0_statement_11 rfl rfl rfl ?_
    refine aj_getI (q := 15) (f := 1105) fl_X0_27 dX0_statement_12 rfl lR_11 rfl rfl ?_
    refine aj_iconst (q := 16) (v := 1) dX0_statement_15 rfl (by decide) ?_
    refine aj_isub (q := 17) dX0_statement_16 rfl ?_
    refine aj_iaload (q := 18) (f := 1200) dX0_statement_17 rfl lR_12 rfl (wf_top hw c4_1) ?_
    refine aj_goto (tgt := 22) dX0_statement_18 (by decide) ?_
    refine aj_ireturn dX0_statement_22 rfl ?_
    simpa only [fGet, fTop, ↓reduceIte, c4_1] using hQ
theorem sp_X0_stage {d : Nat} {S : Sx} {Q : Option Value → Sx → Prop} (hw : wfR S) (hQ : Q (some (.int (fGet S 1300 (0)))) S) : CC d kX0_stage layR [.ref 11] S Q := by
  refine cc_intro [some _] (by decide) (cc_cat (by rfl)) (Nat.le_of_ble_eq_true rfl) (cc_ls (by rfl)) ?_
  refine aj_aload_n (q := 1) (i := 0) dX0_stage_0 rfl rfl rfl ?_
  refine aj_getI (q := 4) (f := 1105) fl_X0_27 dX0_stage_1 rfl lR_11 rfl rfl ?_
  refine aj_if_le (q := 7) (tgt := 21) dX0_stage_4 rfl (by decide) (fun c4_1 => ?_) (fun c4_1 => ?_)
  · refine aj_iconst (q := 22) (v := 0) dX0_stage_21 rfl (by decide) ?_
    refine aj_ireturn dX0_stage_22 rfl ?_
    simpa only [fGet, fTop, ↓reduceIte, c4_1] using hQ
  · refine aj_aload_n (q := 8) (i := 0) dX0_stage_7 rfl rfl rfl ?_
    refine aj_getR (q := 11) fl_X0_15 dX0_stage_8 rfl lR_11 rfl ?_
    refine aj_aload_n (q := 12) (i := 0) dX0_stage_11 rfl rfl rfl ?_
    refine aj_getI (q := 15) (f := 1105) fl_X0_27 dX0_stage_12 rfl lR_11 rfl rfl ?_
    refine aj_iconst (q := 16) (v := 1) dX0_stage_15 rfl (by decide) ?_
    refine aj_isub (q := 17) dX0_stage_16 rfl ?_
    refine aj_iaload (q := 18) (f := 1300) dX0_stage_17 rfl lR_13 rfl (wf_top hw c4_1) ?_
    refine aj_goto (tgt := 22) dX0_stage_18 (by decide) ?_
    refine aj_ireturn dX0_stage_22 rfl ?_
    simpa only [fGet, fTop, ↓reduceIte, c4_1] using hQ
theorem sp_X0_keptEnding {d : Nat} {S : Sx} {Q : Option Value → Sx → Prop} (hw : wfR S) (hQ : Q (some (.int (fGet S 1400 (0)))) S) : CC d kX0_keptEnding layR [.ref 11] S Q := by
  refine cc_intro [some _] (by decide) (cc_cat (by rfl)) (Nat.le_of_ble_eq_true rfl) (cc_ls (by rfl)) ?_
  refine aj_aload_n (q := 1) (i := 0) dX0_keptEnding_0 rfl rfl rfl ?_
  refine aj_getI (q := 4) (f := 1105) fl_X0_27 dX0_keptEnding_1 rfl lR_11 rfl rfl ?_
  refine aj_if_le (q := 7) (tgt := 21) dX0_keptEnding_4 rfl (by decide) (fun c4_1 => ?_) (fun c4_1 => ?_)
  · refine aj_iconst (q := 22) (v := 0) dX0_keptEnding_21 rfl (by decide) ?_
    refine aj_ireturn dX0_keptEnding_22 rfl ?_
    simpa only [fGet, fTop, ↓reduceIte, c4_1] using hQ
  · refine aj_aload_n (q := 8) (i := 0) dX0_keptEnding_7 rfl rfl rfl ?_
    refine aj_getR (q := 11) fl_X0_18 dX0_keptEnding_8 rfl lR_11 rfl ?_
    refine aj_aload_n (q := 12) (i := 0) dX0_keptEnding_11 rfl rfl rfl ?_
    refine aj_getI (q := 15) (f := 1105) fl_X0_27 dX0_keptEnding_12 rfl lR_11 rfl rfl ?_
    refine aj_iconst (q := 16) (v := 1) dX0_keptEnding_15 rfl (by decide) ?_
    refine aj_isub (q := 17) dX0_keptEnding_16 rfl ?_
    refine aj_iaload (q := 18) (f := 1400) dX0_keptEnding_17 rfl lR_14 rfl (wf_top hw c4_1) ?_
    refine aj_goto (tgt := 22) dX0_keptEnding_18 (by decide) ?_
    refine aj_ireturn dX0_keptEnding_22 rfl ?_
    simpa only [fGet, fTop, ↓reduceIte, c4_1] using hQ
theorem sp_X0_keptKind {d : Nat} {S : Sx} {Q : Option Value → Sx → Prop} (hw : wfR S) (hQ : Q (some (.int (fGet S 1500 (0)))) S) : CC d kX0_keptKind layR [.ref 11] S Q := by
  refine cc_intro [some _] (by decide) (cc_cat (by rfl)) (Nat.le_of_ble_eq_true rfl) (cc_ls (by rfl)) ?_
  refine aj_aload_n (q := 1) (i := 0) dX0_keptKind_0 rfl rfl rfl ?_
  refine aj_getI (q := 4) (f := 1105) fl_X0_27 dX0_keptKind_1 rfl lR_11 rfl rfl ?_
  refine aj_if_le (q := 7) (tgt := 21) dX0_keptKind_4 rfl (by decide) (fun c4_1 => ?_) (fun c4_1 => ?_)
  · refine aj_iconst (q := 22) (v := 0) dX0_keptKind_21 rfl (by decide) ?_
    refine aj_ireturn dX0_keptKind_22 rfl ?_
    simpa only [fGet, fTop, ↓reduceIte, c4_1] using hQ
  · refine aj_aload_n (q := 8) (i := 0) dX0_keptKind_7 rfl rfl rfl ?_
    refine aj_getR (q := 11) fl_X0_21 dX0_keptKind_8 rfl lR_11 rfl ?_
    refine aj_aload_n (q := 12) (i := 0) dX0_keptKind_11 rfl rfl rfl ?_
    refine aj_getI (q := 15) (f := 1105) fl_X0_27 dX0_keptKind_12 rfl lR_11 rfl rfl ?_
    refine aj_iconst (q := 16) (v := 1) dX0_keptKind_15 rfl (by decide) ?_
    refine aj_isub (q := 17) dX0_keptKind_16 rfl ?_
    refine aj_iaload (q := 18) (f := 1500) dX0_keptKind_17 rfl lR_15 rfl (wf_top hw c4_1) ?_
    refine aj_goto (tgt := 22) dX0_keptKind_18 (by decide) ?_
    refine aj_ireturn dX0_keptKind_22 rfl ?_
    simpa only [fGet, fTop, ↓reduceIte, c4_1] using hQ
theorem sp_X0_keptNumber {d : Nat} {S : Sx} {Q : Option Value → Sx → Prop} (hw : wfR S) (hQ : Q (some (.int (fGet S 1600 (0)))) S) : CC d kX0_keptNumber layR [.ref 11] S Q := by
  refine cc_intro [some _] (by decide) (cc_cat (by rfl)) (Nat.le_of_ble_eq_true rfl) (cc_ls (by rfl)) ?_
  refine aj_aload_n (q := 1) (i := 0) dX0_keptNumber_0 rfl rfl rfl ?_
  refine aj_getI (q := 4) (f := 1105) fl_X0_27 dX0_keptNumber_1 rfl lR_11 rfl rfl ?_
  refine aj_if_le (q := 7) (tgt := 21) dX0_keptNumber_4 rfl (by decide) (fun c4_1 => ?_) (fun c4_1 => ?_)
  · refine aj_iconst (q := 22) (v := 0) dX0_keptNumber_21 rfl (by decide) ?_
    refine aj_ireturn dX0_keptNumber_22 rfl ?_
    simpa only [fGet, fTop, ↓reduceIte, c4_1] using hQ
  · refine aj_aload_n (q := 8) (i := 0) dX0_keptNumber_7 rfl rfl rfl ?_
    refine aj_getR (q := 11) fl_X0_24 dX0_keptNumber_8 rfl lR_11 rfl ?_
    refine aj_aload_n (q := 12) (i := 0) dX0_keptNumber_11 rfl rfl rfl ?_
    refine aj_getI (q := 15) (f := 1105) fl_X0_27 dX0_keptNumber_12 rfl lR_11 rfl rfl ?_
    refine aj_iconst (q := 16) (v := 1) dX0_keptNumber_15 rfl (by decide) ?_
    refine aj_isub (q := 17) dX0_keptNumber_16 rfl ?_
    refine aj_iaload (q := 18) (f := 1600) dX0_keptNumber_17 rfl lR_16 rfl (wf_top hw c4_1) ?_
    refine aj_goto (tgt := 22) dX0_keptNumber_18 (by decide) ?_
    refine aj_ireturn dX0_keptNumber_22 rfl ?_
    simpa only [fGet, fTop, ↓reduceIte, c4_1] using hQ
theorem sp_X0_setStage {d : Nat} {S : Sx} {Q : Option Value → Sx → Prop} {g : Int32} (hw : wfR S) (hQ : wfR (fSetStage S g) → Q none (fSetStage S g)) : CC d kX0_setStage layR [.ref 11, .int g] S Q := by
  refine cc_intro [some _, some _] (by decide) (cc_cat (by rfl)) (Nat.le_of_ble_eq_true rfl) (cc_ls (by rfl)) ?_
  refine aj_aload_n (q := 1) (i := 0) dX0_setStage_0 rfl rfl rfl ?_
  refine aj_getI (q := 4) (f := 1105) fl_X0_27 dX0_setStage_1 rfl lR_11 rfl rfl ?_
  refine aj_if_le (q := 7) (tgt := 19) dX0_setStage_4 rfl (by decide) (fun c4_1 => ?_) (fun c4_1 => ?_)
  · refine aj_return dX0_setStage_19 rfl ?_
    have hq := hQ (wf_fSetStage hw)
    simpa only [fSetStage, fTop, ↓reduceIte, sw_eq, sw_ne, ne_eq, Nat.reduceEqDiff, not_false_eq_true, Bool.false_eq_true, c4_1] using hq
  · refine aj_aload_n (q := 8) (i := 0) dX0_setStage_7 rfl rfl rfl ?_
    refine aj_getR (q := 11) fl_X0_15 dX0_setStage_8 rfl lR_11 rfl ?_
    refine aj_aload_n (q := 12) (i := 0) dX0_setStage_11 rfl rfl rfl ?_
    refine aj_getI (q := 15) (f := 1105) fl_X0_27 dX0_setStage_12 rfl lR_11 rfl rfl ?_
    refine aj_iconst (q := 16) (v := 1) dX0_setStage_15 rfl (by decide) ?_
    refine aj_isub (q := 17) dX0_setStage_16 rfl ?_
    refine aj_iload_n (q := 18) (i := 1) dX0_setStage_17 rfl rfl rfl ?_
    refine aj_iastore (q := 19) (f := 1300) okR dX0_setStage_18 rfl lR_13 rfl (wf_top hw c4_1) ?_
    refine aj_return dX0_setStage_19 rfl ?_
    have hq := hQ (wf_fSetStage hw)
    simpa only [fSetStage, fTop, ↓reduceIte, sw_eq, sw_ne, ne_eq, Nat.reduceEqDiff, not_false_eq_true, Bool.false_eq_true, c4_1] using hq
theorem sp_X0_keep {d : Nat} {S : Sx} {Q : Option Value → Sx → Prop} {a b c : Int32} (hw : wfR S) (hQ : wfR (fKeep S a b c) → Q none (fKeep S a b c)) : CC d kX0_keep layR [.ref 11, .int a, .int b, .int c] S Q := by
  refine cc_intro [some _, some _, some _, some _] (by decide) (cc_cat (by rfl)) (Nat.le_of_ble_eq_true rfl) (cc_ls (by rfl)) ?_
  refine aj_aload_n (q := 1) (i := 0) dX0_keep_0 rfl rfl rfl ?_
  refine aj_getI (q := 4) (f := 1105) fl_X0_27 dX0_keep_1 rfl lR_11 rfl rfl ?_
  try simp only [sw_eq, sw_ne, fil_ne, ne_eq, Nat.reduceEqDiff, not_false_eq_true]
  refine aj_if_le (q := 7) (tgt := 43) dX0_keep_4 rfl (by decide) (fun c4_1 => ?_) (fun c4_1 => ?_)
  · refine aj_return dX0_keep_43 rfl ?_
    have hq := hQ (wf_fKeep hw)
    simpa only [fKeep, fTop, ↓reduceIte, sw_eq, sw_ne, ne_eq, Nat.reduceEqDiff, not_false_eq_true, Bool.false_eq_true, c4_1] using hq
  · refine aj_aload_n (q := 8) (i := 0) dX0_keep_7 rfl rfl rfl ?_
    refine aj_getR (q := 11) fl_X0_18 dX0_keep_8 rfl lR_11 rfl ?_
    refine aj_aload_n (q := 12) (i := 0) dX0_keep_11 rfl rfl rfl ?_
    refine aj_getI (q := 15) (f := 1105) fl_X0_27 dX0_keep_12 rfl lR_11 rfl rfl ?_
    try simp only [sw_eq, sw_ne, fil_ne, ne_eq, Nat.reduceEqDiff, not_false_eq_true]
    refine aj_iconst (q := 16) (v := 1) dX0_keep_15 rfl (by decide) ?_
    refine aj_isub (q := 17) dX0_keep_16 rfl ?_
    refine aj_iload_n (q := 18) (i := 1) dX0_keep_17 rfl rfl rfl ?_
    refine aj_iastore (q := 19) (f := 1400) okR dX0_keep_18 rfl lR_14 rfl (wf_top hw c4_1) ?_
    refine aj_aload_n (q := 20) (i := 0) dX0_keep_19 rfl rfl rfl ?_
    refine aj_getR (q := 23) fl_X0_21 dX0_keep_20 rfl lR_11 rfl ?_
    refine aj_aload_n (q := 24) (i := 0) dX0_keep_23 rfl rfl rfl ?_
    refine aj_getI (q := 27) (f := 1105) fl_X0_27 dX0_keep_24 rfl lR_11 rfl rfl ?_
    try simp only [sw_eq, sw_ne, fil_ne, ne_eq, Nat.reduceEqDiff, not_false_eq_true]
    refine aj_iconst (q := 28) (v := 1) dX0_keep_27 rfl (by decide) ?_
    refine aj_isub (q := 29) dX0_keep_28 rfl ?_
    refine aj_iload_n (q := 30) (i := 2) dX0_keep_29 rfl rfl rfl ?_
    refine aj_iastore (q := 31) (f := 1500) okR dX0_keep_30 rfl lR_15 rfl (wf_top hw c4_1) ?_
    refine aj_aload_n (q := 32) (i := 0) dX0_keep_31 rfl rfl rfl ?_
    refine aj_getR (q := 35) fl_X0_24 dX0_keep_32 rfl lR_11 rfl ?_
    refine aj_aload_n (q := 36) (i := 0) dX0_keep_35 rfl rfl rfl ?_
    refine aj_getI (q := 39) (f := 1105) fl_X0_27 dX0_keep_36 rfl lR_11 rfl rfl ?_
    try simp only [sw_eq, sw_ne, fil_ne, ne_eq, Nat.reduceEqDiff, not_false_eq_true]
    refine aj_iconst (q := 40) (v := 1) dX0_keep_39 rfl (by decide) ?_
    refine aj_isub (q := 41) dX0_keep_40 rfl ?_
    refine aj_iload_n (q := 42) (i := 3) dX0_keep_41 rfl rfl rfl ?_
    refine aj_iastore (q := 43) (f := 1600) okR dX0_keep_42 rfl lR_16 rfl (wf_top hw c4_1) ?_
    refine aj_return dX0_keep_43 rfl ?_
    have hq := hQ (wf_fKeep hw)
    simpa only [fKeep, fTop, ↓reduceIte, sw_eq, sw_ne, ne_eq, Nat.reduceEqDiff, not_false_eq_true, Bool.false_eq_true, c4_1] using hq
/-! Locks -/
def lClear (S : Sx) : Sx := sw (fil S 1000 4 0) 901 0 0
def lTake (S : Sx) (k : Int32) : Sx := if inb k 4 then sw (sw S 1000 k.toNatClampNeg (S 1000 k.toNatClampNeg + 1)) 901 0 (imax (S 901 0) (S 1000 k.toNatClampNeg + 1)) else S
def lFree (S : Sx) (k : Int32) : Sx := if inb k 4 then sw S 1000 k.toNatClampNeg (S 1000 k.toNatClampNeg - 1) else S
def lSum (S : Sx) : Int32 := 0 + S 1000 0 + S 1000 1 + S 1000 2 + S 1000 3
theorem wf_fil {S : Sx} {f n : Nat} {v : Int32} (h : wfR S) (hf : wfFree f = true) : wfR (fil S f n v) := by
  have hne : 1105 ≠ f ∧ 602 ≠ f ∧ 104 ≠ f ∧ 400 ≠ f ∧ 300 ≠ f ∧ 1706 ≠ f ∧ 607 ≠ f := by
    simp [wfFree] at hf
    omega
  obtain ⟨n1, n2, n3, n4, n5, n6, n7⟩ := hne
  simpa only [wfR, fil_ne n1, fil_ne n2, fil_ne n3, fil_ne n4, fil_ne n5, fil_ne n6, fil_ne n7] using h
theorem wf_lClear {S : Sx} (h : wfR S) : wfR (lClear S) := (wf_fil h rfl).sw rfl
theorem wf_lTake {S : Sx} {k : Int32} (h : wfR S) : wfR (lTake S k) := by
  unfold lTake
  split
  · exact (h.sw rfl).sw rfl
  · exact h
theorem wf_lFree {S : Sx} {k : Int32} (h : wfR S) : wfR (lFree S k) := by
  unfold lFree
  split
  · exact h.sw rfl
  · exact h
theorem sp_X2_clear {d : Nat} {S : Sx} {Q : Option Value → Sx → Prop} (hw : wfR S) (hQ : wfR (lClear S) → Q none (lClear S)) : CC (d + 1) kX2_clear layR [.ref 9] S Q := by
  refine cc_intro [some _] (by decide) (cc_cat (by rfl)) (Nat.le_of_ble_eq_true rfl) (cc_ls (by rfl)) ?_
  refine aj_aload_n (q := 1) (i := 0) dX2_clear_0 rfl rfl rfl ?_
  refine aj_getR (q := 4) fl_X2_9 dX2_clear_1 rfl lR_9 rfl ?_
  refine aj_iconst (q := 5) (v := 0) dX2_clear_4 rfl (by decide) ?_
  refine aj_callS (q := 8) (As := [_, _]) cl_X2_15 mk_J7_fill_53178 dX2_clear_5 rfl rfl (Nat.le_of_ble_eq_true rfl) (sp_fill okR lR_10 (by decide) ?_)
  refine aj_aload_n (q := 9) (i := 0) dX2_clear_8 rfl rfl rfl ?_
  refine aj_iconst (q := 10) (v := 0) dX2_clear_9 rfl (by decide) ?_
  refine aj_putI (q := 13) (f := 901) okR fp_X2_21 dX2_clear_10 rfl lR_9 rfl rfl ?_
  refine aj_return dX2_clear_13 rfl ?_
  exact hQ (wf_lClear hw)
theorem sp_X2_take {d : Nat} {S : Sx} {Q : Option Value → Sx → Prop} {k : Int32} (hw : wfR S) (hQ : wfR (lTake S k) → Q none (lTake S k)) : CC (d + 1) kX2_take layR [.ref 9, .int k] S Q := by
  refine cc_intro [some _, some _] (by decide) (cc_cat (by rfl)) (Nat.le_of_ble_eq_true rfl) (cc_ls (by rfl)) ?_
  refine aj_iload_n (q := 1) (i := 1) dX2_take_0 rfl rfl rfl ?_
  refine aj_iconst (q := 2) (v := 4) dX2_take_1 rfl (by decide) ?_
  refine aj_callS (q := 5) (As := [_, _]) cl_X2_25 mk_X9_isBelow dX2_take_2 rfl rfl (Nat.le_of_ble_eq_true rfl) (sp_isBelow ?_)
  refine aj_ifB_eq (q := 8) (tgt := 35) dX2_take_5 rfl (by decide) (fun c5_1 => ?_) (fun c5_1 => ?_)
  · refine aj_return dX2_take_35 rfl ?_
    have hq := hQ (wf_lTake hw)
    simpa only [lTake, ↓reduceIte, sw_eq, sw_ne, ne_eq, Nat.reduceEqDiff, not_false_eq_true, Bool.false_eq_true, c5_1] using hq
  · refine aj_aload_n (q := 9) (i := 0) dX2_take_8 rfl rfl rfl ?_
    refine aj_getR (q := 12) fl_X2_9 dX2_take_9 rfl lR_9 rfl ?_
    refine aj_iload_n (q := 13) (i := 1) dX2_take_12 rfl rfl rfl ?_
    refine aj_dup2 (q := 14) dX2_take_13 rfl rfl rfl ?_
    refine aj_iaload (q := 15) (f := 1000) dX2_take_14 rfl lR_10 rfl (vin (by decide) c5_1) ?_
    try simp only [sw_eq, sw_ne, fil_ne, ne_eq, Nat.reduceEqDiff, not_false_eq_true]
    refine aj_iconst (q := 16) (v := 1) dX2_take_15 rfl (by decide) ?_
    refine aj_iadd (q := 17) dX2_take_16 rfl ?_
    refine aj_iastore (q := 18) (f := 1000) okR dX2_take_17 rfl lR_10 rfl (vin (by decide) c5_1) ?_
    refine aj_aload_n (q := 19) (i := 0) dX2_take_18 rfl rfl rfl ?_
    refine aj_aload_n (q := 20) (i := 0) dX2_take_19 rfl rfl rfl ?_
    refine aj_getI (q := 23) (f := 901) fl_X2_21 dX2_take_20 rfl lR_9 rfl rfl ?_
    try simp only [sw_eq, sw_ne, fil_ne, ne_eq, Nat.reduceEqDiff, not_false_eq_true]
    refine aj_aload_n (q := 24) (i := 0) dX2_take_23 rfl rfl rfl ?_
    refine aj_getR (q := 27) fl_X2_9 dX2_take_24 rfl lR_9 rfl ?_
    refine aj_iload_n (q := 28) (i := 1) dX2_take_27 rfl rfl rfl ?_
    refine aj_iaload (q := 29) (f := 1000) dX2_take_28 rfl lR_10 rfl (vin (by decide) c5_1) ?_
    try simp only [sw_eq, sw_ne, fil_ne, ne_eq, Nat.reduceEqDiff, not_false_eq_true]
    refine aj_max (q := 32) cm_X2_29 dX2_take_29 rfl (Nat.le_of_ble_eq_true rfl) ?_
    refine aj_putI (q := 35) (f := 901) okR fp_X2_21 dX2_take_32 rfl lR_9 rfl rfl ?_
    refine aj_return dX2_take_35 rfl ?_
    have hq := hQ (wf_lTake hw)
    simpa only [lTake, ↓reduceIte, sw_eq, sw_ne, ne_eq, Nat.reduceEqDiff, not_false_eq_true, Bool.false_eq_true, c5_1] using hq
theorem sp_X2_free {d : Nat} {S : Sx} {Q : Option Value → Sx → Prop} {k : Int32} (hw : wfR S) (hQ : wfR (lFree S k) → Q none (lFree S k)) : CC (d + 1) kX2_free layR [.ref 9, .int k] S Q := by
  refine cc_intro [some _, some _] (by decide) (cc_cat (by rfl)) (Nat.le_of_ble_eq_true rfl) (cc_ls (by rfl)) ?_
  refine aj_iload_n (q := 1) (i := 1) dX2_free_0 rfl rfl rfl ?_
  refine aj_iconst (q := 2) (v := 4) dX2_free_1 rfl (by decide) ?_
  refine aj_callS (q := 5) (As := [_, _]) cl_X2_25 mk_X9_isBelow dX2_free_2 rfl rfl (Nat.le_of_ble_eq_true rfl) (sp_isBelow ?_)
  refine aj_ifB_eq (q := 8) (tgt := 18) dX2_free_5 rfl (by decide) (fun c5_1 => ?_) (fun c5_1 => ?_)
  · refine aj_return dX2_free_18 rfl ?_
    have hq := hQ (wf_lFree hw)
    simpa only [lFree, ↓reduceIte, sw_eq, sw_ne, ne_eq, Nat.reduceEqDiff, not_false_eq_true, Bool.false_eq_true, c5_1] using hq
  · refine aj_aload_n (q := 9) (i := 0) dX2_free_8 rfl rfl rfl ?_
    refine aj_getR (q := 12) fl_X2_9 dX2_free_9 rfl lR_9 rfl ?_
    refine aj_iload_n (q := 13) (i := 1) dX2_free_12 rfl rfl rfl ?_
    refine aj_dup2 (q := 14) dX2_free_13 rfl rfl rfl ?_
    refine aj_iaload (q := 15) (f := 1000) dX2_free_14 rfl lR_10 rfl (vin (by decide) c5_1) ?_
    try simp only [sw_eq, sw_ne, fil_ne, ne_eq, Nat.reduceEqDiff, not_false_eq_true]
    refine aj_iconst (q := 16) (v := 1) dX2_free_15 rfl (by decide) ?_
    refine aj_isub (q := 17) dX2_free_16 rfl ?_
    refine aj_iastore (q := 18) (f := 1000) okR dX2_free_17 rfl lR_10 rfl (vin (by decide) c5_1) ?_
    refine aj_return dX2_free_18 rfl ?_
    have hq := hQ (wf_lFree hw)
    simpa only [lFree, ↓reduceIte, sw_eq, sw_ne, ne_eq, Nat.reduceEqDiff, not_false_eq_true, Bool.false_eq_true, c5_1] using hq
theorem sp_X2_most {d : Nat} {S : Sx} {Q : Option Value → Sx → Prop} (hw : wfR S) (hQ : Q (some (.int (S 901 0))) S) : CC d kX2_most layR [.ref 9] S Q := by
  refine cc_intro [some _] (by decide) (cc_cat (by rfl)) (Nat.le_of_ble_eq_true rfl) (cc_ls (by rfl)) ?_
  refine aj_aload_n (q := 1) (i := 0) dX2_most_0 rfl rfl rfl ?_
  refine aj_getI (q := 4) (f := 901) fl_X2_21 dX2_most_1 rfl lR_9 rfl rfl ?_
  refine aj_ireturn dX2_most_4 rfl ?_
  exact hQ
/-! Mark -/
def mkPrice (n : Int32) : Int32 := if 0 ≤ n then 1 + n / 4 else 1
theorem sp_X3_makingPrice {d : Nat} {S : Sx} {Q : Option Value → Sx → Prop} {n : Int32} (hQ : Q (some (.int (mkPrice n))) S) : CC d kX3_makingPrice layR [.int n] S Q := by
  refine cc_intro [some _] (by decide) (cc_cat (by rfl)) (Nat.le_of_ble_eq_true rfl) (cc_ls (by rfl)) ?_
  refine aj_iload_n (q := 1) (i := 0) dX3_makingPrice_0 rfl rfl rfl ?_
  refine aj_if_ge (q := 4) (tgt := 8) dX3_makingPrice_1 rfl (by decide) (fun c1_1 => ?_) (fun c1_1 => ?_)
  · refine aj_iconst (q := 9) (v := 1) dX3_makingPrice_8 rfl (by decide) ?_
    refine aj_iload_n (q := 10) (i := 0) dX3_makingPrice_9 rfl rfl rfl ?_
    refine aj_iconst (q := 11) (v := 4) dX3_makingPrice_10 rfl (by decide) ?_
    refine aj_idiv (q := 12) dX3_makingPrice_11 rfl (by decide) ?_
    refine aj_iadd (q := 13) dX3_makingPrice_12 rfl ?_
    refine aj_ireturn dX3_makingPrice_13 rfl ?_
    simpa only [mkPrice, ↓reduceIte, c1_1] using hQ
  · refine aj_iconst (q := 5) (v := 1) dX3_makingPrice_4 rfl (by decide) ?_
    refine aj_goto (tgt := 13) dX3_makingPrice_5 (by decide) ?_
    refine aj_ireturn dX3_makingPrice_13 rfl ?_
    simpa only [mkPrice, ↓reduceIte, c1_1] using hQ
/-! Memory -/
def mRead (S : Sx) (x : Int32) : Int32 := if inb x 8 then S 200 x.toNatClampNeg else 0
def mWrite (S : Sx) (x v : Int32) : Sx := if inb x 8 then sw S 200 x.toNatClampNeg v else S
def mLen (S : Sx) (r : Int32) : Int32 := if inb r 4 then S 400 r.toNatClampNeg else -1
def mMake (S : Sx) (r n : Int32) : Sx := if inb r 4 then (if inb n (800 - S 104 0 + 1) then sw (sw (sw S 300 r.toNatClampNeg (S 104 0)) 400 r.toNatClampNeg n) 104 0 (S 104 0 + n) else S) else S
def mForget (S : Sx) (r : Int32) : Sx := if inb r 4 then sw S 400 r.toNatClampNeg (-1) else S
def mShare (S : Sx) (r f : Int32) : Sx := if inb r 4 then (if inb f 4 then sw (sw S 300 r.toNatClampNeg (S 300 f.toNatClampNeg)) 400 r.toNatClampNeg (S 400 f.toNatClampNeg) else S) else S
def mLoad (S : Sx) (r i : Int32) : Int32 := if inb i (mLen S r) then S 500 (S 300 r.toNatClampNeg + i).toNatClampNeg else 0
def mStore (S : Sx) (r i v : Int32) : Sx := if inb i (mLen S r) then sw S 500 (S 300 r.toNatClampNeg + i).toNatClampNeg v else S
def mClear (S : Sx) : Sx := sw (sw (fil (fil (fil S 200 8 0) 400 4 (-1)) 500 800 0) 104 0 0) 105 0 0
theorem inb_nat {x m : Int32} {n : Nat} (hm : m.toInt = n) (h : inb x m = true) : x.toNatClampNeg < n ∧ (x.toNatClampNeg : Int) = x.toInt := by
  have h1 := inb_iff.mp h
  have : (x.toNatClampNeg : Int) = x.toInt := by
    show ((x.toInt.toNat : Nat) : Int) = x.toInt
    omega
  omega
theorem ml_row {S : Sx} {r i : Int32} (h : inb i (mLen S r) = true) : inb r 4 = true := by
  cases hr : inb r 4 with
  | true => rfl
  | false =>
    rw [mLen, hr] at h
    have h1 := inb_iff.mp h
    rw [if_neg (by decide)] at h1
    have : (-1 : Int32).toInt = -1 := rfl
    omega
theorem ml_cell {S : Sx} {r i : Int32} (hw : wfR S) (h : inb i (mLen S r) = true) : vp_in (S 300 r.toNatClampNeg + i) 800 := by
  have hr := ml_row h
  have h1 := inb_iff.mp h
  rw [mLen, if_pos hr] at h1
  have hb := hw.2.2.2.1 r.toNatClampNeg (inb_nat (n := 4) rfl hr).1
  rcases hb with hb | ⟨b1, b2, b3⟩
  · rw [hb] at h1
    have : (-1 : Int32).toInt = -1 := rfl
    omega
  · have := i32_add (x := S 300 r.toNatClampNeg) (y := i) (by omega) (by omega)
    exact vp_in_iff.mpr ⟨by omega, by omega⟩
theorem wf_mWrite {S : Sx} {x v : Int32} (h : wfR S) : wfR (mWrite S x v) := by
  unfold mWrite
  split
  · exact h.sw rfl
  · exact h
theorem wf_mStore {S : Sx} {r i v : Int32} (h : wfR S) : wfR (mStore S r i v) := by
  unfold mStore
  split
  · exact h.sw rfl
  · exact h
theorem wf_mForget {S : Sx} {r : Int32} (h : wfR S) : wfR (mForget S r) := by
  unfold mForget
  split
  · obtain ⟨h1, h2, h3, h4, h5, h6⟩ := h
    refine ⟨h1, h2, h3, fun z hz => ?_, h5, h6⟩
    by_cases e : z = r.toNatClampNeg
    · subst e
      exact Or.inl sw_eq
    · rw [sw_ix e, sw_ne (by decide)]
      exact h4 z hz
  · exact h
theorem wf_mShare {S : Sx} {r f : Int32} (h : wfR S) : wfR (mShare S r f) := by
  unfold mShare
  split
  · split
    · rename_i hf
      have hfn := (inb_nat (n := 4) rfl hf).1
      obtain ⟨h1, h2, h3, h4, h5, h6⟩ := h
      refine ⟨h1, h2, h3, fun z hz => ?_, h5, h6⟩
      by_cases e : z = r.toNatClampNeg
      · subst e
        rw [sw_eq, sw_ne (by decide), sw_eq]
        exact h4 _ hfn
      · rw [sw_ix e, sw_ne (by decide), sw_ne (by decide), sw_ix e]
        exact h4 z hz
    · exact h
  · exact h
theorem wf_mMake {S : Sx} {r n : Int32} (h : wfR S) : wfR (mMake S r n) := by
  unfold mMake
  split
  · split
    · rename_i hf
      obtain ⟨h1, h2, h3, h4, h5, h6⟩ := h
      have g := inb_iff.mp hf
      have e1 : (1 : Int32).toInt = 1 := rfl
      have e8 : (800 : Int32).toInt = 800 := rfl
      have a1 := i32_sub (x := 800) (y := S 104 0) (by omega) (by omega)
      have a2 := i32_add (x := 800 - S 104 0) (y := 1) (by omega) (by omega)
      have a3 := i32_add (x := S 104 0) (y := n) (by omega) (by omega)
      refine ⟨h1, h2, ⟨by rw [sw_eq]; omega, by rw [sw_eq]; omega⟩, fun z hz => ?_, h5, h6⟩
      by_cases e : z = r.toNatClampNeg
      · subst e
        rw [sw_ne (by decide), sw_eq, sw_ne (by decide), sw_ne (by decide), sw_eq]
        exact Or.inr ⟨by omega, by omega, by omega⟩
      · rw [sw_ne (by decide), sw_ix e, sw_ne (by decide), sw_ne (by decide), sw_ne (by decide), sw_ix e]
        exact h4 z hz
    · exact h
  · exact h
theorem wf_mClear {S : Sx} (h : wfR S) : wfR (mClear S) := by
  obtain ⟨h1, h2, h3, h4, h5, h6⟩ := h
  refine ⟨h1, h2, ⟨by rw [show mClear S 104 0 = 0 from rfl]; decide, by rw [show mClear S 104 0 = 0 from rfl]; decide⟩, fun z hz => Or.inl ?_, h5, h6⟩
  simp only [mClear, sw_ne, fil_ne, ne_eq, Nat.reduceEqDiff, not_false_eq_true]
  simp [fil, hz]
theorem sp_X4_clear {d : Nat} {S : Sx} {Q : Option Value → Sx → Prop} (hw : wfR S) (hQ : wfR (mClear S) → Q none (mClear S)) : CC (d + 1) kX4_clear layR [.ref 1] S Q := by
  refine cc_intro [some _] (by decide) (cc_cat (by rfl)) (Nat.le_of_ble_eq_true rfl) (cc_ls (by rfl)) ?_
  refine aj_aload_n (q := 1) (i := 0) dX4_clear_0 rfl rfl rfl ?_
  refine aj_getR (q := 4) fl_X4_9 dX4_clear_1 rfl lR_1 rfl ?_
  refine aj_iconst (q := 5) (v := 0) dX4_clear_4 rfl (by decide) ?_
  refine aj_callS (q := 8) (As := [_, _]) cl_X4_24 mk_J7_fill_53178 dX4_clear_5 rfl rfl (Nat.le_of_ble_eq_true rfl) (sp_fill okR lR_2 (by decide) ?_)
  refine aj_aload_n (q := 9) (i := 0) dX4_clear_8 rfl rfl rfl ?_
  refine aj_getR (q := 12) fl_X4_18 dX4_clear_9 rfl lR_1 rfl ?_
  refine aj_iconst (q := 13) (v := (-1)) dX4_clear_12 rfl (by decide) ?_
  refine aj_callS (q := 16) (As := [_, _]) cl_X4_24 mk_J7_fill_53178 dX4_clear_13 rfl rfl (Nat.le_of_ble_eq_true rfl) (sp_fill okR lR_4 (by decide) ?_)
  refine aj_aload_n (q := 17) (i := 0) dX4_clear_16 rfl rfl rfl ?_
  refine aj_getR (q := 20) fl_X4_21 dX4_clear_17 rfl lR_1 rfl ?_
  refine aj_iconst (q := 21) (v := 0) dX4_clear_20 rfl (by decide) ?_
  refine aj_callS (q := 24) (As := [_, _]) cl_X4_24 mk_J7_fill_53178 dX4_clear_21 rfl rfl (Nat.le_of_ble_eq_true rfl) (sp_fill okR lR_5 (by decide) ?_)
  refine aj_aload_n (q := 25) (i := 0) dX4_clear_24 rfl rfl rfl ?_
  refine aj_iconst (q := 26) (v := 0) dX4_clear_25 rfl (by decide) ?_
  refine aj_putI (q := 29) (f := 104) okR fp_X4_30 dX4_clear_26 rfl lR_1 rfl rfl ?_
  refine aj_aload_n (q := 30) (i := 0) dX4_clear_29 rfl rfl rfl ?_
  refine aj_iconst (q := 31) (v := 0) dX4_clear_30 rfl (by decide) ?_
  refine aj_putI (q := 34) (f := 105) okR fp_X4_34 dX4_clear_31 rfl lR_1 rfl rfl ?_
  refine aj_return dX4_clear_34 rfl ?_
  exact hQ (wf_mClear hw)
theorem sp_X4_read {d : Nat} {S : Sx} {Q : Option Value → Sx → Prop} {x : Int32} (hQ : Q (some (.int (mRead S x))) S) : CC (d + 1) kX4_read layR [.ref 1, .int x] S Q := by
  refine cc_intro [some _, some _] (by decide) (cc_cat (by rfl)) (Nat.le_of_ble_eq_true rfl) (cc_ls (by rfl)) ?_
  refine aj_iload_n (q := 1) (i := 1) dX4_read_0 rfl rfl rfl ?_
  refine aj_bipush (q := 3) (v := 8) dX4_read_1 rfl (by decide) ?_
  refine aj_callS (q := 6) (As := [_, _]) cl_X4_37 mk_X9_isBelow dX4_read_3 rfl rfl (Nat.le_of_ble_eq_true rfl) (sp_isBelow ?_)
  refine aj_ifB_eq (q := 9) (tgt := 18) dX4_read_6 rfl (by decide) (fun c6_1 => ?_) (fun c6_1 => ?_)
  · refine aj_iconst (q := 19) (v := 0) dX4_read_18 rfl (by decide) ?_
    refine aj_ireturn dX4_read_19 rfl ?_
    simpa only [mRead, ↓reduceIte, Bool.false_eq_true, c6_1] using hQ
  · refine aj_aload_n (q := 10) (i := 0) dX4_read_9 rfl rfl rfl ?_
    refine aj_getR (q := 13) fl_X4_9 dX4_read_10 rfl lR_1 rfl ?_
    refine aj_iload_n (q := 14) (i := 1) dX4_read_13 rfl rfl rfl ?_
    refine aj_iaload (q := 15) (f := 200) dX4_read_14 rfl lR_2 rfl (vin (by decide) c6_1) ?_
    refine aj_goto (tgt := 19) dX4_read_15 (by decide) ?_
    refine aj_ireturn dX4_read_19 rfl ?_
    simpa only [mRead, ↓reduceIte, Bool.false_eq_true, c6_1] using hQ
theorem sp_X4_write {d : Nat} {S : Sx} {Q : Option Value → Sx → Prop} {x v : Int32} (hw : wfR S) (hQ : wfR (mWrite S x v) → Q none (mWrite S x v)) : CC (d + 1) kX4_write layR [.ref 1, .int x, .int v] S Q := by
  refine cc_intro [some _, some _, some _] (by decide) (cc_cat (by rfl)) (Nat.le_of_ble_eq_true rfl) (cc_ls (by rfl)) ?_
  refine aj_iload_n (q := 1) (i := 1) dX4_write_0 rfl rfl rfl ?_
  refine aj_bipush (q := 3) (v := 8) dX4_write_1 rfl (by decide) ?_
  refine aj_callS (q := 6) (As := [_, _]) cl_X4_37 mk_X9_isBelow dX4_write_3 rfl rfl (Nat.le_of_ble_eq_true rfl) (sp_isBelow ?_)
  refine aj_ifB_eq (q := 9) (tgt := 16) dX4_write_6 rfl (by decide) (fun c6_1 => ?_) (fun c6_1 => ?_)
  · refine aj_return dX4_write_16 rfl ?_
    have hq := hQ (wf_mWrite hw)
    simpa only [mWrite, ↓reduceIte, sw_eq, sw_ne, ne_eq, Nat.reduceEqDiff, not_false_eq_true, Bool.false_eq_true, c6_1] using hq
  · refine aj_aload_n (q := 10) (i := 0) dX4_write_9 rfl rfl rfl ?_
    refine aj_getR (q := 13) fl_X4_9 dX4_write_10 rfl lR_1 rfl ?_
    refine aj_iload_n (q := 14) (i := 1) dX4_write_13 rfl rfl rfl ?_
    refine aj_iload_n (q := 15) (i := 2) dX4_write_14 rfl rfl rfl ?_
    refine aj_iastore (q := 16) (f := 200) okR dX4_write_15 rfl lR_2 rfl (vin (by decide) c6_1) ?_
    refine aj_return dX4_write_16 rfl ?_
    have hq := hQ (wf_mWrite hw)
    simpa only [mWrite, ↓reduceIte, sw_eq, sw_ne, ne_eq, Nat.reduceEqDiff, not_false_eq_true, Bool.false_eq_true, c6_1] using hq
theorem sp_X4_result {d : Nat} {S : Sx} {Q : Option Value → Sx → Prop} (hQ : Q (some (.int (S 105 0))) S) : CC d kX4_result layR [.ref 1] S Q := by
  refine cc_intro [some _] (by decide) (cc_cat (by rfl)) (Nat.le_of_ble_eq_true rfl) (cc_ls (by rfl)) ?_
  refine aj_aload_n (q := 1) (i := 0) dX4_result_0 rfl rfl rfl ?_
  refine aj_getI (q := 4) (f := 105) fl_X4_34 dX4_result_1 rfl lR_1 rfl rfl ?_
  refine aj_ireturn dX4_result_4 rfl ?_
  exact hQ
theorem sp_X4_setResult {d : Nat} {S : Sx} {Q : Option Value → Sx → Prop} {v : Int32} (hw : wfR S) (hQ : wfR (sw S 105 0 v) → Q none (sw S 105 0 v)) : CC d kX4_setResult layR [.ref 1, .int v] S Q := by
  refine cc_intro [some _, some _] (by decide) (cc_cat (by rfl)) (Nat.le_of_ble_eq_true rfl) (cc_ls (by rfl)) ?_
  refine aj_aload_n (q := 1) (i := 0) dX4_setResult_0 rfl rfl rfl ?_
  refine aj_iload_n (q := 2) (i := 1) dX4_setResult_1 rfl rfl rfl ?_
  refine aj_putI (q := 5) (f := 105) okR fp_X4_34 dX4_setResult_2 rfl lR_1 rfl rfl ?_
  refine aj_return dX4_setResult_5 rfl ?_
  exact hQ (hw.sw rfl)
theorem sp_X4_lengthOf {d : Nat} {S : Sx} {Q : Option Value → Sx → Prop} {r : Int32} (hQ : Q (some (.int (mLen S r))) S) : CC (d + 1) kX4_lengthOf layR [.ref 1, .int r] S Q := by
  refine cc_intro [some _, some _] (by decide) (cc_cat (by rfl)) (Nat.le_of_ble_eq_true rfl) (cc_ls (by rfl)) ?_
  refine aj_iload_n (q := 1) (i := 1) dX4_lengthOf_0 rfl rfl rfl ?_
  refine aj_iconst (q := 2) (v := 4) dX4_lengthOf_1 rfl (by decide) ?_
  refine aj_callS (q := 5) (As := [_, _]) cl_X4_37 mk_X9_isBelow dX4_lengthOf_2 rfl rfl (Nat.le_of_ble_eq_true rfl) (sp_isBelow ?_)
  refine aj_ifB_eq (q := 8) (tgt := 17) dX4_lengthOf_5 rfl (by decide) (fun c5_1 => ?_) (fun c5_1 => ?_)
  · refine aj_iconst (q := 18) (v := (-1)) dX4_lengthOf_17 rfl (by decide) ?_
    refine aj_ireturn dX4_lengthOf_18 rfl ?_
    simpa only [mLen, ↓reduceIte, Bool.false_eq_true, c5_1] using hQ
  · refine aj_aload_n (q := 9) (i := 0) dX4_lengthOf_8 rfl rfl rfl ?_
    refine aj_getR (q := 12) fl_X4_18 dX4_lengthOf_9 rfl lR_1 rfl ?_
    refine aj_iload_n (q := 13) (i := 1) dX4_lengthOf_12 rfl rfl rfl ?_
    refine aj_iaload (q := 14) (f := 400) dX4_lengthOf_13 rfl lR_4 rfl (vin (by decide) c5_1) ?_
    refine aj_goto (tgt := 18) dX4_lengthOf_14 (by decide) ?_
    refine aj_ireturn dX4_lengthOf_18 rfl ?_
    simpa only [mLen, ↓reduceIte, Bool.false_eq_true, c5_1] using hQ
theorem sp_X4_makeRow {d : Nat} {S : Sx} {Q : Option Value → Sx → Prop} {r n : Int32} (hw : wfR S) (hQ : wfR (mMake S r n) → Q none (mMake S r n)) : CC (d + 1) kX4_makeRow layR [.ref 1, .int r, .int n] S Q := by
  refine cc_intro [some _, some _, some _] (by decide) (cc_cat (by rfl)) (Nat.le_of_ble_eq_true rfl) (cc_ls (by rfl)) ?_
  refine aj_iload_n (q := 1) (i := 1) dX4_makeRow_0 rfl rfl rfl ?_
  refine aj_iconst (q := 2) (v := 4) dX4_makeRow_1 rfl (by decide) ?_
  refine aj_callS (q := 5) (As := [_, _]) cl_X4_37 mk_X9_isBelow dX4_makeRow_2 rfl rfl (Nat.le_of_ble_eq_true rfl) (sp_isBelow ?_)
  refine aj_ifB_eq (q := 8) (tgt := 25) dX4_makeRow_5 rfl (by decide) (fun c5_1 => ?_) (fun c5_1 => ?_)
  · refine aj_return dX4_makeRow_25 rfl ?_
    have hq := hQ (wf_mMake hw)
    simpa only [mMake, ↓reduceIte, sw_eq, sw_ne, ne_eq, Nat.reduceEqDiff, not_false_eq_true, Bool.false_eq_true, c5_1] using hq
  · refine aj_iload_n (q := 9) (i := 2) dX4_makeRow_8 rfl rfl rfl ?_
    refine aj_sipush (q := 12) (v := 800) dX4_makeRow_9 rfl (by decide) ?_
    refine aj_aload_n (q := 13) (i := 0) dX4_makeRow_12 rfl rfl rfl ?_
    refine aj_getI (q := 16) (f := 104) fl_X4_30 dX4_makeRow_13 rfl lR_1 rfl rfl ?_
    try simp only [sw_eq, sw_ne, fil_ne, ne_eq, Nat.reduceEqDiff, not_false_eq_true]
    refine aj_isub (q := 17) dX4_makeRow_16 rfl ?_
    refine aj_iconst (q := 18) (v := 1) dX4_makeRow_17 rfl (by decide) ?_
    refine aj_iadd (q := 19) dX4_makeRow_18 rfl ?_
    refine aj_callS (q := 22) (As := [_, _]) cl_X4_37 mk_X9_isBelow dX4_makeRow_19 rfl rfl (Nat.le_of_ble_eq_true rfl) (sp_isBelow ?_)
    refine aj_ifB_ne (q := 25) (tgt := 26) dX4_makeRow_22 rfl (by decide) (fun c22_2 => ?_) (fun c22_2 => ?_)
    · refine aj_aload_n (q := 27) (i := 0) dX4_makeRow_26 rfl rfl rfl ?_
      refine aj_getR (q := 30) fl_X4_15 dX4_makeRow_27 rfl lR_1 rfl ?_
      refine aj_iload_n (q := 31) (i := 1) dX4_makeRow_30 rfl rfl rfl ?_
      refine aj_aload_n (q := 32) (i := 0) dX4_makeRow_31 rfl rfl rfl ?_
      refine aj_getI (q := 35) (f := 104) fl_X4_30 dX4_makeRow_32 rfl lR_1 rfl rfl ?_
      try simp only [sw_eq, sw_ne, fil_ne, ne_eq, Nat.reduceEqDiff, not_false_eq_true]
      refine aj_iastore (q := 36) (f := 300) okR dX4_makeRow_35 rfl lR_3 rfl (vin (by decide) c5_1) ?_
      refine aj_aload_n (q := 37) (i := 0) dX4_makeRow_36 rfl rfl rfl ?_
      refine aj_getR (q := 40) fl_X4_18 dX4_makeRow_37 rfl lR_1 rfl ?_
      refine aj_iload_n (q := 41) (i := 1) dX4_makeRow_40 rfl rfl rfl ?_
      refine aj_iload_n (q := 42) (i := 2) dX4_makeRow_41 rfl rfl rfl ?_
      refine aj_iastore (q := 43) (f := 400) okR dX4_makeRow_42 rfl lR_4 rfl (vin (by decide) c5_1) ?_
      refine aj_aload_n (q := 44) (i := 0) dX4_makeRow_43 rfl rfl rfl ?_
      refine aj_dup (q := 45) dX4_makeRow_44 rfl rfl ?_
      refine aj_getI (q := 48) (f := 104) fl_X4_30 dX4_makeRow_45 rfl lR_1 rfl rfl ?_
      try simp only [sw_eq, sw_ne, fil_ne, ne_eq, Nat.reduceEqDiff, not_false_eq_true]
      refine aj_iload_n (q := 49) (i := 2) dX4_makeRow_48 rfl rfl rfl ?_
      refine aj_iadd (q := 50) dX4_makeRow_49 rfl ?_
      refine aj_putI (q := 53) (f := 104) okR fp_X4_30 dX4_makeRow_50 rfl lR_1 rfl rfl ?_
      refine aj_return dX4_makeRow_53 rfl ?_
      have hq := hQ (wf_mMake hw)
      simpa only [mMake, ↓reduceIte, sw_eq, sw_ne, ne_eq, Nat.reduceEqDiff, not_false_eq_true, Bool.false_eq_true, c5_1, c22_2] using hq
    · refine aj_return dX4_makeRow_25 rfl ?_
      have hq := hQ (wf_mMake hw)
      simpa only [mMake, ↓reduceIte, sw_eq, sw_ne, ne_eq, Nat.reduceEqDiff, not_false_eq_true, Bool.false_eq_true, c5_1, c22_2] using hq
theorem sp_X4_forgetRow {d : Nat} {S : Sx} {Q : Option Value → Sx → Prop} {r : Int32} (hw : wfR S) (hQ : wfR (mForget S r) → Q none (mForget S r)) : CC (d + 1) kX4_forgetRow layR [.ref 1, .int r] S Q := by
  refine cc_intro [some _, some _] (by decide) (cc_cat (by rfl)) (Nat.le_of_ble_eq_true rfl) (cc_ls (by rfl)) ?_
  refine aj_iload_n (q := 1) (i := 1) dX4_forgetRow_0 rfl rfl rfl ?_
  refine aj_iconst (q := 2) (v := 4) dX4_forgetRow_1 rfl (by decide) ?_
  refine aj_callS (q := 5) (As := [_, _]) cl_X4_37 mk_X9_isBelow dX4_forgetRow_2 rfl rfl (Nat.le_of_ble_eq_true rfl) (sp_isBelow ?_)
  refine aj_ifB_eq (q := 8) (tgt := 15) dX4_forgetRow_5 rfl (by decide) (fun c5_1 => ?_) (fun c5_1 => ?_)
  · refine aj_return dX4_forgetRow_15 rfl ?_
    have hq := hQ (wf_mForget hw)
    simpa only [mForget, ↓reduceIte, sw_eq, sw_ne, ne_eq, Nat.reduceEqDiff, not_false_eq_true, Bool.false_eq_true, c5_1] using hq
  · refine aj_aload_n (q := 9) (i := 0) dX4_forgetRow_8 rfl rfl rfl ?_
    refine aj_getR (q := 12) fl_X4_18 dX4_forgetRow_9 rfl lR_1 rfl ?_
    refine aj_iload_n (q := 13) (i := 1) dX4_forgetRow_12 rfl rfl rfl ?_
    refine aj_iconst (q := 14) (v := (-1)) dX4_forgetRow_13 rfl (by decide) ?_
    refine aj_iastore (q := 15) (f := 400) okR dX4_forgetRow_14 rfl lR_4 rfl (vin (by decide) c5_1) ?_
    refine aj_return dX4_forgetRow_15 rfl ?_
    have hq := hQ (wf_mForget hw)
    simpa only [mForget, ↓reduceIte, sw_eq, sw_ne, ne_eq, Nat.reduceEqDiff, not_false_eq_true, Bool.false_eq_true, c5_1] using hq
theorem sp_X4_shareRow {d : Nat} {S : Sx} {Q : Option Value → Sx → Prop} {r f : Int32} (hw : wfR S) (hQ : wfR (mShare S r f) → Q none (mShare S r f)) : CC (d + 1) kX4_shareRow layR [.ref 1, .int r, .int f] S Q := by
  refine cc_intro [some _, some _, some _] (by decide) (cc_cat (by rfl)) (Nat.le_of_ble_eq_true rfl) (cc_ls (by rfl)) ?_
  refine aj_iload_n (q := 1) (i := 1) dX4_shareRow_0 rfl rfl rfl ?_
  refine aj_iconst (q := 2) (v := 4) dX4_shareRow_1 rfl (by decide) ?_
  refine aj_callS (q := 5) (As := [_, _]) cl_X4_37 mk_X9_isBelow dX4_shareRow_2 rfl rfl (Nat.le_of_ble_eq_true rfl) (sp_isBelow ?_)
  refine aj_ifB_eq (q := 8) (tgt := 40) dX4_shareRow_5 rfl (by decide) (fun c5_1 => ?_) (fun c5_1 => ?_)
  · refine aj_return dX4_shareRow_40 rfl ?_
    have hq := hQ (wf_mShare hw)
    simpa only [mShare, ↓reduceIte, sw_eq, sw_ne, ne_eq, Nat.reduceEqDiff, not_false_eq_true, Bool.false_eq_true, c5_1] using hq
  · refine aj_iload_n (q := 9) (i := 2) dX4_shareRow_8 rfl rfl rfl ?_
    refine aj_iconst (q := 10) (v := 4) dX4_shareRow_9 rfl (by decide) ?_
    refine aj_callS (q := 13) (As := [_, _]) cl_X4_37 mk_X9_isBelow dX4_shareRow_10 rfl rfl (Nat.le_of_ble_eq_true rfl) (sp_isBelow ?_)
    refine aj_ifB_eq (q := 16) (tgt := 40) dX4_shareRow_13 rfl (by decide) (fun c13_2 => ?_) (fun c13_2 => ?_)
    · refine aj_return dX4_shareRow_40 rfl ?_
      have hq := hQ (wf_mShare hw)
      simpa only [mShare, ↓reduceIte, sw_eq, sw_ne, ne_eq, Nat.reduceEqDiff, not_false_eq_true, Bool.false_eq_true, c5_1, c13_2] using hq
    · refine aj_aload_n (q := 17) (i := 0) dX4_shareRow_16 rfl rfl rfl ?_
      refine aj_getR (q := 20) fl_X4_15 dX4_shareRow_17 rfl lR_1 rfl ?_
      refine aj_iload_n (q := 21) (i := 1) dX4_shareRow_20 rfl rfl rfl ?_
      refine aj_aload_n (q := 22) (i := 0) dX4_shareRow_21 rfl rfl rfl ?_
      refine aj_getR (q := 25) fl_X4_15 dX4_shareRow_22 rfl lR_1 rfl ?_
      refine aj_iload_n (q := 26) (i := 2) dX4_shareRow_25 rfl rfl rfl ?_
      refine aj_iaload (q := 27) (f := 300) dX4_shareRow_26 rfl lR_3 rfl (vin (by decide) c13_2) ?_
      try simp only [sw_eq, sw_ne, fil_ne, ne_eq, Nat.reduceEqDiff, not_false_eq_true]
      refine aj_iastore (q := 28) (f := 300) okR dX4_shareRow_27 rfl lR_3 rfl (vin (by decide) c5_1) ?_
      refine aj_aload_n (q := 29) (i := 0) dX4_shareRow_28 rfl rfl rfl ?_
      refine aj_getR (q := 32) fl_X4_18 dX4_shareRow_29 rfl lR_1 rfl ?_
      refine aj_iload_n (q := 33) (i := 1) dX4_shareRow_32 rfl rfl rfl ?_
      refine aj_aload_n (q := 34) (i := 0) dX4_shareRow_33 rfl rfl rfl ?_
      refine aj_getR (q := 37) fl_X4_18 dX4_shareRow_34 rfl lR_1 rfl ?_
      refine aj_iload_n (q := 38) (i := 2) dX4_shareRow_37 rfl rfl rfl ?_
      refine aj_iaload (q := 39) (f := 400) dX4_shareRow_38 rfl lR_4 rfl (vin (by decide) c13_2) ?_
      try simp only [sw_eq, sw_ne, fil_ne, ne_eq, Nat.reduceEqDiff, not_false_eq_true]
      refine aj_iastore (q := 40) (f := 400) okR dX4_shareRow_39 rfl lR_4 rfl (vin (by decide) c5_1) ?_
      refine aj_return dX4_shareRow_40 rfl ?_
      have hq := hQ (wf_mShare hw)
      simpa only [mShare, ↓reduceIte, sw_eq, sw_ne, ne_eq, Nat.reduceEqDiff, not_false_eq_true, Bool.false_eq_true, c5_1, c13_2] using hq
theorem sp_X4_load {d : Nat} {S : Sx} {Q : Option Value → Sx → Prop} {r i : Int32} (hw : wfR S) (hQ : Q (some (.int (mLoad S r i))) S) : CC (d + 2) kX4_load layR [.ref 1, .int r, .int i] S Q := by
  refine cc_intro [some _, some _, some _] (by decide) (cc_cat (by rfl)) (Nat.le_of_ble_eq_true rfl) (cc_ls (by rfl)) ?_
  refine aj_iload_n (q := 1) (i := 2) dX4_load_0 rfl rfl rfl ?_
  refine aj_aload_n (q := 2) (i := 0) dX4_load_1 rfl rfl rfl ?_
  refine aj_iload_n (q := 3) (i := 1) dX4_load_2 rfl rfl rfl ?_
  refine aj_callV (q := 6) (As := [_]) cl_X4_41 mk_X4_lengthOf dX4_load_3 rfl lR_1 rfl rfl (Nat.le_of_ble_eq_true rfl) (sp_X4_lengthOf ?_)
  refine aj_callS (q := 9) (As := [_, _]) cl_X4_37 mk_X9_isBelow dX4_load_6 rfl rfl (Nat.le_of_ble_eq_true rfl) (sp_isBelow ?_)
  refine aj_ifB_eq (q := 12) (tgt := 28) dX4_load_9 rfl (by decide) (fun c9_1 => ?_) (fun c9_1 => ?_)
  · refine aj_iconst (q := 29) (v := 0) dX4_load_28 rfl (by decide) ?_
    refine aj_ireturn dX4_load_29 rfl ?_
    simpa only [mLoad, ↓reduceIte, Bool.false_eq_true, c9_1] using hQ
  · refine aj_aload_n (q := 13) (i := 0) dX4_load_12 rfl rfl rfl ?_
    refine aj_getR (q := 16) fl_X4_21 dX4_load_13 rfl lR_1 rfl ?_
    refine aj_aload_n (q := 17) (i := 0) dX4_load_16 rfl rfl rfl ?_
    refine aj_getR (q := 20) fl_X4_15 dX4_load_17 rfl lR_1 rfl ?_
    refine aj_iload_n (q := 21) (i := 1) dX4_load_20 rfl rfl rfl ?_
    refine aj_iaload (q := 22) (f := 300) dX4_load_21 rfl lR_3 rfl (vin (by decide) (ml_row c9_1)) ?_
    refine aj_iload_n (q := 23) (i := 2) dX4_load_22 rfl rfl rfl ?_
    refine aj_iadd (q := 24) dX4_load_23 rfl ?_
    refine aj_iaload (q := 25) (f := 500) dX4_load_24 rfl lR_5 rfl (ml_cell hw c9_1) ?_
    refine aj_goto (tgt := 29) dX4_load_25 (by decide) ?_
    refine aj_ireturn dX4_load_29 rfl ?_
    simpa only [mLoad, ↓reduceIte, Bool.false_eq_true, c9_1] using hQ
theorem sp_X4_store {d : Nat} {S : Sx} {Q : Option Value → Sx → Prop} {r i v : Int32} (hw : wfR S) (hQ : wfR (mStore S r i v) → Q none (mStore S r i v)) : CC (d + 2) kX4_store layR [.ref 1, .int r, .int i, .int v] S Q := by
  refine cc_intro [some _, some _, some _, some _] (by decide) (cc_cat (by rfl)) (Nat.le_of_ble_eq_true rfl) (cc_ls (by rfl)) ?_
  refine aj_iload_n (q := 1) (i := 2) dX4_store_0 rfl rfl rfl ?_
  refine aj_aload_n (q := 2) (i := 0) dX4_store_1 rfl rfl rfl ?_
  refine aj_iload_n (q := 3) (i := 1) dX4_store_2 rfl rfl rfl ?_
  refine aj_callV (q := 6) (As := [_]) cl_X4_41 mk_X4_lengthOf dX4_store_3 rfl lR_1 rfl rfl (Nat.le_of_ble_eq_true rfl) (sp_X4_lengthOf ?_)
  refine aj_callS (q := 9) (As := [_, _]) cl_X4_37 mk_X9_isBelow dX4_store_6 rfl rfl (Nat.le_of_ble_eq_true rfl) (sp_isBelow ?_)
  refine aj_ifB_eq (q := 12) (tgt := 26) dX4_store_9 rfl (by decide) (fun c9_1 => ?_) (fun c9_1 => ?_)
  · refine aj_return dX4_store_26 rfl ?_
    have hq := hQ (wf_mStore hw)
    simpa only [mStore, ↓reduceIte, sw_eq, sw_ne, ne_eq, Nat.reduceEqDiff, not_false_eq_true, Bool.false_eq_true, c9_1] using hq
  · refine aj_aload_n (q := 13) (i := 0) dX4_store_12 rfl rfl rfl ?_
    refine aj_getR (q := 16) fl_X4_21 dX4_store_13 rfl lR_1 rfl ?_
    refine aj_aload_n (q := 17) (i := 0) dX4_store_16 rfl rfl rfl ?_
    refine aj_getR (q := 20) fl_X4_15 dX4_store_17 rfl lR_1 rfl ?_
    refine aj_iload_n (q := 21) (i := 1) dX4_store_20 rfl rfl rfl ?_
    refine aj_iaload (q := 22) (f := 300) dX4_store_21 rfl lR_3 rfl (vin (by decide) (ml_row c9_1)) ?_
    refine aj_iload_n (q := 23) (i := 2) dX4_store_22 rfl rfl rfl ?_
    refine aj_iadd (q := 24) dX4_store_23 rfl ?_
    refine aj_iload_n (q := 25) (i := 3) dX4_store_24 rfl rfl rfl ?_
    refine aj_iastore (q := 26) (f := 500) okR dX4_store_25 rfl lR_5 rfl (ml_cell hw c9_1) ?_
    refine aj_return dX4_store_26 rfl ?_
    have hq := hQ (wf_mStore hw)
    simpa only [mStore, ↓reduceIte, sw_eq, sw_ne, ne_eq, Nat.reduceEqDiff, not_false_eq_true, Bool.false_eq_true, c9_1] using hq
/-! Purse -/
def pFill (S : Sx) (b : Int32) : Sx := sw (sw (sw (sw (sw (sw (fil S 700 5 0) 602 0 0) 603 0 b) 604 0 40) 605 0 0) 606 0 0) 607 0 0
def pBy (S : Sx) : Bool := decide (¬ S 607 0 = 0)
def pHas (S : Sx) : Int32 := if S 607 0 = 0 then S 603 0 else S 604 0
def pOk (S : Sx) (m p : Int32) : Bool := if pHas S < p then false else inb m 5
def pUpd (S : Sx) (p : Int32) : Sx := if S 607 0 = 0 then sw (sw S 603 0 (S 603 0 - p)) 605 0 (S 605 0 + p) else sw (sw S 604 0 (S 604 0 - p)) 606 0 (S 606 0 + p)
def pPay (S : Sx) (m p : Int32) : Sx := if pOk S m p then sw (pUpd S p) 700 m.toNatClampNeg (S 700 m.toNatClampNeg + 1) else S
def pNote (S : Sx) (s : Int32) : Sx := if (30 : Int32) ≤ S 602 0 then S else sw (sw S 800 (S 602 0).toNatClampNeg s) 602 0 (S 602 0 + 1)
def pBegun (S : Sx) (k : Int32) : Int32 := if inb k (S 602 0) then S 800 k.toNatClampNeg else -1
def pMarks (S : Sx) (m : Int32) : Int32 := if inb m 5 then S 700 m.toNatClampNeg else 0
theorem by_eq {S : Sx} (h : wfR S) : S 607 0 = bi (pBy S) := by
  rcases h.2.2.2.2.2 with e | e <;> simp [pBy, e, bi]
theorem wf_pFill {S : Sx} {b : Int32} (h : wfR S) : wfR (pFill S b) := by
  obtain ⟨h1, h2, h3, h4, h5, h6⟩ := h
  exact ⟨h1, ⟨by rw [show pFill S b 602 0 = 0 from rfl]; decide, by rw [show pFill S b 602 0 = 0 from rfl]; decide⟩, h3, h4, h5, Or.inl rfl⟩
theorem wf_by {S : Sx} {z : Int32} (hz : z = 0 ∨ z = 1) (h : wfR S) : wfR (sw S 607 0 z) := by
  obtain ⟨h1, h2, h3, h4, h5, h6⟩ := h
  exact ⟨h1, h2, h3, h4, h5, by rw [sw_eq]; exact hz⟩
theorem wf_pPay {S : Sx} {m p : Int32} (h : wfR S) : wfR (pPay S m p) := by
  unfold pPay
  split
  · refine wfR.sw ?_ rfl
    unfold pUpd
    split
    · exact (h.sw rfl).sw rfl
    · exact (h.sw rfl).sw rfl
  · exact h
theorem wf_begun {S : Sx} (h : wfR S) (hc : ¬ (30 : Int32) ≤ S 602 0) : vp_in (S 602 0) 30 := vp_in_iff.mpr ⟨h.2.1.1, by
  rw [i32_le] at hc
  have : (30 : Int32).toInt = 30 := rfl
  omega⟩
theorem wf_begunAt {S : Sx} {k : Int32} (h : wfR S) (hc : inb k (S 602 0) = true) : vp_in k 30 := vp_in_iff.mpr ⟨(inb_iff.mp hc).1, by
  have := (inb_iff.mp hc).2
  have := h.2.1.2
  omega⟩
theorem wf_pNote {S : Sx} {s : Int32} (h : wfR S) : wfR (pNote S s) := by
  unfold pNote
  split
  · exact h
  · rename_i hc
    obtain ⟨h1, h2, h3, h4, h5, h6⟩ := h
    rw [i32_le] at hc
    have e0 : (30 : Int32).toInt = 30 := rfl
    have e1 : (1 : Int32).toInt = 1 := rfl
    have := i32_add (x := S 602 0) (y := 1) (by omega) (by omega)
    refine ⟨h1, ⟨by rw [sw_eq]; omega, by rw [sw_eq]; omega⟩, h3, h4, h5, h6⟩
theorem sp_X6_fill {d : Nat} {S : Sx} {Q : Option Value → Sx → Prop} {b : Int32} (hw : wfR S) (hQ : wfR (pFill S b) → Q none (pFill S b)) : CC (d + 1) kX6_fill layR [.ref 6, .int b] S Q := by
  refine cc_intro [some _, some _] (by decide) (cc_cat (by rfl)) (Nat.le_of_ble_eq_true rfl) (cc_ls (by rfl)) ?_
  refine aj_aload_n (q := 1) (i := 0) dX6_fill_0 rfl rfl rfl ?_
  refine aj_getR (q := 4) fl_X6_11 dX6_fill_1 rfl lR_6 rfl ?_
  refine aj_iconst (q := 5) (v := 0) dX6_fill_4 rfl (by decide) ?_
  refine aj_callS (q := 8) (As := [_, _]) cl_X6_20 mk_J7_fill_53178 dX6_fill_5 rfl rfl (Nat.le_of_ble_eq_true rfl) (sp_fill okR lR_7 (by decide) ?_)
  refine aj_aload_n (q := 9) (i := 0) dX6_fill_8 rfl rfl rfl ?_
  refine aj_iconst (q := 10) (v := 0) dX6_fill_9 rfl (by decide) ?_
  refine aj_putI (q := 13) (f := 602) okR fp_X6_26 dX6_fill_10 rfl lR_6 rfl rfl ?_
  refine aj_aload_n (q := 14) (i := 0) dX6_fill_13 rfl rfl rfl ?_
  refine aj_iload_n (q := 15) (i := 1) dX6_fill_14 rfl rfl rfl ?_
  refine aj_putI (q := 18) (f := 603) okR fp_X6_30 dX6_fill_15 rfl lR_6 rfl rfl ?_
  refine aj_aload_n (q := 19) (i := 0) dX6_fill_18 rfl rfl rfl ?_
  refine aj_bipush (q := 21) (v := 40) dX6_fill_19 rfl (by decide) ?_
  refine aj_putI (q := 24) (f := 604) okR fp_X6_33 dX6_fill_21 rfl lR_6 rfl rfl ?_
  refine aj_aload_n (q := 25) (i := 0) dX6_fill_24 rfl rfl rfl ?_
  refine aj_iconst (q := 26) (v := 0) dX6_fill_25 rfl (by decide) ?_
  refine aj_putI (q := 29) (f := 605) okR fp_X6_36 dX6_fill_26 rfl lR_6 rfl rfl ?_
  refine aj_aload_n (q := 30) (i := 0) dX6_fill_29 rfl rfl rfl ?_
  refine aj_iconst (q := 31) (v := 0) dX6_fill_30 rfl (by decide) ?_
  refine aj_putI (q := 34) (f := 606) okR fp_X6_39 dX6_fill_31 rfl lR_6 rfl rfl ?_
  refine aj_aload_n (q := 35) (i := 0) dX6_fill_34 rfl rfl rfl ?_
  refine aj_iconst (q := 36) (v := 0) dX6_fill_35 rfl (by decide) ?_
  refine aj_putZ (q := 39) (f := 607) okR fp_X6_42 dX6_fill_36 rfl lR_6 rfl rfl rfl rfl ?_
  refine aj_return dX6_fill_39 rfl ?_
  exact hQ (wf_pFill hw)
theorem sp_X6_isByReserve {d : Nat} {S : Sx} {Q : Option Value → Sx → Prop} (hw : wfR S) (hQ : Q (some (.int (bi (pBy S)))) S) : CC d kX6_isByReserve layR [.ref 6] S Q := by
  refine cc_intro [some _] (by decide) (cc_cat (by rfl)) (Nat.le_of_ble_eq_true rfl) (cc_ls (by rfl)) ?_
  refine aj_aload_n (q := 1) (i := 0) dX6_isByReserve_0 rfl rfl rfl ?_
  refine aj_getI (q := 4) (f := 607) fl_X6_42 dX6_isByReserve_1 rfl lR_6 rfl rfl ?_
  refine aj_zreturn dX6_isByReserve_4 rfl (by rw [by_eq hw]; exact bi_nar _) ?_
  rw [by_eq hw]
  exact hQ
theorem sp_X6_setByReserve {d : Nat} {S : Sx} {Q : Option Value → Sx → Prop} {z : Int32} (hz : z = 0 ∨ z = 1) (hw : wfR S) (hQ : wfR (sw S 607 0 z) → Q none (sw S 607 0 z)) : CC d kX6_setByReserve layR [.ref 6, .int z] S Q := by
  refine cc_intro [some _, some _] (by decide) (cc_cat (by rfl)) (Nat.le_of_ble_eq_true rfl) (cc_ls (by rfl)) ?_
  refine aj_aload_n (q := 1) (i := 0) dX6_setByReserve_0 rfl rfl rfl ?_
  refine aj_iload_n (q := 2) (i := 1) dX6_setByReserve_1 rfl rfl rfl ?_
  refine aj_putZ (q := 5) (f := 607) okR fp_X6_42 dX6_setByReserve_2 rfl lR_6 rfl rfl (by rcases hz with rfl | rfl <;> rfl) (by rcases hz with rfl | rfl <;> rfl) ?_
  refine aj_return dX6_setByReserve_5 rfl ?_
  exact hQ (wf_by hz hw)
theorem sp_X6_pays {d : Nat} {S : Sx} {Q : Option Value → Sx → Prop} {m p : Int32} (hw : wfR S) (hQ : wfR (pPay S m p) → Q (some (.int (bi (pOk S m p)))) (pPay S m p)) : CC (d + 1) kX6_pays layR [.ref 6, .int m, .int p] S Q := by
  refine cc_intro [some _, some _, some _] (by decide) (cc_cat (by rfl)) (Nat.le_of_ble_eq_true rfl) (cc_ls (by rfl)) ?_
  refine aj_iload_n (q := 1) (i := 2) dX6_pays_0 rfl rfl rfl ?_
  refine aj_aload_n (q := 2) (i := 0) dX6_pays_1 rfl rfl rfl ?_
  refine aj_getI (q := 5) (f := 607) fl_X6_42 dX6_pays_2 rfl lR_6 rfl rfl ?_
  try simp only [sw_eq, sw_ne, fil_ne, ne_eq, Nat.reduceEqDiff, not_false_eq_true]
  refine aj_if_eq (q := 8) (tgt := 15) dX6_pays_5 rfl (by decide) (fun c5_1 => ?_) (fun c5_1 => ?_)
  · refine aj_aload_n (q := 16) (i := 0) dX6_pays_15 rfl rfl rfl ?_
    refine aj_getI (q := 19) (f := 603) fl_X6_30 dX6_pays_16 rfl lR_6 rfl rfl ?_
    try simp only [sw_eq, sw_ne, fil_ne, ne_eq, Nat.reduceEqDiff, not_false_eq_true]
    refine aj_icmp_gt (q := 22) (tgt := 30) dX6_pays_19 rfl (by decide) (fun c19_2 => ?_) (fun c19_2 => ?_)
    · refine aj_iconst (q := 31) (v := 0) dX6_pays_30 rfl (by decide) ?_
      refine aj_zreturn dX6_pays_31 rfl (by decide) ?_
      first | contradiction | (have hq := hQ (wf_pPay hw); simpa only [pPay, pUpd, pOk, pHas, ↓reduceIte, sw_eq, sw_ne, ne_eq, Nat.reduceEqDiff, not_false_eq_true, Bool.false_eq_true, bi_t, bi_f, c5_1, c19_2] using hq)
    · refine aj_iload_n (q := 23) (i := 1) dX6_pays_22 rfl rfl rfl ?_
      refine aj_iconst (q := 24) (v := 5) dX6_pays_23 rfl (by decide) ?_
      refine aj_callS (q := 27) (As := [_, _]) cl_X6_46 mk_X9_isBelow dX6_pays_24 rfl rfl (Nat.le_of_ble_eq_true rfl) (sp_isBelow ?_)
      refine aj_ifB_ne (q := 30) (tgt := 32) dX6_pays_27 rfl (by decide) (fun c27_3 => ?_) (fun c27_3 => ?_)
      · refine aj_aload_n (q := 33) (i := 0) dX6_pays_32 rfl rfl rfl ?_
        refine aj_getI (q := 36) (f := 607) fl_X6_42 dX6_pays_33 rfl lR_6 rfl rfl ?_
        try simp only [sw_eq, sw_ne, fil_ne, ne_eq, Nat.reduceEqDiff, not_false_eq_true]
        refine aj_if_eq (q := 39) (tgt := 62) dX6_pays_36 rfl (by decide) (fun c36_4 => ?_) (fun c36_4 => ?_)
        · refine aj_aload_n (q := 63) (i := 0) dX6_pays_62 rfl rfl rfl ?_
          refine aj_dup (q := 64) dX6_pays_63 rfl rfl ?_
          refine aj_getI (q := 67) (f := 603) fl_X6_30 dX6_pays_64 rfl lR_6 rfl rfl ?_
          try simp only [sw_eq, sw_ne, fil_ne, ne_eq, Nat.reduceEqDiff, not_false_eq_true]
          refine aj_iload_n (q := 68) (i := 2) dX6_pays_67 rfl rfl rfl ?_
          refine aj_isub (q := 69) dX6_pays_68 rfl ?_
          refine aj_putI (q := 72) (f := 603) okR fp_X6_30 dX6_pays_69 rfl lR_6 rfl rfl ?_
          refine aj_aload_n (q := 73) (i := 0) dX6_pays_72 rfl rfl rfl ?_
          refine aj_dup (q := 74) dX6_pays_73 rfl rfl ?_
          refine aj_getI (q := 77) (f := 605) fl_X6_36 dX6_pays_74 rfl lR_6 rfl rfl ?_
          try simp only [sw_eq, sw_ne, fil_ne, ne_eq, Nat.reduceEqDiff, not_false_eq_true]
          refine aj_iload_n (q := 78) (i := 2) dX6_pays_77 rfl rfl rfl ?_
          refine aj_iadd (q := 79) dX6_pays_78 rfl ?_
          refine aj_putI (q := 82) (f := 605) okR fp_X6_36 dX6_pays_79 rfl lR_6 rfl rfl ?_
          refine aj_aload_n (q := 83) (i := 0) dX6_pays_82 rfl rfl rfl ?_
          refine aj_getR (q := 86) fl_X6_11 dX6_pays_83 rfl lR_6 rfl ?_
          refine aj_iload_n (q := 87) (i := 1) dX6_pays_86 rfl rfl rfl ?_
          refine aj_dup2 (q := 88) dX6_pays_87 rfl rfl rfl ?_
          refine aj_iaload (q := 89) (f := 700) dX6_pays_88 rfl lR_7 rfl (vin (m := 5) (by decide) (by assumption)) ?_
          try simp only [sw_eq, sw_ne, fil_ne, ne_eq, Nat.reduceEqDiff, not_false_eq_true]
          refine aj_iconst (q := 90) (v := 1) dX6_pays_89 rfl (by decide) ?_
          refine aj_iadd (q := 91) dX6_pays_90 rfl ?_
          refine aj_iastore (q := 92) (f := 700) okR dX6_pays_91 rfl lR_7 rfl (vin (m := 5) (by decide) (by assumption)) ?_
          refine aj_iconst (q := 93) (v := 1) dX6_pays_92 rfl (by decide) ?_
          refine aj_zreturn dX6_pays_93 rfl (by decide) ?_
          first | contradiction | (have hq := hQ (wf_pPay hw); simpa only [pPay, pUpd, pOk, pHas, ↓reduceIte, sw_eq, sw_ne, ne_eq, Nat.reduceEqDiff, not_false_eq_true, Bool.false_eq_true, bi_t, bi_f, c5_1, c19_2, c27_3, c36_4] using hq)
        · refine aj_aload_n (q := 40) (i := 0) dX6_pays_39 rfl rfl rfl ?_
          refine aj_dup (q := 41) dX6_pays_40 rfl rfl ?_
          refine aj_getI (q := 44) (f := 604) fl_X6_33 dX6_pays_41 rfl lR_6 rfl rfl ?_
          try simp only [sw_eq, sw_ne, fil_ne, ne_eq, Nat.reduceEqDiff, not_false_eq_true]
          refine aj_iload_n (q := 45) (i := 2) dX6_pays_44 rfl rfl rfl ?_
          refine aj_isub (q := 46) dX6_pays_45 rfl ?_
          refine aj_putI (q := 49) (f := 604) okR fp_X6_33 dX6_pays_46 rfl lR_6 rfl rfl ?_
          refine aj_aload_n (q := 50) (i := 0) dX6_pays_49 rfl rfl rfl ?_
          refine aj_dup (q := 51) dX6_pays_50 rfl rfl ?_
          refine aj_getI (q := 54) (f := 606) fl_X6_39 dX6_pays_51 rfl lR_6 rfl rfl ?_
          try simp only [sw_eq, sw_ne, fil_ne, ne_eq, Nat.reduceEqDiff, not_false_eq_true]
          refine aj_iload_n (q := 55) (i := 2) dX6_pays_54 rfl rfl rfl ?_
          refine aj_iadd (q := 56) dX6_pays_55 rfl ?_
          refine aj_putI (q := 59) (f := 606) okR fp_X6_39 dX6_pays_56 rfl lR_6 rfl rfl ?_
          refine aj_goto (tgt := 82) dX6_pays_59 (by decide) ?_
          refine aj_aload_n (q := 83) (i := 0) dX6_pays_82 rfl rfl rfl ?_
          refine aj_getR (q := 86) fl_X6_11 dX6_pays_83 rfl lR_6 rfl ?_
          refine aj_iload_n (q := 87) (i := 1) dX6_pays_86 rfl rfl rfl ?_
          refine aj_dup2 (q := 88) dX6_pays_87 rfl rfl rfl ?_
          refine aj_iaload (q := 89) (f := 700) dX6_pays_88 rfl lR_7 rfl (vin (m := 5) (by decide) (by assumption)) ?_
          try simp only [sw_eq, sw_ne, fil_ne, ne_eq, Nat.reduceEqDiff, not_false_eq_true]
          refine aj_iconst (q := 90) (v := 1) dX6_pays_89 rfl (by decide) ?_
          refine aj_iadd (q := 91) dX6_pays_90 rfl ?_
          refine aj_iastore (q := 92) (f := 700) okR dX6_pays_91 rfl lR_7 rfl (vin (m := 5) (by decide) (by assumption)) ?_
          refine aj_iconst (q := 93) (v := 1) dX6_pays_92 rfl (by decide) ?_
          refine aj_zreturn dX6_pays_93 rfl (by decide) ?_
          first | contradiction | (have hq := hQ (wf_pPay hw); simpa only [pPay, pUpd, pOk, pHas, ↓reduceIte, sw_eq, sw_ne, ne_eq, Nat.reduceEqDiff, not_false_eq_true, Bool.false_eq_true, bi_t, bi_f, c5_1, c19_2, c27_3, c36_4] using hq)
      · refine aj_iconst (q := 31) (v := 0) dX6_pays_30 rfl (by decide) ?_
        refine aj_zreturn dX6_pays_31 rfl (by decide) ?_
        first | contradiction | (have hq := hQ (wf_pPay hw); simpa only [pPay, pUpd, pOk, pHas, ↓reduceIte, sw_eq, sw_ne, ne_eq, Nat.reduceEqDiff, not_false_eq_true, Bool.false_eq_true, bi_t, bi_f, c5_1, c19_2, c27_3] using hq)
  · refine aj_aload_n (q := 9) (i := 0) dX6_pays_8 rfl rfl rfl ?_
    refine aj_getI (q := 12) (f := 604) fl_X6_33 dX6_pays_9 rfl lR_6 rfl rfl ?_
    try simp only [sw_eq, sw_ne, fil_ne, ne_eq, Nat.reduceEqDiff, not_false_eq_true]
    refine aj_goto (tgt := 19) dX6_pays_12 (by decide) ?_
    refine aj_icmp_gt (q := 22) (tgt := 30) dX6_pays_19 rfl (by decide) (fun c19_5 => ?_) (fun c19_5 => ?_)
    · refine aj_iconst (q := 31) (v := 0) dX6_pays_30 rfl (by decide) ?_
      refine aj_zreturn dX6_pays_31 rfl (by decide) ?_
      first | contradiction | (have hq := hQ (wf_pPay hw); simpa only [pPay, pUpd, pOk, pHas, ↓reduceIte, sw_eq, sw_ne, ne_eq, Nat.reduceEqDiff, not_false_eq_true, Bool.false_eq_true, bi_t, bi_f, c5_1, c19_5] using hq)
    · refine aj_iload_n (q := 23) (i := 1) dX6_pays_22 rfl rfl rfl ?_
      refine aj_iconst (q := 24) (v := 5) dX6_pays_23 rfl (by decide) ?_
      refine aj_callS (q := 27) (As := [_, _]) cl_X6_46 mk_X9_isBelow dX6_pays_24 rfl rfl (Nat.le_of_ble_eq_true rfl) (sp_isBelow ?_)
      refine aj_ifB_ne (q := 30) (tgt := 32) dX6_pays_27 rfl (by decide) (fun c27_6 => ?_) (fun c27_6 => ?_)
      · refine aj_aload_n (q := 33) (i := 0) dX6_pays_32 rfl rfl rfl ?_
        refine aj_getI (q := 36) (f := 607) fl_X6_42 dX6_pays_33 rfl lR_6 rfl rfl ?_
        try simp only [sw_eq, sw_ne, fil_ne, ne_eq, Nat.reduceEqDiff, not_false_eq_true]
        refine aj_if_eq (q := 39) (tgt := 62) dX6_pays_36 rfl (by decide) (fun c36_7 => ?_) (fun c36_7 => ?_)
        · refine aj_aload_n (q := 63) (i := 0) dX6_pays_62 rfl rfl rfl ?_
          refine aj_dup (q := 64) dX6_pays_63 rfl rfl ?_
          refine aj_getI (q := 67) (f := 603) fl_X6_30 dX6_pays_64 rfl lR_6 rfl rfl ?_
          try simp only [sw_eq, sw_ne, fil_ne, ne_eq, Nat.reduceEqDiff, not_false_eq_true]
          refine aj_iload_n (q := 68) (i := 2) dX6_pays_67 rfl rfl rfl ?_
          refine aj_isub (q := 69) dX6_pays_68 rfl ?_
          refine aj_putI (q := 72) (f := 603) okR fp_X6_30 dX6_pays_69 rfl lR_6 rfl rfl ?_
          refine aj_aload_n (q := 73) (i := 0) dX6_pays_72 rfl rfl rfl ?_
          refine aj_dup (q := 74) dX6_pays_73 rfl rfl ?_
          refine aj_getI (q := 77) (f := 605) fl_X6_36 dX6_pays_74 rfl lR_6 rfl rfl ?_
          try simp only [sw_eq, sw_ne, fil_ne, ne_eq, Nat.reduceEqDiff, not_false_eq_true]
          refine aj_iload_n (q := 78) (i := 2) dX6_pays_77 rfl rfl rfl ?_
          refine aj_iadd (q := 79) dX6_pays_78 rfl ?_
          refine aj_putI (q := 82) (f := 605) okR fp_X6_36 dX6_pays_79 rfl lR_6 rfl rfl ?_
          refine aj_aload_n (q := 83) (i := 0) dX6_pays_82 rfl rfl rfl ?_
          refine aj_getR (q := 86) fl_X6_11 dX6_pays_83 rfl lR_6 rfl ?_
          refine aj_iload_n (q := 87) (i := 1) dX6_pays_86 rfl rfl rfl ?_
          refine aj_dup2 (q := 88) dX6_pays_87 rfl rfl rfl ?_
          refine aj_iaload (q := 89) (f := 700) dX6_pays_88 rfl lR_7 rfl (vin (m := 5) (by decide) (by assumption)) ?_
          try simp only [sw_eq, sw_ne, fil_ne, ne_eq, Nat.reduceEqDiff, not_false_eq_true]
          refine aj_iconst (q := 90) (v := 1) dX6_pays_89 rfl (by decide) ?_
          refine aj_iadd (q := 91) dX6_pays_90 rfl ?_
          refine aj_iastore (q := 92) (f := 700) okR dX6_pays_91 rfl lR_7 rfl (vin (m := 5) (by decide) (by assumption)) ?_
          refine aj_iconst (q := 93) (v := 1) dX6_pays_92 rfl (by decide) ?_
          refine aj_zreturn dX6_pays_93 rfl (by decide) ?_
          first | contradiction | (have hq := hQ (wf_pPay hw); simpa only [pPay, pUpd, pOk, pHas, ↓reduceIte, sw_eq, sw_ne, ne_eq, Nat.reduceEqDiff, not_false_eq_true, Bool.false_eq_true, bi_t, bi_f, c5_1, c19_5, c27_6, c36_7] using hq)
        · refine aj_aload_n (q := 40) (i := 0) dX6_pays_39 rfl rfl rfl ?_
          refine aj_dup (q := 41) dX6_pays_40 rfl rfl ?_
          refine aj_getI (q := 44) (f := 604) fl_X6_33 dX6_pays_41 rfl lR_6 rfl rfl ?_
          try simp only [sw_eq, sw_ne, fil_ne, ne_eq, Nat.reduceEqDiff, not_false_eq_true]
          refine aj_iload_n (q := 45) (i := 2) dX6_pays_44 rfl rfl rfl ?_
          refine aj_isub (q := 46) dX6_pays_45 rfl ?_
          refine aj_putI (q := 49) (f := 604) okR fp_X6_33 dX6_pays_46 rfl lR_6 rfl rfl ?_
          refine aj_aload_n (q := 50) (i := 0) dX6_pays_49 rfl rfl rfl ?_
          refine aj_dup (q := 51) dX6_pays_50 rfl rfl ?_
          refine aj_getI (q := 54) (f := 606) fl_X6_39 dX6_pays_51 rfl lR_6 rfl rfl ?_
          try simp only [sw_eq, sw_ne, fil_ne, ne_eq, Nat.reduceEqDiff, not_false_eq_true]
          refine aj_iload_n (q := 55) (i := 2) dX6_pays_54 rfl rfl rfl ?_
          refine aj_iadd (q := 56) dX6_pays_55 rfl ?_
          refine aj_putI (q := 59) (f := 606) okR fp_X6_39 dX6_pays_56 rfl lR_6 rfl rfl ?_
          refine aj_goto (tgt := 82) dX6_pays_59 (by decide) ?_
          refine aj_aload_n (q := 83) (i := 0) dX6_pays_82 rfl rfl rfl ?_
          refine aj_getR (q := 86) fl_X6_11 dX6_pays_83 rfl lR_6 rfl ?_
          refine aj_iload_n (q := 87) (i := 1) dX6_pays_86 rfl rfl rfl ?_
          refine aj_dup2 (q := 88) dX6_pays_87 rfl rfl rfl ?_
          refine aj_iaload (q := 89) (f := 700) dX6_pays_88 rfl lR_7 rfl (vin (m := 5) (by decide) (by assumption)) ?_
          try simp only [sw_eq, sw_ne, fil_ne, ne_eq, Nat.reduceEqDiff, not_false_eq_true]
          refine aj_iconst (q := 90) (v := 1) dX6_pays_89 rfl (by decide) ?_
          refine aj_iadd (q := 91) dX6_pays_90 rfl ?_
          refine aj_iastore (q := 92) (f := 700) okR dX6_pays_91 rfl lR_7 rfl (vin (m := 5) (by decide) (by assumption)) ?_
          refine aj_iconst (q := 93) (v := 1) dX6_pays_92 rfl (by decide) ?_
          refine aj_zreturn dX6_pays_93 rfl (by decide) ?_
          first | contradiction | (have hq := hQ (wf_pPay hw); simpa only [pPay, pUpd, pOk, pHas, ↓reduceIte, sw_eq, sw_ne, ne_eq, Nat.reduceEqDiff, not_false_eq_true, Bool.false_eq_true, bi_t, bi_f, c5_1, c19_5, c27_6, c36_7] using hq)
      · refine aj_iconst (q := 31) (v := 0) dX6_pays_30 rfl (by decide) ?_
        refine aj_zreturn dX6_pays_31 rfl (by decide) ?_
        first | contradiction | (have hq := hQ (wf_pPay hw); simpa only [pPay, pUpd, pOk, pHas, ↓reduceIte, sw_eq, sw_ne, ne_eq, Nat.reduceEqDiff, not_false_eq_true, Bool.false_eq_true, bi_t, bi_f, c5_1, c19_5, c27_6] using hq)
theorem sp_X6_noteBegun {d : Nat} {S : Sx} {Q : Option Value → Sx → Prop} {s : Int32} (hw : wfR S) (hQ : wfR (pNote S s) → Q none (pNote S s)) : CC d kX6_noteBegun layR [.ref 6, .int s] S Q := by
  refine cc_intro [some _, some _] (by decide) (cc_cat (by rfl)) (Nat.le_of_ble_eq_true rfl) (cc_ls (by rfl)) ?_
  refine aj_aload_n (q := 1) (i := 0) dX6_noteBegun_0 rfl rfl rfl ?_
  refine aj_getI (q := 4) (f := 602) fl_X6_26 dX6_noteBegun_1 rfl lR_6 rfl rfl ?_
  try simp only [sw_eq, sw_ne, fil_ne, ne_eq, Nat.reduceEqDiff, not_false_eq_true]
  refine aj_bipush (q := 6) (v := 30) dX6_noteBegun_4 rfl (by decide) ?_
  refine aj_icmp_ge (q := 9) (tgt := 29) dX6_noteBegun_6 rfl (by decide) (fun c6_1 => ?_) (fun c6_1 => ?_)
  · refine aj_return dX6_noteBegun_29 rfl ?_
    have hq := hQ (wf_pNote hw)
    simpa only [pNote, ↓reduceIte, sw_eq, sw_ne, ne_eq, Nat.reduceEqDiff, not_false_eq_true, Bool.false_eq_true, c6_1] using hq
  · refine aj_aload_n (q := 10) (i := 0) dX6_noteBegun_9 rfl rfl rfl ?_
    refine aj_getR (q := 13) fl_X6_17 dX6_noteBegun_10 rfl lR_6 rfl ?_
    refine aj_aload_n (q := 14) (i := 0) dX6_noteBegun_13 rfl rfl rfl ?_
    refine aj_getI (q := 17) (f := 602) fl_X6_26 dX6_noteBegun_14 rfl lR_6 rfl rfl ?_
    try simp only [sw_eq, sw_ne, fil_ne, ne_eq, Nat.reduceEqDiff, not_false_eq_true]
    refine aj_iload_n (q := 18) (i := 1) dX6_noteBegun_17 rfl rfl rfl ?_
    refine aj_iastore (q := 19) (f := 800) okR dX6_noteBegun_18 rfl lR_8 rfl (wf_begun hw c6_1) ?_
    refine aj_aload_n (q := 20) (i := 0) dX6_noteBegun_19 rfl rfl rfl ?_
    refine aj_dup (q := 21) dX6_noteBegun_20 rfl rfl ?_
    refine aj_getI (q := 24) (f := 602) fl_X6_26 dX6_noteBegun_21 rfl lR_6 rfl rfl ?_
    try simp only [sw_eq, sw_ne, fil_ne, ne_eq, Nat.reduceEqDiff, not_false_eq_true]
    refine aj_iconst (q := 25) (v := 1) dX6_noteBegun_24 rfl (by decide) ?_
    refine aj_iadd (q := 26) dX6_noteBegun_25 rfl ?_
    refine aj_putI (q := 29) (f := 602) okR fp_X6_26 dX6_noteBegun_26 rfl lR_6 rfl rfl ?_
    refine aj_return dX6_noteBegun_29 rfl ?_
    have hq := hQ (wf_pNote hw)
    simpa only [pNote, ↓reduceIte, sw_eq, sw_ne, ne_eq, Nat.reduceEqDiff, not_false_eq_true, Bool.false_eq_true, c6_1] using hq
theorem sp_X6_begunAt {d : Nat} {S : Sx} {Q : Option Value → Sx → Prop} {k : Int32} (hw : wfR S) (hQ : Q (some (.int (pBegun S k))) S) : CC (d + 1) kX6_begunAt layR [.ref 6, .int k] S Q := by
  refine cc_intro [some _, some _] (by decide) (cc_cat (by rfl)) (Nat.le_of_ble_eq_true rfl) (cc_ls (by rfl)) ?_
  refine aj_iload_n (q := 1) (i := 1) dX6_begunAt_0 rfl rfl rfl ?_
  refine aj_aload_n (q := 2) (i := 0) dX6_begunAt_1 rfl rfl rfl ?_
  refine aj_getI (q := 5) (f := 602) fl_X6_26 dX6_begunAt_2 rfl lR_6 rfl rfl ?_
  refine aj_callS (q := 8) (As := [_, _]) cl_X6_46 mk_X9_isBelow dX6_begunAt_5 rfl rfl (Nat.le_of_ble_eq_true rfl) (sp_isBelow ?_)
  refine aj_ifB_eq (q := 11) (tgt := 20) dX6_begunAt_8 rfl (by decide) (fun c8_1 => ?_) (fun c8_1 => ?_)
  · refine aj_iconst (q := 21) (v := (-1)) dX6_begunAt_20 rfl (by decide) ?_
    refine aj_ireturn dX6_begunAt_21 rfl ?_
    simpa only [pBegun, ↓reduceIte, Bool.false_eq_true, c8_1] using hQ
  · refine aj_aload_n (q := 12) (i := 0) dX6_begunAt_11 rfl rfl rfl ?_
    refine aj_getR (q := 15) fl_X6_17 dX6_begunAt_12 rfl lR_6 rfl ?_
    refine aj_iload_n (q := 16) (i := 1) dX6_begunAt_15 rfl rfl rfl ?_
    refine aj_iaload (q := 17) (f := 800) dX6_begunAt_16 rfl lR_8 rfl (wf_begunAt hw (by assumption)) ?_
    refine aj_goto (tgt := 21) dX6_begunAt_17 (by decide) ?_
    refine aj_ireturn dX6_begunAt_21 rfl ?_
    simpa only [pBegun, ↓reduceIte, Bool.false_eq_true, c8_1] using hQ
theorem sp_X6_marksOf {d : Nat} {S : Sx} {Q : Option Value → Sx → Prop} {m : Int32} (hQ : Q (some (.int (pMarks S m))) S) : CC (d + 1) kX6_marksOf layR [.ref 6, .int m] S Q := by
  refine cc_intro [some _, some _] (by decide) (cc_cat (by rfl)) (Nat.le_of_ble_eq_true rfl) (cc_ls (by rfl)) ?_
  refine aj_iload_n (q := 1) (i := 1) dX6_marksOf_0 rfl rfl rfl ?_
  refine aj_iconst (q := 2) (v := 5) dX6_marksOf_1 rfl (by decide) ?_
  refine aj_callS (q := 5) (As := [_, _]) cl_X6_46 mk_X9_isBelow dX6_marksOf_2 rfl rfl (Nat.le_of_ble_eq_true rfl) (sp_isBelow ?_)
  refine aj_ifB_eq (q := 8) (tgt := 17) dX6_marksOf_5 rfl (by decide) (fun c5_1 => ?_) (fun c5_1 => ?_)
  · refine aj_iconst (q := 18) (v := 0) dX6_marksOf_17 rfl (by decide) ?_
    refine aj_ireturn dX6_marksOf_18 rfl ?_
    simpa only [pMarks, ↓reduceIte, Bool.false_eq_true, c5_1] using hQ
  · refine aj_aload_n (q := 9) (i := 0) dX6_marksOf_8 rfl rfl rfl ?_
    refine aj_getR (q := 12) fl_X6_11 dX6_marksOf_9 rfl lR_6 rfl ?_
    refine aj_iload_n (q := 13) (i := 1) dX6_marksOf_12 rfl rfl rfl ?_
    refine aj_iaload (q := 14) (f := 700) dX6_marksOf_13 rfl lR_7 rfl (vin (m := 5) (by decide) (by assumption)) ?_
    refine aj_goto (tgt := 18) dX6_marksOf_14 (by decide) ?_
    refine aj_ireturn dX6_marksOf_18 rfl ?_
    simpa only [pMarks, ↓reduceIte, Bool.false_eq_true, c5_1] using hQ
theorem sp_X6_spentOfBudget {d : Nat} {S : Sx} {Q : Option Value → Sx → Prop} (hQ : Q (some (.int (S 605 0))) S) : CC d kX6_spentOfBudget layR [.ref 6] S Q := by
  refine cc_intro [some _] (by decide) (cc_cat (by rfl)) (Nat.le_of_ble_eq_true rfl) (cc_ls (by rfl)) ?_
  refine aj_aload_n (q := 1) (i := 0) dX6_spentOfBudget_0 rfl rfl rfl ?_
  refine aj_getI (q := 4) (f := 605) fl_X6_36 dX6_spentOfBudget_1 rfl lR_6 rfl rfl ?_
  refine aj_ireturn dX6_spentOfBudget_4 rfl ?_
  exact hQ
theorem sp_X6_spentOfReserve {d : Nat} {S : Sx} {Q : Option Value → Sx → Prop} (hQ : Q (some (.int (S 606 0))) S) : CC d kX6_spentOfReserve layR [.ref 6] S Q := by
  refine cc_intro [some _] (by decide) (cc_cat (by rfl)) (Nat.le_of_ble_eq_true rfl) (cc_ls (by rfl)) ?_
  refine aj_aload_n (q := 1) (i := 0) dX6_spentOfReserve_0 rfl rfl rfl ?_
  refine aj_getI (q := 4) (f := 606) fl_X6_39 dX6_spentOfReserve_1 rfl lR_6 rfl rfl ?_
  refine aj_ireturn dX6_spentOfReserve_4 rfl ?_
  exact hQ
/-! Program -/
def gOf (S : Sx) (f : Nat) (z s : Int32) : Int32 := if inb s (S 1706 0) then S f s.toNatClampNeg else z
def gBody (S : Sx) (m : Int32) : Int32 := if inb m 8 then S 2300 m.toNatClampNeg else -1
def gSetBody (S : Sx) (m s : Int32) : Sx := if inb m 8 then sw S 2300 m.toNatClampNeg s else S
def gFull (S : Sx) : Bool := decide (¬ S 1706 0 < 120)
theorem wf_stm {S : Sx} {s : Int32} (h : wfR S) (hc : inb s (S 1706 0) = true) : vp_in s 120 := vp_in_iff.mpr ⟨(inb_iff.mp hc).1, by
  have := (inb_iff.mp hc).2
  have := h.2.2.2.2.1.2
  omega⟩
theorem wf_gSetBody {S : Sx} {m s : Int32} (h : wfR S) : wfR (gSetBody S m s) := by
  unfold gSetBody
  split
  · exact h.sw rfl
  · exact h
theorem sp_X5_statements {d : Nat} {S : Sx} {Q : Option Value → Sx → Prop} (hQ : Q (some (.int (S 1706 0))) S) : CC d kX5_statements layR [.ref 17] S Q := by
  refine cc_intro [some _] (by decide) (cc_cat (by rfl)) (Nat.le_of_ble_eq_true rfl) (cc_ls (by rfl)) ?_
  refine aj_aload_n (q := 1) (i := 0) dX5_statements_0 rfl rfl rfl ?_
  refine aj_getI (q := 4) (f := 1706) fl_X5_36 dX5_statements_1 rfl lR_17 rfl rfl ?_
  refine aj_ireturn dX5_statements_4 rfl ?_
  exact hQ
theorem sp_X5_isFull {d : Nat} {S : Sx} {Q : Option Value → Sx → Prop} (hQ : Q (some (.int (bi (gFull S)))) S) : CC d kX5_isFull layR [.ref 17] S Q := by
  refine cc_intro [some _] (by decide) (cc_cat (by rfl)) (Nat.le_of_ble_eq_true rfl) (cc_ls (by rfl)) ?_
  refine aj_aload_n (q := 1) (i := 0) dX5_isFull_0 rfl rfl rfl ?_
  refine aj_getI (q := 4) (f := 1706) fl_X5_36 dX5_isFull_1 rfl lR_17 rfl rfl ?_
  refine aj_bipush (q := 6) (v := 120) dX5_isFull_4 rfl (by decide) ?_
  refine aj_icmp_lt (q := 9) (tgt := 13) dX5_isFull_6 rfl (by decide) (fun c6_1 => ?_) (fun c6_1 => ?_)
  · refine aj_iconst (q := 14) (v := 0) dX5_isFull_13 rfl (by decide) ?_
    refine aj_zreturn dX5_isFull_14 rfl (by decide) ?_
    simpa only [gFull, c6_1, not_true_eq_false, not_false_eq_true, decide_true, decide_false, bi_t, bi_f] using hQ
  · refine aj_iconst (q := 10) (v := 1) dX5_isFull_9 rfl (by decide) ?_
    refine aj_goto (tgt := 14) dX5_isFull_10 (by decide) ?_
    refine aj_zreturn dX5_isFull_14 rfl (by decide) ?_
    simpa only [gFull, c6_1, not_true_eq_false, not_false_eq_true, decide_true, decide_false, bi_t, bi_f] using hQ
theorem sp_X5_has {d : Nat} {S : Sx} {Q : Option Value → Sx → Prop} {s : Int32} (hQ : Q (some (.int (bi (inb s (S 1706 0))))) S) : CC (d + 1) kX5_has layR [.ref 17, .int s] S Q := by
  refine cc_intro [some _, some _] (by decide) (cc_cat (by rfl)) (Nat.le_of_ble_eq_true rfl) (cc_ls (by rfl)) ?_
  refine aj_iload_n (q := 1) (i := 1) dX5_has_0 rfl rfl rfl ?_
  refine aj_aload_n (q := 2) (i := 0) dX5_has_1 rfl rfl rfl ?_
  refine aj_getI (q := 5) (f := 1706) fl_X5_36 dX5_has_2 rfl lR_17 rfl rfl ?_
  refine aj_callS (q := 8) (As := [_, _]) cl_X5_40 mk_X9_isBelow dX5_has_5 rfl rfl (Nat.le_of_ble_eq_true rfl) (sp_isBelow ?_)
  refine aj_zreturn dX5_has_8 rfl (bi_nar _) ?_
  exact hQ
theorem sp_X5_sortOf {d : Nat} {S : Sx} {Q : Option Value → Sx → Prop} {s : Int32} (hw : wfR S) (hQ : Q (some (.int (gOf S 1800 (-1) s))) S) : CC (d + 2) kX5_sortOf layR [.ref 17, .int s] S Q := by
  refine cc_intro [some _, some _] (by decide) (cc_cat (by rfl)) (Nat.le_of_ble_eq_true rfl) (cc_ls (by rfl)) ?_
  refine aj_aload_n (q := 1) (i := 0) dX5_sortOf_0 rfl rfl rfl ?_
  refine aj_iload_n (q := 2) (i := 1) dX5_sortOf_1 rfl rfl rfl ?_
  refine aj_callV (q := 5) (As := [_]) cl_X5_44 mk_X5_has dX5_sortOf_2 rfl lR_17 rfl rfl (Nat.le_of_ble_eq_true rfl) (sp_X5_has ?_)
  refine aj_ifB_eq (q := 8) (tgt := 17) dX5_sortOf_5 rfl (by decide) (fun c5_1 => ?_) (fun c5_1 => ?_)
  · refine aj_iconst (q := 18) (v := (-1)) dX5_sortOf_17 rfl (by decide) ?_
    refine aj_ireturn dX5_sortOf_18 rfl ?_
    simpa only [gOf, ↓reduceIte, Bool.false_eq_true, c5_1] using hQ
  · refine aj_aload_n (q := 9) (i := 0) dX5_sortOf_8 rfl rfl rfl ?_
    refine aj_getR (q := 12) fl_X5_9 dX5_sortOf_9 rfl lR_17 rfl ?_
    refine aj_iload_n (q := 13) (i := 1) dX5_sortOf_12 rfl rfl rfl ?_
    refine aj_iaload (q := 14) (f := 1800) dX5_sortOf_13 rfl lR_18 rfl (wf_stm hw (by assumption)) ?_
    refine aj_goto (tgt := 18) dX5_sortOf_14 (by decide) ?_
    refine aj_ireturn dX5_sortOf_18 rfl ?_
    simpa only [gOf, ↓reduceIte, Bool.false_eq_true, c5_1] using hQ
theorem sp_X5_firstOf {d : Nat} {S : Sx} {Q : Option Value → Sx → Prop} {s : Int32} (hw : wfR S) (hQ : Q (some (.int (gOf S 1900 (-1) s))) S) : CC (d + 2) kX5_firstOf layR [.ref 17, .int s] S Q := by
  refine cc_intro [some _, some _] (by decide) (cc_cat (by rfl)) (Nat.le_of_ble_eq_true rfl) (cc_ls (by rfl)) ?_
  refine aj_aload_n (q := 1) (i := 0) dX5_firstOf_0 rfl rfl rfl ?_
  refine aj_iload_n (q := 2) (i := 1) dX5_firstOf_1 rfl rfl rfl ?_
  refine aj_callV (q := 5) (As := [_]) cl_X5_44 mk_X5_has dX5_firstOf_2 rfl lR_17 rfl rfl (Nat.le_of_ble_eq_true rfl) (sp_X5_has ?_)
  refine aj_ifB_eq (q := 8) (tgt := 17) dX5_firstOf_5 rfl (by decide) (fun c5_1 => ?_) (fun c5_1 => ?_)
  · refine aj_iconst (q := 18) (v := (-1)) dX5_firstOf_17 rfl (by decide) ?_
    refine aj_ireturn dX5_firstOf_18 rfl ?_
    simpa only [gOf, ↓reduceIte, Bool.false_eq_true, c5_1] using hQ
  · refine aj_aload_n (q := 9) (i := 0) dX5_firstOf_8 rfl rfl rfl ?_
    refine aj_getR (q := 12) fl_X5_15 dX5_firstOf_9 rfl lR_17 rfl ?_
    refine aj_iload_n (q := 13) (i := 1) dX5_firstOf_12 rfl rfl rfl ?_
    refine aj_iaload (q := 14) (f := 1900) dX5_firstOf_13 rfl lR_19 rfl (wf_stm hw (by assumption)) ?_
    refine aj_goto (tgt := 18) dX5_firstOf_14 (by decide) ?_
    refine aj_ireturn dX5_firstOf_18 rfl ?_
    simpa only [gOf, ↓reduceIte, Bool.false_eq_true, c5_1] using hQ
theorem sp_X5_secondOf {d : Nat} {S : Sx} {Q : Option Value → Sx → Prop} {s : Int32} (hw : wfR S) (hQ : Q (some (.int (gOf S 2000 (-1) s))) S) : CC (d + 2) kX5_secondOf layR [.ref 17, .int s] S Q := by
  refine cc_intro [some _, some _] (by decide) (cc_cat (by rfl)) (Nat.le_of_ble_eq_true rfl) (cc_ls (by rfl)) ?_
  refine aj_aload_n (q := 1) (i := 0) dX5_secondOf_0 rfl rfl rfl ?_
  refine aj_iload_n (q := 2) (i := 1) dX5_secondOf_1 rfl rfl rfl ?_
  refine aj_callV (q := 5) (As := [_]) cl_X5_44 mk_X5_has dX5_secondOf_2 rfl lR_17 rfl rfl (Nat.le_of_ble_eq_true rfl) (sp_X5_has ?_)
  refine aj_ifB_eq (q := 8) (tgt := 17) dX5_secondOf_5 rfl (by decide) (fun c5_1 => ?_) (fun c5_1 => ?_)
  · refine aj_iconst (q := 18) (v := (-1)) dX5_secondOf_17 rfl (by decide) ?_
    refine aj_ireturn dX5_secondOf_18 rfl ?_
    simpa only [gOf, ↓reduceIte, Bool.false_eq_true, c5_1] using hQ
  · refine aj_aload_n (q := 9) (i := 0) dX5_secondOf_8 rfl rfl rfl ?_
    refine aj_getR (q := 12) fl_X5_18 dX5_secondOf_9 rfl lR_17 rfl ?_
    refine aj_iload_n (q := 13) (i := 1) dX5_secondOf_12 rfl rfl rfl ?_
    refine aj_iaload (q := 14) (f := 2000) dX5_secondOf_13 rfl lR_20 rfl (wf_stm hw (by assumption)) ?_
    refine aj_goto (tgt := 18) dX5_secondOf_14 (by decide) ?_
    refine aj_ireturn dX5_secondOf_18 rfl ?_
    simpa only [gOf, ↓reduceIte, Bool.false_eq_true, c5_1] using hQ
theorem sp_X5_thirdOf {d : Nat} {S : Sx} {Q : Option Value → Sx → Prop} {s : Int32} (hw : wfR S) (hQ : Q (some (.int (gOf S 2100 (-1) s))) S) : CC (d + 2) kX5_thirdOf layR [.ref 17, .int s] S Q := by
  refine cc_intro [some _, some _] (by decide) (cc_cat (by rfl)) (Nat.le_of_ble_eq_true rfl) (cc_ls (by rfl)) ?_
  refine aj_aload_n (q := 1) (i := 0) dX5_thirdOf_0 rfl rfl rfl ?_
  refine aj_iload_n (q := 2) (i := 1) dX5_thirdOf_1 rfl rfl rfl ?_
  refine aj_callV (q := 5) (As := [_]) cl_X5_44 mk_X5_has dX5_thirdOf_2 rfl lR_17 rfl rfl (Nat.le_of_ble_eq_true rfl) (sp_X5_has ?_)
  refine aj_ifB_eq (q := 8) (tgt := 17) dX5_thirdOf_5 rfl (by decide) (fun c5_1 => ?_) (fun c5_1 => ?_)
  · refine aj_iconst (q := 18) (v := (-1)) dX5_thirdOf_17 rfl (by decide) ?_
    refine aj_ireturn dX5_thirdOf_18 rfl ?_
    simpa only [gOf, ↓reduceIte, Bool.false_eq_true, c5_1] using hQ
  · refine aj_aload_n (q := 9) (i := 0) dX5_thirdOf_8 rfl rfl rfl ?_
    refine aj_getR (q := 12) fl_X5_21 dX5_thirdOf_9 rfl lR_17 rfl ?_
    refine aj_iload_n (q := 13) (i := 1) dX5_thirdOf_12 rfl rfl rfl ?_
    refine aj_iaload (q := 14) (f := 2100) dX5_thirdOf_13 rfl lR_21 rfl (wf_stm hw (by assumption)) ?_
    refine aj_goto (tgt := 18) dX5_thirdOf_14 (by decide) ?_
    refine aj_ireturn dX5_thirdOf_18 rfl ?_
    simpa only [gOf, ↓reduceIte, Bool.false_eq_true, c5_1] using hQ
theorem sp_X5_heightOf {d : Nat} {S : Sx} {Q : Option Value → Sx → Prop} {s : Int32} (hw : wfR S) (hQ : Q (some (.int (gOf S 2200 (0) s))) S) : CC (d + 2) kX5_heightOf layR [.ref 17, .int s] S Q := by
  refine cc_intro [some _, some _] (by decide) (cc_cat (by rfl)) (Nat.le_of_ble_eq_true rfl) (cc_ls (by rfl)) ?_
  refine aj_aload_n (q := 1) (i := 0) dX5_heightOf_0 rfl rfl rfl ?_
  refine aj_iload_n (q := 2) (i := 1) dX5_heightOf_1 rfl rfl rfl ?_
  refine aj_callV (q := 5) (As := [_]) cl_X5_44 mk_X5_has dX5_heightOf_2 rfl lR_17 rfl rfl (Nat.le_of_ble_eq_true rfl) (sp_X5_has ?_)
  refine aj_ifB_eq (q := 8) (tgt := 17) dX5_heightOf_5 rfl (by decide) (fun c5_1 => ?_) (fun c5_1 => ?_)
  · refine aj_iconst (q := 18) (v := 0) dX5_heightOf_17 rfl (by decide) ?_
    refine aj_ireturn dX5_heightOf_18 rfl ?_
    simpa only [gOf, ↓reduceIte, Bool.false_eq_true, c5_1] using hQ
  · refine aj_aload_n (q := 9) (i := 0) dX5_heightOf_8 rfl rfl rfl ?_
    refine aj_getR (q := 12) fl_X5_24 dX5_heightOf_9 rfl lR_17 rfl ?_
    refine aj_iload_n (q := 13) (i := 1) dX5_heightOf_12 rfl rfl rfl ?_
    refine aj_iaload (q := 14) (f := 2200) dX5_heightOf_13 rfl lR_22 rfl (wf_stm hw (by assumption)) ?_
    refine aj_goto (tgt := 18) dX5_heightOf_14 (by decide) ?_
    refine aj_ireturn dX5_heightOf_18 rfl ?_
    simpa only [gOf, ↓reduceIte, Bool.false_eq_true, c5_1] using hQ
theorem sp_X5_bodyOf {d : Nat} {S : Sx} {Q : Option Value → Sx → Prop} {m : Int32} (hQ : Q (some (.int (gBody S m))) S) : CC (d + 1) kX5_bodyOf layR [.ref 17, .int m] S Q := by
  refine cc_intro [some _, some _] (by decide) (cc_cat (by rfl)) (Nat.le_of_ble_eq_true rfl) (cc_ls (by rfl)) ?_
  refine aj_iload_n (q := 1) (i := 1) dX5_bodyOf_0 rfl rfl rfl ?_
  refine aj_bipush (q := 3) (v := 8) dX5_bodyOf_1 rfl (by decide) ?_
  refine aj_callS (q := 6) (As := [_, _]) cl_X5_40 mk_X9_isBelow dX5_bodyOf_3 rfl rfl (Nat.le_of_ble_eq_true rfl) (sp_isBelow ?_)
  refine aj_ifB_eq (q := 9) (tgt := 18) dX5_bodyOf_6 rfl (by decide) (fun c6_1 => ?_) (fun c6_1 => ?_)
  · refine aj_iconst (q := 19) (v := (-1)) dX5_bodyOf_18 rfl (by decide) ?_
    refine aj_ireturn dX5_bodyOf_19 rfl ?_
    simpa only [gBody, ↓reduceIte, Bool.false_eq_true, c6_1] using hQ
  · refine aj_aload_n (q := 10) (i := 0) dX5_bodyOf_9 rfl rfl rfl ?_
    refine aj_getR (q := 13) fl_X5_27 dX5_bodyOf_10 rfl lR_17 rfl ?_
    refine aj_iload_n (q := 14) (i := 1) dX5_bodyOf_13 rfl rfl rfl ?_
    refine aj_iaload (q := 15) (f := 2300) dX5_bodyOf_14 rfl lR_23 rfl (vin (m := 8) (by decide) (by assumption)) ?_
    refine aj_goto (tgt := 19) dX5_bodyOf_15 (by decide) ?_
    refine aj_ireturn dX5_bodyOf_19 rfl ?_
    simpa only [gBody, ↓reduceIte, Bool.false_eq_true, c6_1] using hQ
theorem sp_X5_setBody {d : Nat} {S : Sx} {Q : Option Value → Sx → Prop} {m s : Int32} (hw : wfR S) (hQ : wfR (gSetBody S m s) → Q none (gSetBody S m s)) : CC (d + 1) kX5_setBody layR [.ref 17, .int m, .int s] S Q := by
  refine cc_intro [some _, some _, some _] (by decide) (cc_cat (by rfl)) (Nat.le_of_ble_eq_true rfl) (cc_ls (by rfl)) ?_
  refine aj_iload_n (q := 1) (i := 1) dX5_setBody_0 rfl rfl rfl ?_
  refine aj_bipush (q := 3) (v := 8) dX5_setBody_1 rfl (by decide) ?_
  refine aj_callS (q := 6) (As := [_, _]) cl_X5_40 mk_X9_isBelow dX5_setBody_3 rfl rfl (Nat.le_of_ble_eq_true rfl) (sp_isBelow ?_)
  refine aj_ifB_eq (q := 9) (tgt := 16) dX5_setBody_6 rfl (by decide) (fun c6_1 => ?_) (fun c6_1 => ?_)
  · refine aj_return dX5_setBody_16 rfl ?_
    have hq := hQ (wf_gSetBody hw)
    simpa only [gSetBody, ↓reduceIte, sw_eq, sw_ne, ne_eq, Nat.reduceEqDiff, not_false_eq_true, Bool.false_eq_true, c6_1] using hq
  · refine aj_aload_n (q := 10) (i := 0) dX5_setBody_9 rfl rfl rfl ?_
    refine aj_getR (q := 13) fl_X5_27 dX5_setBody_10 rfl lR_17 rfl ?_
    refine aj_iload_n (q := 14) (i := 1) dX5_setBody_13 rfl rfl rfl ?_
    refine aj_iload_n (q := 15) (i := 2) dX5_setBody_14 rfl rfl rfl ?_
    refine aj_iastore (q := 16) (f := 2300) okR dX5_setBody_15 rfl lR_23 rfl (vin (m := 8) (by decide) (by assumption)) ?_
    refine aj_return dX5_setBody_16 rfl ?_
    have hq := hQ (wf_gSetBody hw)
    simpa only [gSetBody, ↓reduceIte, sw_eq, sw_ne, ne_eq, Nat.reduceEqDiff, not_false_eq_true, Bool.false_eq_true, c6_1] using hq
theorem sp_X5_isVariable {d : Nat} {S : Sx} {Q : Option Value → Sx → Prop} {x : Int32} (hQ : Q (some (.int (bi (inb x 8)))) S) : CC (d + 1) kX5_isVariable layR [.int x] S Q := by
  refine cc_intro [some _] (by decide) (cc_cat (by rfl)) (Nat.le_of_ble_eq_true rfl) (cc_ls (by rfl)) ?_
  refine aj_iload_n (q := 1) (i := 0) dX5_isVariable_0 rfl rfl rfl ?_
  refine aj_bipush (q := 3) (v := 8) dX5_isVariable_1 rfl (by decide) ?_
  refine aj_callS (q := 6) (As := [_, _]) cl_X5_40 mk_X9_isBelow dX5_isVariable_3 rfl rfl (Nat.le_of_ble_eq_true rfl) (sp_isBelow ?_)
  refine aj_zreturn dX5_isVariable_6 rfl (bi_nar _) ?_
  exact hQ
theorem sp_X5_isRow {d : Nat} {S : Sx} {Q : Option Value → Sx → Prop} {x : Int32} (hQ : Q (some (.int (bi (inb x 4)))) S) : CC (d + 1) kX5_isRow layR [.int x] S Q := by
  refine cc_intro [some _] (by decide) (cc_cat (by rfl)) (Nat.le_of_ble_eq_true rfl) (cc_ls (by rfl)) ?_
  refine aj_iload_n (q := 1) (i := 0) dX5_isRow_0 rfl rfl rfl ?_
  refine aj_iconst (q := 2) (v := 4) dX5_isRow_1 rfl (by decide) ?_
  refine aj_callS (q := 5) (As := [_, _]) cl_X5_40 mk_X9_isBelow dX5_isRow_2 rfl rfl (Nat.le_of_ble_eq_true rfl) (sp_isBelow ?_)
  refine aj_zreturn dX5_isRow_5 rfl (bi_nar _) ?_
  exact hQ
end
section
theorem aj_putIw {d : Nat} {k : MK} {lay : Lay} {pc q : Nat} {ls : AL} {st : List Value} {S : Sx} {Q : Option Value → Sx → Prop} {idx b ci j f : Nat} {sl : List Slt} {v : Int32} (hw : wfR S) (hf0 : wfFree f = true) (hok : okL lay = true) (F : FP k.1.cls idx ci j .int) (hd : decode k.2.1 pc = .ok (.putfield idx, 3)) (hq : pc + 3 = q) (hlay : lay[b]? = some (.inr (ci, sl))) (hj : sl[j]? = some none) (hf : 100 * b + j = f) (kk : wfR (sw S f 0 v) → AJ d k lay q ls st (sw S f 0 v) Q) : AJ d k lay pc ls (.int v :: .ref b :: st) S Q := aj_putI hok F hd hq hlay hj hf (kk (hw.sw hf0))
/-! Run: what its methods do to the store -/
def rRaise (S : Sx) (k n : Int32) : Sx := sw (sw (sw S 8 0 2) 9 0 k) 10 0 n
def rEnd (S : Sx) (h : Int32) : Sx := fClose (sw S 8 0 h)
def rDoPart (S : Sx) (g p : Int32) : Sx := fOpen (fSetStage S g) p
def rEnter (S : Sx) (b : Int32) : Sx := fOpen (sw (sw S 6 0 (S 6 0 + 1)) 7 0 (imax (S 7 0) (S 6 0 + 1))) b
def rLoopOrEnd (S : Sx) (x p : Int32) : Sx := if mRead S x = 0 then fClose S else rDoPart S 1 p
def rCall (S : Sx) (m : Int32) : Sx := if S 6 0 < 8 then (if gBody S m = -1 then fClose (rRaise S 1 0) else (if pOk S 1 2 then rEnter (fSetStage (pPay S 1 2) 1) (gBody S m) else rEnd (pPay S 1 2) 3)) else fClose (rRaise S 6 0)
def rMakeRow (S : Sx) (r n : Int32) : Sx := if pOk S 4 (mkPrice n) then (if 0 ≤ n then mMake (pPay S 4 (mkPrice n)) r n else rRaise (pPay S 4 (mkPrice n)) 3 0) else sw (pPay S 4 (mkPrice n)) 8 0 3
def rMeasure (S : Sx) (x r : Int32) : Sx := if mLen S r = -1 then rRaise S 1 0 else mWrite S x (mLen S r)
def rReachB (S : Sx) (r i : Int32) : Bool := if mLen S r = -1 then false else inb i (mLen S r)
def rReach (S : Sx) (r i : Int32) : Sx := if mLen S r = -1 then rRaise S 1 0 else (if inb i (mLen S r) then S else rRaise S 2 0)
def rDivide (S : Sx) (t x l r : Int32) : Sx := if r = 0 then rRaise S 4 0 else (if t = 4 then mWrite S x (l / r) else mWrite S x (l - l / r * r))
def rCalc (S : Sx) (t a b c : Int32) : Sx := if t = 0 then mWrite S a b else if t = 1 then mWrite S a (mRead S b + mRead S c) else if t = 2 then mWrite S a (mRead S b - mRead S c) else if t = 3 then mWrite S a (mRead S b * mRead S c) else rDivide S t a (mRead S b) (mRead S c)
def rRow (S : Sx) (t a b c : Int32) : Sx := if t = 6 then rMakeRow S a (mRead S b) else if t = 7 then (if rReachB S b (mRead S c) then mWrite (rReach S b (mRead S c)) a (mLoad (rReach S b (mRead S c)) b (mRead (rReach S b (mRead S c)) c)) else rReach S b (mRead S c)) else if t = 8 then (if rReachB S a (mRead S b) then mStore (rReach S a (mRead S b)) a (mRead (rReach S a (mRead S b)) b) (mRead (rReach S a (mRead S b)) c) else rReach S a (mRead S b)) else if t = 9 then rMeasure S a b else if t = 10 then mForget S a else mShare S a b
def rAtOnce (S : Sx) (t a b c : Int32) : Sx := if (5 : Int32) < t then (if (11 : Int32) < t then (if t = 16 then fClose (sw (sw (sw S 8 0 0) 105 0 (mRead (sw S 8 0 0) a)) 8 0 1) else if t = 17 then fClose (rRaise (sw S 8 0 0) 5 (mRead (sw S 8 0 0) a)) else if t = 21 then fClose (mWrite (sw S 8 0 0) a (S 105 0)) else fClose (sw S 8 0 0)) else fClose (rRow (sw S 8 0 0) t a b c)) else fClose (rCalc (sw S 8 0 0) t a b c)
def rBegin (S : Sx) (s : Int32) : Sx :=
  if gOf S 1800 (-1) s = 12 then rDoPart S 1 (gOf S 1900 (-1) s)
  else if gOf S 1800 (-1) s = 13 then (if mRead S (gOf S 1900 (-1) s) = 0 then rDoPart S 1 (gOf S 2100 (-1) s) else rDoPart S 1 (gOf S 2000 (-1) s))
  else if gOf S 1800 (-1) s = 14 then rLoopOrEnd (sw S 8 0 0) (gOf S 1900 (-1) s) (gOf S 2000 (-1) s)
  else if gOf S 1800 (-1) s = 15 then rCall S (gOf S 1900 (-1) s)
  else if gOf S 1800 (-1) s = 18 then rDoPart S 1 (gOf S 1900 (-1) s)
  else if gOf S 1800 (-1) s = 19 then rDoPart S 1 (gOf S 1900 (-1) s)
  else if gOf S 1800 (-1) s = 20 then rDoPart (lTake S (gOf S 1900 (-1) s)) 1 (gOf S 2000 (-1) s)
  else rAtOnce S (gOf S 1800 (-1) s) (gOf S 1900 (-1) s) (gOf S 2000 (-1) s) (gOf S 2100 (-1) s)
def rBoth (S : Sx) (s : Int32) : Sx := if fGet S 1300 0 = 1 then (if S 8 0 = 0 then rDoPart S 2 (gOf S 2000 (-1) s) else fClose S) else fClose S
def rLoop (S : Sx) (s : Int32) : Sx := if S 8 0 = 0 then (if pOk S 0 1 then rLoopOrEnd (pPay S 0 1) (gOf (pPay S 0 1) 1900 (-1) s) (gOf (pPay S 0 1) 2000 (-1) s) else rEnd (pPay S 0 1) 3) else fClose S
def rTryN (S : Sx) (s : Int32) : Sx := pNote (pPay S 2 10) s
def rTryM (S : Sx) (s : Int32) : Sx := if (rTryN S s) 9 0 = 5 then mWrite (rTryN S s) 7 (100 + (rTryN S s) 10 0) else mWrite (rTryN S s) 7 ((rTryN S s) 9 0)
def rTryX (S : Sx) (s : Int32) : Sx := if pOk S 2 10 then rDoPart (rTryM S s) 2 (gOf (rTryM S s) 2100 (-1) s) else rEnd (pPay S 2 10) 3
def rTry (S : Sx) (s : Int32) : Sx := if S 8 0 = 2 then (if (gOf S 2000 (-1) s >>> (S 9 0 &&& 31)) &&& 1 = 1 then (if fGet S 1300 0 = 1 then rTryX S s else fClose S) else fClose S) else fClose S
/-- what a last part is paid with: behind the first try -/
def lpA (S : Sx) : Sx := if S 8 0 = 3 then S else pPay S 3 10
def lpOk (S : Sx) : Bool := if S 8 0 = 3 then false else pOk S 3 10
def lpB (S : Sx) : Sx := sw (lpA S) 607 0 1
def lpG (S : Sx) : Int32 := if lpOk S then 2 else if pBy (lpA S) then -1 else if pOk (lpB S) 3 10 then 3 else -1
def lpS (S : Sx) : Sx := if lpOk S then lpA S else if pBy (lpA S) then lpA S else if pOk (lpB S) 3 10 then pPay (lpB S) 3 10 else sw (pPay (lpB S) 3 10) 607 0 0
def rLastK (S : Sx) (s : Int32) : Sx := pNote (fKeep (lpS S) ((lpS S) 8 0) ((lpS S) 9 0) ((lpS S) 10 0)) s
def rBeginLast (S : Sx) (s : Int32) : Sx := if lpG S = -1 then rEnd (lpS S) 3 else rDoPart (rLastK S s) (lpG S) (gOf (rLastK S s) 2000 (-1) s)
def rLastE1 (S : Sx) : Sx := sw S 8 0 (fGet S 1400 0)
def rLastE2 (S : Sx) : Sx := sw (rLastE1 S) 9 0 (fGet (rLastE1 S) 1500 0)
def rLastE3 (S : Sx) : Sx := sw (rLastE2 S) 10 0 (fGet (rLastE2 S) 1600 0)
def rEndLast (S : Sx) : Sx := if fGet S 1300 0 = 3 then fClose (sw (sw S 607 0 0) 8 0 3) else if S 8 0 = 0 then fClose (rLastE3 S) else fClose S
def rGoOn (S : Sx) (s : Int32) : Sx :=
  if gOf S 1800 (-1) s = 12 then rBoth S s
  else if gOf S 1800 (-1) s = 14 then rLoop S s
  else if gOf S 1800 (-1) s = 15 then (if S 8 0 = 1 then rEnd (sw S 6 0 (S 6 0 - 1)) 0 else rEnd (sw S 6 0 (S 6 0 - 1)) (S 8 0))
  else if gOf S 1800 (-1) s = 18 then rTry S s
  else if gOf S 1800 (-1) s = 19 then (if fGet S 1300 0 = 1 then rBeginLast S s else rEndLast S)
  else if gOf S 1800 (-1) s = 20 then fClose (lFree S (gOf S 1900 (-1) s))
  else fClose S
def rClear (S : Sx) (x b : Int32) : Sx := sw (sw (sw (sw (sw (fClear (lClear (pFill (mWrite (mClear S) 0 x) b))) 6 0 0) 7 0 0) 8 0 0) 9 0 0) 10 0 0
/-- one turn of the run's loop -/
def rStep (S : Sx) : Sx := if fGet S 1300 0 = 0 then rBegin S (fGet S 1200 (-1)) else rGoOn S (fGet S 1200 (-1))
set_option maxRecDepth 2000 in
theorem sp_X7_raise {d : Nat} {S : Sx} {Q : Option Value → Sx → Prop} {k n : Int32} (hw : wfR S) (hQ : wfR (rRaise S k n) → Q none (rRaise S k n)) : CC d kX7_raise layR [.ref 0, .int k, .int n] S Q := by
  refine cc_intro [some _, some _, some _] (by decide) (cc_cat (by rfl)) (Nat.le_of_ble_eq_true rfl) (cc_ls (by rfl)) ?_
  refine aj_aload_n (q := 1) (i := 0) dX7_raise_0 rfl rfl rfl ?_
  refine aj_iconst (q := 2) (v := 2) dX7_raise_1 rfl (by decide) ?_
  refine aj_putIw (q := 5) (f := 8) hw rfl okR fp_X7_61 dX7_raise_2 rfl lR_0 rfl rfl (fun hw1 => ?_)
  refine aj_aload_n (q := 6) (i := 0) dX7_raise_5 rfl rfl rfl ?_
  refine aj_iload_n (q := 7) (i := 1) dX7_raise_6 rfl rfl rfl ?_
  refine aj_putIw (q := 10) (f := 9) hw1 rfl okR fp_X7_82 dX7_raise_7 rfl lR_0 rfl rfl (fun hw2 => ?_)
  refine aj_aload_n (q := 11) (i := 0) dX7_raise_10 rfl rfl rfl ?_
  refine aj_iload_n (q := 12) (i := 2) dX7_raise_11 rfl rfl rfl ?_
  refine aj_putIw (q := 15) (f := 10) hw2 rfl okR fp_X7_85 dX7_raise_12 rfl lR_0 rfl rfl (fun hw3 => ?_)
  refine aj_return dX7_raise_15 rfl ?_
  skip
  first | contradiction | with_reducible exact hQ hw3 | (simp (decide := true) only [rRaise, ↓reduceIte, sw_eq, sw_ne, ne_eq, Nat.reduceEqDiff, not_false_eq_true, Bool.false_eq_true, bi_t, bi_f, ] at hQ; with_reducible exact hQ hw3) | (simp (decide := true) only [rRaise, ↓reduceIte, sw_eq, sw_ne, ne_eq, Nat.reduceEqDiff, not_false_eq_true, Bool.false_eq_true, bi_t, bi_f, ] at hQ hw3 ⊢; with_reducible exact hQ hw3) | exact absurd (by assumption) (by decide : ¬ (1 : Int32) = 0)
set_option maxRecDepth 2000 in
theorem sp_X7_end {d : Nat} {S : Sx} {Q : Option Value → Sx → Prop} {h : Int32} (hw : wfR S) (hQ : wfR (rEnd S h) → Q none (rEnd S h)) : CC (d + 1) kX7_end layR [.ref 0, .int h] S Q := by
  refine cc_intro [some _, some _] (by decide) (cc_cat (by rfl)) (Nat.le_of_ble_eq_true rfl) (cc_ls (by rfl)) ?_
  refine aj_aload_n (q := 1) (i := 0) dX7_end_0 rfl rfl rfl ?_
  refine aj_iload_n (q := 2) (i := 1) dX7_end_1 rfl rfl rfl ?_
  refine aj_putIw (q := 5) (f := 8) hw rfl okR fp_X7_61 dX7_end_2 rfl lR_0 rfl rfl (fun hw1 => ?_)
  refine aj_aload_n (q := 6) (i := 0) dX7_end_5 rfl rfl rfl ?_
  refine aj_getR (q := 9) fl_X7_35 dX7_end_6 rfl lR_0 rfl ?_
  refine aj_callV (q := 12) (As := []) cl_X7_181 mk_X0_close dX7_end_9 rfl lR_11 rfl rfl (Nat.le_of_ble_eq_true rfl) (sp_X0_close hw1 (fun hw2 => ?_))
  refine aj_return dX7_end_12 rfl ?_
  skip
  first | contradiction | with_reducible exact hQ hw2 | (simp (decide := true) only [rEnd, ↓reduceIte, sw_eq, sw_ne, ne_eq, Nat.reduceEqDiff, not_false_eq_true, Bool.false_eq_true, bi_t, bi_f, ] at hQ; with_reducible exact hQ hw2) | (simp (decide := true) only [rEnd, ↓reduceIte, sw_eq, sw_ne, ne_eq, Nat.reduceEqDiff, not_false_eq_true, Bool.false_eq_true, bi_t, bi_f, ] at hQ hw2 ⊢; with_reducible exact hQ hw2) | exact absurd (by assumption) (by decide : ¬ (1 : Int32) = 0)
set_option maxRecDepth 2000 in
theorem sp_X7_doPart {d : Nat} {S : Sx} {Q : Option Value → Sx → Prop} {g p : Int32} (hw : wfR S) (hQ : wfR (rDoPart S g p) → Q none (rDoPart S g p)) : CC (d + 1) kX7_doPart layR [.ref 0, .int g, .int p] S Q := by
  refine cc_intro [some _, some _, some _] (by decide) (cc_cat (by rfl)) (Nat.le_of_ble_eq_true rfl) (cc_ls (by rfl)) ?_
  refine aj_aload_n (q := 1) (i := 0) dX7_doPart_0 rfl rfl rfl ?_
  refine aj_getR (q := 4) fl_X7_35 dX7_doPart_1 rfl lR_0 rfl ?_
  refine aj_iload_n (q := 5) (i := 1) dX7_doPart_4 rfl rfl rfl ?_
  refine aj_callV (q := 8) (As := [_]) cl_X7_218 mk_X0_setStage dX7_doPart_5 rfl lR_11 rfl rfl (Nat.le_of_ble_eq_true rfl) (sp_X0_setStage hw (fun hw1 => ?_))
  refine aj_aload_n (q := 9) (i := 0) dX7_doPart_8 rfl rfl rfl ?_
  refine aj_getR (q := 12) fl_X7_35 dX7_doPart_9 rfl lR_0 rfl ?_
  refine aj_iload_n (q := 13) (i := 2) dX7_doPart_12 rfl rfl rfl ?_
  refine aj_callV (q := 16) (As := [_]) cl_X7_227 mk_X0_open dX7_doPart_13 rfl lR_11 rfl rfl (Nat.le_of_ble_eq_true rfl) (sp_X0_open hw1 (fun hw2 => ?_))
  refine aj_return dX7_doPart_16 rfl ?_
  skip
  first | contradiction | with_reducible exact hQ hw2 | (simp (decide := true) only [rDoPart, ↓reduceIte, sw_eq, sw_ne, ne_eq, Nat.reduceEqDiff, not_false_eq_true, Bool.false_eq_true, bi_t, bi_f, ] at hQ; with_reducible exact hQ hw2) | (simp (decide := true) only [rDoPart, ↓reduceIte, sw_eq, sw_ne, ne_eq, Nat.reduceEqDiff, not_false_eq_true, Bool.false_eq_true, bi_t, bi_f, ] at hQ hw2 ⊢; with_reducible exact hQ hw2) | exact absurd (by assumption) (by decide : ¬ (1 : Int32) = 0)
set_option maxRecDepth 2000 in
theorem sp_X7_enter {d : Nat} {S : Sx} {Q : Option Value → Sx → Prop} {b : Int32} (hw : wfR S) (hQ : wfR (rEnter S b) → Q none (rEnter S b)) : CC (d + 1) kX7_enter layR [.ref 0, .int b] S Q := by
  refine cc_intro [some _, some _] (by decide) (cc_cat (by rfl)) (Nat.le_of_ble_eq_true rfl) (cc_ls (by rfl)) ?_
  refine aj_aload_n (q := 1) (i := 0) dX7_enter_0 rfl rfl rfl ?_
  refine aj_dup (q := 2) dX7_enter_1 rfl rfl ?_
  refine aj_getI (q := 5) (f := 6) fl_X7_124 dX7_enter_2 rfl lR_0 rfl rfl ?_
  try simp only [sw_eq, sw_ne, ne_eq, Nat.reduceEqDiff, not_false_eq_true]
  refine aj_iconst (q := 6) (v := 1) dX7_enter_5 rfl (by decide) ?_
  refine aj_iadd (q := 7) dX7_enter_6 rfl ?_
  refine aj_putIw (q := 10) (f := 6) hw rfl okR fp_X7_124 dX7_enter_7 rfl lR_0 rfl rfl (fun hw1 => ?_)
  refine aj_aload_n (q := 11) (i := 0) dX7_enter_10 rfl rfl rfl ?_
  refine aj_aload_n (q := 12) (i := 0) dX7_enter_11 rfl rfl rfl ?_
  refine aj_getI (q := 15) (f := 7) fl_X7_97 dX7_enter_12 rfl lR_0 rfl rfl ?_
  try simp only [sw_eq, sw_ne, ne_eq, Nat.reduceEqDiff, not_false_eq_true]
  refine aj_aload_n (q := 16) (i := 0) dX7_enter_15 rfl rfl rfl ?_
  refine aj_getI (q := 19) (f := 6) fl_X7_124 dX7_enter_16 rfl lR_0 rfl rfl ?_
  try simp only [sw_eq, sw_ne, ne_eq, Nat.reduceEqDiff, not_false_eq_true]
  refine aj_max (q := 22) cm_X7_221 dX7_enter_19 rfl (Nat.le_of_ble_eq_true rfl) ?_
  refine aj_putIw (q := 25) (f := 7) hw1 rfl okR fp_X7_97 dX7_enter_22 rfl lR_0 rfl rfl (fun hw2 => ?_)
  refine aj_aload_n (q := 26) (i := 0) dX7_enter_25 rfl rfl rfl ?_
  refine aj_getR (q := 29) fl_X7_35 dX7_enter_26 rfl lR_0 rfl ?_
  refine aj_iload_n (q := 30) (i := 1) dX7_enter_29 rfl rfl rfl ?_
  refine aj_callV (q := 33) (As := [_]) cl_X7_227 mk_X0_open dX7_enter_30 rfl lR_11 rfl rfl (Nat.le_of_ble_eq_true rfl) (sp_X0_open hw2 (fun hw3 => ?_))
  refine aj_return dX7_enter_33 rfl ?_
  skip
  first | contradiction | with_reducible exact hQ hw3 | (simp (decide := true) only [rEnter, ↓reduceIte, sw_eq, sw_ne, ne_eq, Nat.reduceEqDiff, not_false_eq_true, Bool.false_eq_true, bi_t, bi_f, ] at hQ; with_reducible exact hQ hw3) | (simp (decide := true) only [rEnter, ↓reduceIte, sw_eq, sw_ne, ne_eq, Nat.reduceEqDiff, not_false_eq_true, Bool.false_eq_true, bi_t, bi_f, ] at hQ hw3 ⊢; with_reducible exact hQ hw3) | exact absurd (by assumption) (by decide : ¬ (1 : Int32) = 0)
set_option maxRecDepth 2000 in
theorem sp_X7_loopOrEnd {d : Nat} {S : Sx} {Q : Option Value → Sx → Prop} {x p : Int32} (hw : wfR S) (hQ : wfR (rLoopOrEnd S x p) → Q none (rLoopOrEnd S x p)) : CC (d + 2) kX7_loopOrEnd layR [.ref 0, .int x, .int p] S Q := by
  refine cc_intro [some _, some _, some _] (by decide) (cc_cat (by rfl)) (Nat.le_of_ble_eq_true rfl) (cc_ls (by rfl)) ?_
  refine aj_aload_n (q := 1) (i := 0) dX7_loopOrEnd_0 rfl rfl rfl ?_
  refine aj_getR (q := 4) fl_X7_12 dX7_loopOrEnd_1 rfl lR_0 rfl ?_
  refine aj_iload_n (q := 5) (i := 1) dX7_loopOrEnd_4 rfl rfl rfl ?_
  refine aj_callV (q := 8) (As := [_]) cl_X7_144 mk_X4_read dX7_loopOrEnd_5 rfl lR_1 rfl rfl (Nat.le_of_ble_eq_true rfl) (sp_X4_read ?_)
  refine aj_if_eq (q := 11) (tgt := 20) dX7_loopOrEnd_8 rfl (by decide) (fun c8_1 => ?_) (fun c8_1 => ?_)
  · refine aj_aload_n (q := 21) (i := 0) dX7_loopOrEnd_20 rfl rfl rfl ?_
    refine aj_getR (q := 24) fl_X7_35 dX7_loopOrEnd_21 rfl lR_0 rfl ?_
    refine aj_callV (q := 27) (As := []) cl_X7_181 mk_X0_close dX7_loopOrEnd_24 rfl lR_11 rfl rfl (Nat.le_of_ble_eq_true rfl) (sp_X0_close hw (fun hw2 => ?_))
    refine aj_return dX7_loopOrEnd_27 rfl ?_
    skip
    first | contradiction | with_reducible exact hQ hw2 | (simp (decide := true) only [rLoopOrEnd, ↓reduceIte, sw_eq, sw_ne, ne_eq, Nat.reduceEqDiff, not_false_eq_true, Bool.false_eq_true, bi_t, bi_f, c8_1] at hQ; with_reducible exact hQ hw2) | (simp (decide := true) only [rLoopOrEnd, ↓reduceIte, sw_eq, sw_ne, ne_eq, Nat.reduceEqDiff, not_false_eq_true, Bool.false_eq_true, bi_t, bi_f, c8_1] at hQ hw2 ⊢; with_reducible exact hQ hw2) | exact absurd (by assumption) (by decide : ¬ (1 : Int32) = 0)
  · refine aj_aload_n (q := 12) (i := 0) dX7_loopOrEnd_11 rfl rfl rfl ?_
    refine aj_iconst (q := 13) (v := 1) dX7_loopOrEnd_12 rfl (by decide) ?_
    refine aj_iload_n (q := 14) (i := 2) dX7_loopOrEnd_13 rfl rfl rfl ?_
    refine aj_callV (q := 17) (As := [_, _]) cl_X7_141 mk_X7_doPart dX7_loopOrEnd_14 rfl lR_0 rfl rfl (Nat.le_of_ble_eq_true rfl) (sp_X7_doPart hw (fun hw3 => ?_))
    refine aj_goto (tgt := 27) dX7_loopOrEnd_17 (by decide) ?_
    refine aj_return dX7_loopOrEnd_27 rfl ?_
    skip
    first | contradiction | with_reducible exact hQ hw3 | (simp (decide := true) only [rLoopOrEnd, ↓reduceIte, sw_eq, sw_ne, ne_eq, Nat.reduceEqDiff, not_false_eq_true, Bool.false_eq_true, bi_t, bi_f, c8_1] at hQ; with_reducible exact hQ hw3) | (simp (decide := true) only [rLoopOrEnd, ↓reduceIte, sw_eq, sw_ne, ne_eq, Nat.reduceEqDiff, not_false_eq_true, Bool.false_eq_true, bi_t, bi_f, c8_1] at hQ hw3 ⊢; with_reducible exact hQ hw3) | exact absurd (by assumption) (by decide : ¬ (1 : Int32) = 0)
set_option maxRecDepth 2000 in
theorem sp_X7_call {d : Nat} {S : Sx} {Q : Option Value → Sx → Prop} {m : Int32} (hw : wfR S) (hQ : wfR (rCall S m) → Q none (rCall S m)) : CC (d + 2) kX7_call layR [.ref 0, .int m] S Q := by
  refine cc_intro [some _, some _, none] (by decide) (cc_cat (by rfl)) (Nat.le_of_ble_eq_true rfl) (cc_ls (by rfl)) ?_
  refine aj_aload_n (q := 1) (i := 0) dX7_call_0 rfl rfl rfl ?_
  refine aj_getR (q := 4) fl_X7_43 dX7_call_1 rfl lR_0 rfl ?_
  refine aj_iload_n (q := 5) (i := 1) dX7_call_4 rfl rfl rfl ?_
  refine aj_callV (q := 8) (As := [_]) cl_X7_212 mk_X5_bodyOf dX7_call_5 rfl lR_17 rfl rfl (Nat.le_of_ble_eq_true rfl) (sp_X5_bodyOf ?_)
  refine aj_istore_n (q := 9) (i := 2) (ls' := [_, _, _]) dX7_call_8 rfl rfl (by decide) rfl ?_
  refine aj_aload_n (q := 10) (i := 0) dX7_call_9 rfl rfl rfl ?_
  refine aj_getI (q := 13) (f := 6) fl_X7_124 dX7_call_10 rfl lR_0 rfl rfl ?_
  try simp only [sw_eq, sw_ne, ne_eq, Nat.reduceEqDiff, not_false_eq_true]
  refine aj_bipush (q := 15) (v := 8) dX7_call_13 rfl (by decide) ?_
  refine aj_icmp_lt (q := 18) (tgt := 35) dX7_call_15 rfl (by decide) (fun c15_1 => ?_) (fun c15_1 => ?_)
  · refine aj_iload_n (q := 36) (i := 2) dX7_call_35 rfl rfl rfl ?_
    refine aj_iconst (q := 37) (v := (-1)) dX7_call_36 rfl (by decide) ?_
    refine aj_icmp_ne (q := 40) (tgt := 56) dX7_call_37 rfl (by decide) (fun c37_2 => ?_) (fun c37_2 => ?_)
    · refine aj_aload_n (q := 57) (i := 0) dX7_call_56 rfl rfl rfl ?_
      refine aj_getR (q := 60) fl_X7_21 dX7_call_57 rfl lR_0 rfl ?_
      refine aj_iconst (q := 61) (v := 1) dX7_call_60 rfl (by decide) ?_
      refine aj_iconst (q := 62) (v := 2) dX7_call_61 rfl (by decide) ?_
      refine aj_callV (q := 65) (As := [_, _]) cl_X7_53 mk_X6_pays dX7_call_62 rfl lR_6 rfl rfl (Nat.le_of_ble_eq_true rfl) (sp_X6_pays hw (fun hw3 => ?_))
      refine aj_ifB_eq (q := 68) (tgt := 84) dX7_call_65 rfl (by decide) (fun c65_4 => ?_) (fun c65_4 => ?_)
      · refine aj_aload_n (q := 85) (i := 0) dX7_call_84 rfl rfl rfl ?_
        refine aj_iconst (q := 86) (v := 3) dX7_call_85 rfl (by decide) ?_
        refine aj_callV (q := 89) (As := [_]) cl_X7_166 mk_X7_end dX7_call_86 rfl lR_0 rfl rfl (Nat.le_of_ble_eq_true rfl) (sp_X7_end hw3 (fun hw5 => ?_))
        refine aj_return dX7_call_89 rfl ?_
        skip
        first | contradiction | with_reducible exact hQ hw5 | (simp (decide := true) only [rCall, ↓reduceIte, sw_eq, sw_ne, ne_eq, Nat.reduceEqDiff, not_false_eq_true, Bool.false_eq_true, bi_t, bi_f, c15_1, c37_2, c65_4] at hQ; with_reducible exact hQ hw5) | (simp (decide := true) only [rCall, ↓reduceIte, sw_eq, sw_ne, ne_eq, Nat.reduceEqDiff, not_false_eq_true, Bool.false_eq_true, bi_t, bi_f, c15_1, c37_2, c65_4] at hQ hw5 ⊢; with_reducible exact hQ hw5) | exact absurd (by assumption) (by decide : ¬ (1 : Int32) = 0)
      · refine aj_aload_n (q := 69) (i := 0) dX7_call_68 rfl rfl rfl ?_
        refine aj_getR (q := 72) fl_X7_35 dX7_call_69 rfl lR_0 rfl ?_
        refine aj_iconst (q := 73) (v := 1) dX7_call_72 rfl (by decide) ?_
        refine aj_callV (q := 76) (As := [_]) cl_X7_218 mk_X0_setStage dX7_call_73 rfl lR_11 rfl rfl (Nat.le_of_ble_eq_true rfl) (sp_X0_setStage hw3 (fun hw6 => ?_))
        refine aj_aload_n (q := 77) (i := 0) dX7_call_76 rfl rfl rfl ?_
        refine aj_iload_n (q := 78) (i := 2) dX7_call_77 rfl rfl rfl ?_
        refine aj_callV (q := 81) (As := [_]) cl_X7_57 mk_X7_enter dX7_call_78 rfl lR_0 rfl rfl (Nat.le_of_ble_eq_true rfl) (sp_X7_enter hw6 (fun hw7 => ?_))
        refine aj_goto (tgt := 89) dX7_call_81 (by decide) ?_
        refine aj_return dX7_call_89 rfl ?_
        skip
        first | contradiction | with_reducible exact hQ hw7 | (simp (decide := true) only [rCall, ↓reduceIte, sw_eq, sw_ne, ne_eq, Nat.reduceEqDiff, not_false_eq_true, Bool.false_eq_true, bi_t, bi_f, c15_1, c37_2, c65_4] at hQ; with_reducible exact hQ hw7) | (simp (decide := true) only [rCall, ↓reduceIte, sw_eq, sw_ne, ne_eq, Nat.reduceEqDiff, not_false_eq_true, Bool.false_eq_true, bi_t, bi_f, c15_1, c37_2, c65_4] at hQ hw7 ⊢; with_reducible exact hQ hw7) | exact absurd (by assumption) (by decide : ¬ (1 : Int32) = 0)
    · refine aj_aload_n (q := 41) (i := 0) dX7_call_40 rfl rfl rfl ?_
      refine aj_iconst (q := 42) (v := 1) dX7_call_41 rfl (by decide) ?_
      refine aj_iconst (q := 43) (v := 0) dX7_call_42 rfl (by decide) ?_
      refine aj_callV (q := 46) (As := [_, _]) cl_X7_215 mk_X7_raise dX7_call_43 rfl lR_0 rfl rfl (Nat.le_of_ble_eq_true rfl) (sp_X7_raise hw (fun hw8 => ?_))
      refine aj_aload_n (q := 47) (i := 0) dX7_call_46 rfl rfl rfl ?_
      refine aj_getR (q := 50) fl_X7_35 dX7_call_47 rfl lR_0 rfl ?_
      refine aj_callV (q := 53) (As := []) cl_X7_181 mk_X0_close dX7_call_50 rfl lR_11 rfl rfl (Nat.le_of_ble_eq_true rfl) (sp_X0_close hw8 (fun hw9 => ?_))
      refine aj_goto (tgt := 89) dX7_call_53 (by decide) ?_
      refine aj_return dX7_call_89 rfl ?_
      skip
      first | contradiction | with_reducible exact hQ hw9 | (simp (decide := true) only [rCall, ↓reduceIte, sw_eq, sw_ne, ne_eq, Nat.reduceEqDiff, not_false_eq_true, Bool.false_eq_true, bi_t, bi_f, c15_1, c37_2] at hQ; with_reducible exact hQ hw9) | (simp (decide := true) only [rCall, ↓reduceIte, sw_eq, sw_ne, ne_eq, Nat.reduceEqDiff, not_false_eq_true, Bool.false_eq_true, bi_t, bi_f, c15_1, c37_2] at hQ hw9 ⊢; with_reducible exact hQ hw9) | exact absurd (by assumption) (by decide : ¬ (1 : Int32) = 0)
  · refine aj_aload_n (q := 19) (i := 0) dX7_call_18 rfl rfl rfl ?_
    refine aj_bipush (q := 21) (v := 6) dX7_call_19 rfl (by decide) ?_
    refine aj_iconst (q := 22) (v := 0) dX7_call_21 rfl (by decide) ?_
    refine aj_callV (q := 25) (As := [_, _]) cl_X7_215 mk_X7_raise dX7_call_22 rfl lR_0 rfl rfl (Nat.le_of_ble_eq_true rfl) (sp_X7_raise hw (fun hw10 => ?_))
    refine aj_aload_n (q := 26) (i := 0) dX7_call_25 rfl rfl rfl ?_
    refine aj_getR (q := 29) fl_X7_35 dX7_call_26 rfl lR_0 rfl ?_
    refine aj_callV (q := 32) (As := []) cl_X7_181 mk_X0_close dX7_call_29 rfl lR_11 rfl rfl (Nat.le_of_ble_eq_true rfl) (sp_X0_close hw10 (fun hw11 => ?_))
    refine aj_goto (tgt := 89) dX7_call_32 (by decide) ?_
    refine aj_return dX7_call_89 rfl ?_
    skip
    first | contradiction | with_reducible exact hQ hw11 | (simp (decide := true) only [rCall, ↓reduceIte, sw_eq, sw_ne, ne_eq, Nat.reduceEqDiff, not_false_eq_true, Bool.false_eq_true, bi_t, bi_f, c15_1] at hQ; with_reducible exact hQ hw11) | (simp (decide := true) only [rCall, ↓reduceIte, sw_eq, sw_ne, ne_eq, Nat.reduceEqDiff, not_false_eq_true, Bool.false_eq_true, bi_t, bi_f, c15_1] at hQ hw11 ⊢; with_reducible exact hQ hw11) | exact absurd (by assumption) (by decide : ¬ (1 : Int32) = 0)
set_option maxRecDepth 2000 in
theorem sp_X7_makeRow {d : Nat} {S : Sx} {Q : Option Value → Sx → Prop} {r n : Int32} (hw : wfR S) (hQ : wfR (rMakeRow S r n) → Q none (rMakeRow S r n)) : CC (d + 2) kX7_makeRow layR [.ref 0, .int r, .int n] S Q := by
  refine cc_intro [some _, some _, some _] (by decide) (cc_cat (by rfl)) (Nat.le_of_ble_eq_true rfl) (cc_ls (by rfl)) ?_
  refine aj_aload_n (q := 1) (i := 0) dX7_makeRow_0 rfl rfl rfl ?_
  refine aj_getR (q := 4) fl_X7_21 dX7_makeRow_1 rfl lR_0 rfl ?_
  refine aj_iconst (q := 5) (v := 4) dX7_makeRow_4 rfl (by decide) ?_
  refine aj_iload_n (q := 6) (i := 2) dX7_makeRow_5 rfl rfl rfl ?_
  refine aj_callS (q := 9) (As := [_]) cl_X7_265 mk_X3_makingPrice dX7_makeRow_6 rfl rfl (Nat.le_of_ble_eq_true rfl) (sp_X3_makingPrice ?_)
  refine aj_callV (q := 12) (As := [_, _]) cl_X7_53 mk_X6_pays dX7_makeRow_9 rfl lR_6 rfl rfl (Nat.le_of_ble_eq_true rfl) (sp_X6_pays hw (fun hw1 => ?_))
  refine aj_ifB_ne (q := 15) (tgt := 23) dX7_makeRow_12 rfl (by decide) (fun c12_2 => ?_) (fun c12_2 => ?_)
  · refine aj_iload_n (q := 24) (i := 2) dX7_makeRow_23 rfl rfl rfl ?_
    refine aj_if_ge (q := 27) (tgt := 36) dX7_makeRow_24 rfl (by decide) (fun c24_3 => ?_) (fun c24_3 => ?_)
    · refine aj_aload_n (q := 37) (i := 0) dX7_makeRow_36 rfl rfl rfl ?_
      refine aj_getR (q := 40) fl_X7_12 dX7_makeRow_37 rfl lR_0 rfl ?_
      refine aj_iload_n (q := 41) (i := 1) dX7_makeRow_40 rfl rfl rfl ?_
      refine aj_iload_n (q := 42) (i := 2) dX7_makeRow_41 rfl rfl rfl ?_
      refine aj_callV (q := 45) (As := [_, _]) cl_X7_268 mk_X4_makeRow dX7_makeRow_42 rfl lR_1 rfl rfl (Nat.le_of_ble_eq_true rfl) (sp_X4_makeRow hw1 (fun hw4 => ?_))
      refine aj_return dX7_makeRow_45 rfl ?_
      skip
      first | contradiction | with_reducible exact hQ hw4 | (simp (decide := true) only [rMakeRow, ↓reduceIte, sw_eq, sw_ne, ne_eq, Nat.reduceEqDiff, not_false_eq_true, Bool.false_eq_true, bi_t, bi_f, c12_2, c24_3] at hQ; with_reducible exact hQ hw4) | (simp (decide := true) only [rMakeRow, ↓reduceIte, sw_eq, sw_ne, ne_eq, Nat.reduceEqDiff, not_false_eq_true, Bool.false_eq_true, bi_t, bi_f, c12_2, c24_3] at hQ hw4 ⊢; with_reducible exact hQ hw4) | exact absurd (by assumption) (by decide : ¬ (1 : Int32) = 0)
    · refine aj_aload_n (q := 28) (i := 0) dX7_makeRow_27 rfl rfl rfl ?_
      refine aj_iconst (q := 29) (v := 3) dX7_makeRow_28 rfl (by decide) ?_
      refine aj_iconst (q := 30) (v := 0) dX7_makeRow_29 rfl (by decide) ?_
      refine aj_callV (q := 33) (As := [_, _]) cl_X7_215 mk_X7_raise dX7_makeRow_30 rfl lR_0 rfl rfl (Nat.le_of_ble_eq_true rfl) (sp_X7_raise hw1 (fun hw5 => ?_))
      refine aj_goto (tgt := 45) dX7_makeRow_33 (by decide) ?_
      refine aj_return dX7_makeRow_45 rfl ?_
      skip
      first | contradiction | with_reducible exact hQ hw5 | (simp (decide := true) only [rMakeRow, ↓reduceIte, sw_eq, sw_ne, ne_eq, Nat.reduceEqDiff, not_false_eq_true, Bool.false_eq_true, bi_t, bi_f, c12_2, c24_3] at hQ; with_reducible exact hQ hw5) | (simp (decide := true) only [rMakeRow, ↓reduceIte, sw_eq, sw_ne, ne_eq, Nat.reduceEqDiff, not_false_eq_true, Bool.false_eq_true, bi_t, bi_f, c12_2, c24_3] at hQ hw5 ⊢; with_reducible exact hQ hw5) | exact absurd (by assumption) (by decide : ¬ (1 : Int32) = 0)
  · refine aj_aload_n (q := 16) (i := 0) dX7_makeRow_15 rfl rfl rfl ?_
    refine aj_iconst (q := 17) (v := 3) dX7_makeRow_16 rfl (by decide) ?_
    refine aj_putIw (q := 20) (f := 8) hw1 rfl okR fp_X7_61 dX7_makeRow_17 rfl lR_0 rfl rfl (fun hw6 => ?_)
    refine aj_goto (tgt := 45) dX7_makeRow_20 (by decide) ?_
    refine aj_return dX7_makeRow_45 rfl ?_
    skip
    first | contradiction | with_reducible exact hQ hw6 | (simp (decide := true) only [rMakeRow, ↓reduceIte, sw_eq, sw_ne, ne_eq, Nat.reduceEqDiff, not_false_eq_true, Bool.false_eq_true, bi_t, bi_f, c12_2] at hQ; with_reducible exact hQ hw6) | (simp (decide := true) only [rMakeRow, ↓reduceIte, sw_eq, sw_ne, ne_eq, Nat.reduceEqDiff, not_false_eq_true, Bool.false_eq_true, bi_t, bi_f, c12_2] at hQ hw6 ⊢; with_reducible exact hQ hw6) | exact absurd (by assumption) (by decide : ¬ (1 : Int32) = 0)
set_option maxRecDepth 2000 in
theorem sp_X7_measureRow {d : Nat} {S : Sx} {Q : Option Value → Sx → Prop} {x r : Int32} (hw : wfR S) (hQ : wfR (rMeasure S x r) → Q none (rMeasure S x r)) : CC (d + 2) kX7_measureRow layR [.ref 0, .int x, .int r] S Q := by
  refine cc_intro [some _, some _, some _, none] (by decide) (cc_cat (by rfl)) (Nat.le_of_ble_eq_true rfl) (cc_ls (by rfl)) ?_
  refine aj_aload_n (q := 1) (i := 0) dX7_measureRow_0 rfl rfl rfl ?_
  refine aj_getR (q := 4) fl_X7_12 dX7_measureRow_1 rfl lR_0 rfl ?_
  refine aj_iload_n (q := 5) (i := 2) dX7_measureRow_4 rfl rfl rfl ?_
  refine aj_callV (q := 8) (As := [_]) cl_X7_269 mk_X4_lengthOf dX7_measureRow_5 rfl lR_1 rfl rfl (Nat.le_of_ble_eq_true rfl) (sp_X4_lengthOf ?_)
  refine aj_istore_n (q := 9) (i := 3) (ls' := [_, _, _, _]) dX7_measureRow_8 rfl rfl (by decide) rfl ?_
  refine aj_iload_n (q := 10) (i := 3) dX7_measureRow_9 rfl rfl rfl ?_
  refine aj_iconst (q := 11) (v := (-1)) dX7_measureRow_10 rfl (by decide) ?_
  refine aj_icmp_ne (q := 14) (tgt := 23) dX7_measureRow_11 rfl (by decide) (fun c11_1 => ?_) (fun c11_1 => ?_)
  · refine aj_aload_n (q := 24) (i := 0) dX7_measureRow_23 rfl rfl rfl ?_
    refine aj_getR (q := 27) fl_X7_12 dX7_measureRow_24 rfl lR_0 rfl ?_
    refine aj_iload_n (q := 28) (i := 1) dX7_measureRow_27 rfl rfl rfl ?_
    refine aj_iload_n (q := 29) (i := 3) dX7_measureRow_28 rfl rfl rfl ?_
    refine aj_callV (q := 32) (As := [_, _]) cl_X7_116 mk_X4_write dX7_measureRow_29 rfl lR_1 rfl rfl (Nat.le_of_ble_eq_true rfl) (sp_X4_write hw (fun hw2 => ?_))
    refine aj_return dX7_measureRow_32 rfl ?_
    skip
    first | contradiction | with_reducible exact hQ hw2 | (simp (decide := true) only [rMeasure, ↓reduceIte, sw_eq, sw_ne, ne_eq, Nat.reduceEqDiff, not_false_eq_true, Bool.false_eq_true, bi_t, bi_f, c11_1] at hQ; with_reducible exact hQ hw2) | (simp (decide := true) only [rMeasure, ↓reduceIte, sw_eq, sw_ne, ne_eq, Nat.reduceEqDiff, not_false_eq_true, Bool.false_eq_true, bi_t, bi_f, c11_1] at hQ hw2 ⊢; with_reducible exact hQ hw2) | exact absurd (by assumption) (by decide : ¬ (1 : Int32) = 0)
  · refine aj_aload_n (q := 15) (i := 0) dX7_measureRow_14 rfl rfl rfl ?_
    refine aj_iconst (q := 16) (v := 1) dX7_measureRow_15 rfl (by decide) ?_
    refine aj_iconst (q := 17) (v := 0) dX7_measureRow_16 rfl (by decide) ?_
    refine aj_callV (q := 20) (As := [_, _]) cl_X7_215 mk_X7_raise dX7_measureRow_17 rfl lR_0 rfl rfl (Nat.le_of_ble_eq_true rfl) (sp_X7_raise hw (fun hw3 => ?_))
    refine aj_goto (tgt := 32) dX7_measureRow_20 (by decide) ?_
    refine aj_return dX7_measureRow_32 rfl ?_
    skip
    first | contradiction | with_reducible exact hQ hw3 | (simp (decide := true) only [rMeasure, ↓reduceIte, sw_eq, sw_ne, ne_eq, Nat.reduceEqDiff, not_false_eq_true, Bool.false_eq_true, bi_t, bi_f, c11_1] at hQ; with_reducible exact hQ hw3) | (simp (decide := true) only [rMeasure, ↓reduceIte, sw_eq, sw_ne, ne_eq, Nat.reduceEqDiff, not_false_eq_true, Bool.false_eq_true, bi_t, bi_f, c11_1] at hQ hw3 ⊢; with_reducible exact hQ hw3) | exact absurd (by assumption) (by decide : ¬ (1 : Int32) = 0)
set_option maxRecDepth 2000 in
theorem sp_X7_reaches {d : Nat} {S : Sx} {Q : Option Value → Sx → Prop} {r i : Int32} (hw : wfR S) (hQ : wfR (rReach S r i) → Q (some (.int (bi (rReachB S r i)))) (rReach S r i)) : CC (d + 2) kX7_reaches layR [.ref 0, .int r, .int i] S Q := by
  refine cc_intro [some _, some _, some _, none] (by decide) (cc_cat (by rfl)) (Nat.le_of_ble_eq_true rfl) (cc_ls (by rfl)) ?_
  refine aj_aload_n (q := 1) (i := 0) dX7_reaches_0 rfl rfl rfl ?_
  refine aj_getR (q := 4) fl_X7_12 dX7_reaches_1 rfl lR_0 rfl ?_
  refine aj_iload_n (q := 5) (i := 1) dX7_reaches_4 rfl rfl rfl ?_
  refine aj_callV (q := 8) (As := [_]) cl_X7_269 mk_X4_lengthOf dX7_reaches_5 rfl lR_1 rfl rfl (Nat.le_of_ble_eq_true rfl) (sp_X4_lengthOf ?_)
  refine aj_istore_n (q := 9) (i := 3) (ls' := [_, _, _, _]) dX7_reaches_8 rfl rfl (by decide) rfl ?_
  refine aj_iload_n (q := 10) (i := 3) dX7_reaches_9 rfl rfl rfl ?_
  refine aj_iconst (q := 11) (v := (-1)) dX7_reaches_10 rfl (by decide) ?_
  refine aj_icmp_ne (q := 14) (tgt := 22) dX7_reaches_11 rfl (by decide) (fun c11_1 => ?_) (fun c11_1 => ?_)
  · refine aj_iload_n (q := 23) (i := 2) dX7_reaches_22 rfl rfl rfl ?_
    refine aj_iload_n (q := 24) (i := 3) dX7_reaches_23 rfl rfl rfl ?_
    refine aj_callS (q := 27) (As := [_, _]) cl_X7_272 mk_X9_isBelow dX7_reaches_24 rfl rfl (Nat.le_of_ble_eq_true rfl) (sp_isBelow ?_)
    refine aj_ifB_ne (q := 30) (tgt := 38) dX7_reaches_27 rfl (by decide) (fun c27_2 => ?_) (fun c27_2 => ?_)
    · refine aj_iconst (q := 39) (v := 1) dX7_reaches_38 rfl (by decide) ?_
      refine aj_zreturn dX7_reaches_39 rfl (by decide) ?_
      skip
      first | contradiction | with_reducible exact hQ hw | (simp (decide := true) only [rReach, rReachB, ↓reduceIte, sw_eq, sw_ne, ne_eq, Nat.reduceEqDiff, not_false_eq_true, Bool.false_eq_true, bi_t, bi_f, c11_1, c27_2] at hQ; with_reducible exact hQ hw) | (simp (decide := true) only [rReach, rReachB, ↓reduceIte, sw_eq, sw_ne, ne_eq, Nat.reduceEqDiff, not_false_eq_true, Bool.false_eq_true, bi_t, bi_f, c11_1, c27_2] at hQ hw ⊢; with_reducible exact hQ hw) | exact absurd (by assumption) (by decide : ¬ (1 : Int32) = 0)
    · refine aj_aload_n (q := 31) (i := 0) dX7_reaches_30 rfl rfl rfl ?_
      refine aj_iconst (q := 32) (v := 2) dX7_reaches_31 rfl (by decide) ?_
      refine aj_iconst (q := 33) (v := 0) dX7_reaches_32 rfl (by decide) ?_
      refine aj_callV (q := 36) (As := [_, _]) cl_X7_215 mk_X7_raise dX7_reaches_33 rfl lR_0 rfl rfl (Nat.le_of_ble_eq_true rfl) (sp_X7_raise hw (fun hw3 => ?_))
      refine aj_iconst (q := 37) (v := 0) dX7_reaches_36 rfl (by decide) ?_
      refine aj_zreturn dX7_reaches_37 rfl (by decide) ?_
      skip
      first | contradiction | with_reducible exact hQ hw3 | (simp (decide := true) only [rReach, rReachB, ↓reduceIte, sw_eq, sw_ne, ne_eq, Nat.reduceEqDiff, not_false_eq_true, Bool.false_eq_true, bi_t, bi_f, c11_1, c27_2] at hQ; with_reducible exact hQ hw3) | (simp (decide := true) only [rReach, rReachB, ↓reduceIte, sw_eq, sw_ne, ne_eq, Nat.reduceEqDiff, not_false_eq_true, Bool.false_eq_true, bi_t, bi_f, c11_1, c27_2] at hQ hw3 ⊢; with_reducible exact hQ hw3) | exact absurd (by assumption) (by decide : ¬ (1 : Int32) = 0)
  · refine aj_aload_n (q := 15) (i := 0) dX7_reaches_14 rfl rfl rfl ?_
    refine aj_iconst (q := 16) (v := 1) dX7_reaches_15 rfl (by decide) ?_
    refine aj_iconst (q := 17) (v := 0) dX7_reaches_16 rfl (by decide) ?_
    refine aj_callV (q := 20) (As := [_, _]) cl_X7_215 mk_X7_raise dX7_reaches_17 rfl lR_0 rfl rfl (Nat.le_of_ble_eq_true rfl) (sp_X7_raise hw (fun hw4 => ?_))
    refine aj_iconst (q := 21) (v := 0) dX7_reaches_20 rfl (by decide) ?_
    refine aj_zreturn dX7_reaches_21 rfl (by decide) ?_
    skip
    first | contradiction | with_reducible exact hQ hw4 | (simp (decide := true) only [rReach, rReachB, ↓reduceIte, sw_eq, sw_ne, ne_eq, Nat.reduceEqDiff, not_false_eq_true, Bool.false_eq_true, bi_t, bi_f, c11_1] at hQ; with_reducible exact hQ hw4) | (simp (decide := true) only [rReach, rReachB, ↓reduceIte, sw_eq, sw_ne, ne_eq, Nat.reduceEqDiff, not_false_eq_true, Bool.false_eq_true, bi_t, bi_f, c11_1] at hQ hw4 ⊢; with_reducible exact hQ hw4) | exact absurd (by assumption) (by decide : ¬ (1 : Int32) = 0)
set_option maxRecDepth 2000 in
theorem sp_X7_divide {d : Nat} {S : Sx} {Q : Option Value → Sx → Prop} {t x l r : Int32} (hw : wfR S) (hQ : wfR (rDivide S t x l r) → Q none (rDivide S t x l r)) : CC (d + 2) kX7_divide layR [.ref 0, .int t, .int x, .int l, .int r] S Q := by
  refine cc_intro [some _, some _, some _, some _, some _] (by decide) (cc_cat (by rfl)) (Nat.le_of_ble_eq_true rfl) (cc_ls (by rfl)) ?_
  refine aj_iload (q := 2) (i := 4) dX7_divide_0 rfl rfl ?_
  refine aj_if_ne (q := 5) (tgt := 14) dX7_divide_2 rfl (by decide) (fun c2_1 => ?_) (fun c2_1 => ?_)
  · refine aj_aload_n (q := 15) (i := 0) dX7_divide_14 rfl rfl rfl ?_
    refine aj_getR (q := 18) fl_X7_12 dX7_divide_15 rfl lR_0 rfl ?_
    refine aj_iload_n (q := 19) (i := 2) dX7_divide_18 rfl rfl rfl ?_
    refine aj_iload_n (q := 20) (i := 1) dX7_divide_19 rfl rfl rfl ?_
    refine aj_iconst (q := 21) (v := 4) dX7_divide_20 rfl (by decide) ?_
    refine aj_icmp_ne (q := 24) (tgt := 31) dX7_divide_21 rfl (by decide) (fun c21_2 => ?_) (fun c21_2 => ?_)
    · refine aj_iload_n (q := 32) (i := 3) dX7_divide_31 rfl rfl rfl ?_
      refine aj_iload (q := 34) (i := 4) dX7_divide_32 rfl rfl ?_
      refine aj_irem (q := 35) dX7_divide_34 rfl c2_1 ?_
      refine aj_callV (q := 38) (As := [_, _]) cl_X7_116 mk_X4_write dX7_divide_35 rfl lR_1 rfl rfl (Nat.le_of_ble_eq_true rfl) (sp_X4_write hw (fun hw3 => ?_))
      refine aj_return dX7_divide_38 rfl ?_
      skip
      first | contradiction | with_reducible exact hQ hw3 | (simp (decide := true) only [rDivide, ↓reduceIte, sw_eq, sw_ne, ne_eq, Nat.reduceEqDiff, not_false_eq_true, Bool.false_eq_true, bi_t, bi_f, c2_1, c21_2] at hQ; with_reducible exact hQ hw3) | (simp (decide := true) only [rDivide, ↓reduceIte, sw_eq, sw_ne, ne_eq, Nat.reduceEqDiff, not_false_eq_true, Bool.false_eq_true, bi_t, bi_f, c2_1, c21_2] at hQ hw3 ⊢; with_reducible exact hQ hw3) | exact absurd (by assumption) (by decide : ¬ (1 : Int32) = 0)
    · refine aj_iload_n (q := 25) (i := 3) dX7_divide_24 rfl rfl rfl ?_
      refine aj_iload (q := 27) (i := 4) dX7_divide_25 rfl rfl ?_
      refine aj_idiv (q := 28) dX7_divide_27 rfl c2_1 ?_
      refine aj_goto (tgt := 35) dX7_divide_28 (by decide) ?_
      refine aj_callV (q := 38) (As := [_, _]) cl_X7_116 mk_X4_write dX7_divide_35 rfl lR_1 rfl rfl (Nat.le_of_ble_eq_true rfl) (sp_X4_write hw (fun hw4 => ?_))
      refine aj_return dX7_divide_38 rfl ?_
      skip
      first | contradiction | with_reducible exact hQ hw4 | (simp (decide := true) only [rDivide, ↓reduceIte, sw_eq, sw_ne, ne_eq, Nat.reduceEqDiff, not_false_eq_true, Bool.false_eq_true, bi_t, bi_f, c2_1, c21_2] at hQ; with_reducible exact hQ hw4) | (simp (decide := true) only [rDivide, ↓reduceIte, sw_eq, sw_ne, ne_eq, Nat.reduceEqDiff, not_false_eq_true, Bool.false_eq_true, bi_t, bi_f, c2_1, c21_2] at hQ hw4 ⊢; with_reducible exact hQ hw4) | exact absurd (by assumption) (by decide : ¬ (1 : Int32) = 0)
  · refine aj_aload_n (q := 6) (i := 0) dX7_divide_5 rfl rfl rfl ?_
    refine aj_iconst (q := 7) (v := 4) dX7_divide_6 rfl (by decide) ?_
    refine aj_iconst (q := 8) (v := 0) dX7_divide_7 rfl (by decide) ?_
    refine aj_callV (q := 11) (As := [_, _]) cl_X7_215 mk_X7_raise dX7_divide_8 rfl lR_0 rfl rfl (Nat.le_of_ble_eq_true rfl) (sp_X7_raise hw (fun hw5 => ?_))
    refine aj_goto (tgt := 38) dX7_divide_11 (by decide) ?_
    refine aj_return dX7_divide_38 rfl ?_
    skip
    first | contradiction | with_reducible exact hQ hw5 | (simp (decide := true) only [rDivide, ↓reduceIte, sw_eq, sw_ne, ne_eq, Nat.reduceEqDiff, not_false_eq_true, Bool.false_eq_true, bi_t, bi_f, c2_1] at hQ; with_reducible exact hQ hw5) | (simp (decide := true) only [rDivide, ↓reduceIte, sw_eq, sw_ne, ne_eq, Nat.reduceEqDiff, not_false_eq_true, Bool.false_eq_true, bi_t, bi_f, c2_1] at hQ hw5 ⊢; with_reducible exact hQ hw5) | exact absurd (by assumption) (by decide : ¬ (1 : Int32) = 0)
set_option maxRecDepth 2000 in
theorem sp_X7_calculate {d : Nat} {S : Sx} {Q : Option Value → Sx → Prop} {t a b c : Int32} (hw : wfR S) (hQ : wfR (rCalc S t a b c) → Q none (rCalc S t a b c)) : CC (d + 3) kX7_calculate layR [.ref 0, .int t, .int a, .int b, .int c] S Q := by
  refine cc_intro [some _, some _, some _, some _, some _, none, none] (by decide) (cc_cat (by rfl)) (Nat.le_of_ble_eq_true rfl) (cc_ls (by rfl)) ?_
  refine aj_aload_n (q := 1) (i := 0) dX7_calculate_0 rfl rfl rfl ?_
  refine aj_getR (q := 4) fl_X7_12 dX7_calculate_1 rfl lR_0 rfl ?_
  refine aj_iload_n (q := 5) (i := 3) dX7_calculate_4 rfl rfl rfl ?_
  refine aj_callV (q := 8) (As := [_]) cl_X7_144 mk_X4_read dX7_calculate_5 rfl lR_1 rfl rfl (Nat.le_of_ble_eq_true rfl) (sp_X4_read ?_)
  refine aj_istore (q := 10) (i := 5) (ls' := [_, _, _, _, _, _, _]) dX7_calculate_8 rfl (by decide) rfl ?_
  refine aj_aload_n (q := 11) (i := 0) dX7_calculate_10 rfl rfl rfl ?_
  refine aj_getR (q := 14) fl_X7_12 dX7_calculate_11 rfl lR_0 rfl ?_
  refine aj_iload (q := 16) (i := 4) dX7_calculate_14 rfl rfl ?_
  refine aj_callV (q := 19) (As := [_]) cl_X7_144 mk_X4_read dX7_calculate_16 rfl lR_1 rfl rfl (Nat.le_of_ble_eq_true rfl) (sp_X4_read ?_)
  refine aj_istore (q := 21) (i := 6) (ls' := [_, _, _, _, _, _, _]) dX7_calculate_19 rfl (by decide) rfl ?_
  refine aj_iload_n (q := 22) (i := 1) dX7_calculate_21 rfl rfl rfl ?_
  refine aj_tsn (fun x1 ex1 => ?_)
  by_cases e1_0 : x1 = 0
  · refine aj_tsIn (tgt := 52) (off := 30) dX7_calculate_22 (by rw [e1_0]; decide) (by rw [e1_0]; decide) (by rw [e1_0]; rfl) (by decide) ?_
    refine aj_aload_n (q := 53) (i := 0) dX7_calculate_52 rfl rfl rfl ?_
    refine aj_getR (q := 56) fl_X7_12 dX7_calculate_53 rfl lR_0 rfl ?_
    refine aj_iload_n (q := 57) (i := 2) dX7_calculate_56 rfl rfl rfl ?_
    refine aj_iload_n (q := 58) (i := 3) dX7_calculate_57 rfl rfl rfl ?_
    refine aj_callV (q := 61) (As := [_, _]) cl_X7_116 mk_X4_write dX7_calculate_58 rfl lR_1 rfl rfl (Nat.le_of_ble_eq_true rfl) (sp_X4_write hw (fun hw2 => ?_))
    refine aj_goto (tgt := 122) dX7_calculate_61 (by decide) ?_
    refine aj_return dX7_calculate_122 rfl ?_
    skip; subst ex1
    first | contradiction | with_reducible exact hQ hw2 | (simp (decide := true) only [rCalc, ↓reduceIte, sw_eq, sw_ne, ne_eq, Nat.reduceEqDiff, not_false_eq_true, Bool.false_eq_true, bi_t, bi_f, e1_0] at hQ; with_reducible exact hQ hw2) | (simp (decide := true) only [rCalc, ↓reduceIte, sw_eq, sw_ne, ne_eq, Nat.reduceEqDiff, not_false_eq_true, Bool.false_eq_true, bi_t, bi_f, e1_0] at hQ hw2 ⊢; with_reducible exact hQ hw2) | exact absurd (by assumption) (by decide : ¬ (1 : Int32) = 0)
  by_cases e1_1 : x1 = 1
  · refine aj_tsIn (tgt := 64) (off := 42) dX7_calculate_22 (by rw [e1_1]; decide) (by rw [e1_1]; decide) (by rw [e1_1]; rfl) (by decide) ?_
    refine aj_aload_n (q := 65) (i := 0) dX7_calculate_64 rfl rfl rfl ?_
    refine aj_getR (q := 68) fl_X7_12 dX7_calculate_65 rfl lR_0 rfl ?_
    refine aj_iload_n (q := 69) (i := 2) dX7_calculate_68 rfl rfl rfl ?_
    refine aj_iload (q := 71) (i := 5) dX7_calculate_69 rfl rfl ?_
    refine aj_iload (q := 73) (i := 6) dX7_calculate_71 rfl rfl ?_
    refine aj_iadd (q := 74) dX7_calculate_73 rfl ?_
    refine aj_callV (q := 77) (As := [_, _]) cl_X7_116 mk_X4_write dX7_calculate_74 rfl lR_1 rfl rfl (Nat.le_of_ble_eq_true rfl) (sp_X4_write hw (fun hw3 => ?_))
    refine aj_goto (tgt := 122) dX7_calculate_77 (by decide) ?_
    refine aj_return dX7_calculate_122 rfl ?_
    skip; subst ex1
    first | contradiction | with_reducible exact hQ hw3 | (simp (decide := true) only [rCalc, ↓reduceIte, sw_eq, sw_ne, ne_eq, Nat.reduceEqDiff, not_false_eq_true, Bool.false_eq_true, bi_t, bi_f, e1_1] at hQ; with_reducible exact hQ hw3) | (simp (decide := true) only [rCalc, ↓reduceIte, sw_eq, sw_ne, ne_eq, Nat.reduceEqDiff, not_false_eq_true, Bool.false_eq_true, bi_t, bi_f, e1_1] at hQ hw3 ⊢; with_reducible exact hQ hw3) | exact absurd (by assumption) (by decide : ¬ (1 : Int32) = 0)
  by_cases e1_2 : x1 = 2
  · refine aj_tsIn (tgt := 80) (off := 58) dX7_calculate_22 (by rw [e1_2]; decide) (by rw [e1_2]; decide) (by rw [e1_2]; rfl) (by decide) ?_
    refine aj_aload_n (q := 81) (i := 0) dX7_calculate_80 rfl rfl rfl ?_
    refine aj_getR (q := 84) fl_X7_12 dX7_calculate_81 rfl lR_0 rfl ?_
    refine aj_iload_n (q := 85) (i := 2) dX7_calculate_84 rfl rfl rfl ?_
    refine aj_iload (q := 87) (i := 5) dX7_calculate_85 rfl rfl ?_
    refine aj_iload (q := 89) (i := 6) dX7_calculate_87 rfl rfl ?_
    refine aj_isub (q := 90) dX7_calculate_89 rfl ?_
    refine aj_callV (q := 93) (As := [_, _]) cl_X7_116 mk_X4_write dX7_calculate_90 rfl lR_1 rfl rfl (Nat.le_of_ble_eq_true rfl) (sp_X4_write hw (fun hw4 => ?_))
    refine aj_goto (tgt := 122) dX7_calculate_93 (by decide) ?_
    refine aj_return dX7_calculate_122 rfl ?_
    skip; subst ex1
    first | contradiction | with_reducible exact hQ hw4 | (simp (decide := true) only [rCalc, ↓reduceIte, sw_eq, sw_ne, ne_eq, Nat.reduceEqDiff, not_false_eq_true, Bool.false_eq_true, bi_t, bi_f, e1_2] at hQ; with_reducible exact hQ hw4) | (simp (decide := true) only [rCalc, ↓reduceIte, sw_eq, sw_ne, ne_eq, Nat.reduceEqDiff, not_false_eq_true, Bool.false_eq_true, bi_t, bi_f, e1_2] at hQ hw4 ⊢; with_reducible exact hQ hw4) | exact absurd (by assumption) (by decide : ¬ (1 : Int32) = 0)
  by_cases e1_3 : x1 = 3
  · refine aj_tsIn (tgt := 96) (off := 74) dX7_calculate_22 (by rw [e1_3]; decide) (by rw [e1_3]; decide) (by rw [e1_3]; rfl) (by decide) ?_
    refine aj_aload_n (q := 97) (i := 0) dX7_calculate_96 rfl rfl rfl ?_
    refine aj_getR (q := 100) fl_X7_12 dX7_calculate_97 rfl lR_0 rfl ?_
    refine aj_iload_n (q := 101) (i := 2) dX7_calculate_100 rfl rfl rfl ?_
    refine aj_iload (q := 103) (i := 5) dX7_calculate_101 rfl rfl ?_
    refine aj_iload (q := 105) (i := 6) dX7_calculate_103 rfl rfl ?_
    refine aj_imul (q := 106) dX7_calculate_105 rfl ?_
    refine aj_callV (q := 109) (As := [_, _]) cl_X7_116 mk_X4_write dX7_calculate_106 rfl lR_1 rfl rfl (Nat.le_of_ble_eq_true rfl) (sp_X4_write hw (fun hw5 => ?_))
    refine aj_goto (tgt := 122) dX7_calculate_109 (by decide) ?_
    refine aj_return dX7_calculate_122 rfl ?_
    skip; subst ex1
    first | contradiction | with_reducible exact hQ hw5 | (simp (decide := true) only [rCalc, ↓reduceIte, sw_eq, sw_ne, ne_eq, Nat.reduceEqDiff, not_false_eq_true, Bool.false_eq_true, bi_t, bi_f, e1_3] at hQ; with_reducible exact hQ hw5) | (simp (decide := true) only [rCalc, ↓reduceIte, sw_eq, sw_ne, ne_eq, Nat.reduceEqDiff, not_false_eq_true, Bool.false_eq_true, bi_t, bi_f, e1_3] at hQ hw5 ⊢; with_reducible exact hQ hw5) | exact absurd (by assumption) (by decide : ¬ (1 : Int32) = 0)
  refine aj_tsOut (tgt := 112) dX7_calculate_22 (by have := And.intro trivial trivial; have z0 := lv_neT (a := 0) e1_0 rfl; have z1 := lv_neT (a := 1) e1_1 rfl; have z2 := lv_neT (a := 2) e1_2 rfl; have z3 := lv_neT (a := 3) e1_3 rfl; omega) (by decide) ?_
  refine aj_aload_n (q := 113) (i := 0) dX7_calculate_112 rfl rfl rfl ?_
  refine aj_iload_n (q := 114) (i := 1) dX7_calculate_113 rfl rfl rfl ?_
  refine aj_iload_n (q := 115) (i := 2) dX7_calculate_114 rfl rfl rfl ?_
  refine aj_iload (q := 117) (i := 5) dX7_calculate_115 rfl rfl ?_
  refine aj_iload (q := 119) (i := 6) dX7_calculate_117 rfl rfl ?_
  refine aj_callV (q := 122) (As := [_, _, _, _]) cl_X7_241 mk_X7_divide dX7_calculate_119 rfl lR_0 rfl rfl (Nat.le_of_ble_eq_true rfl) (sp_X7_divide hw (fun hw6 => ?_))
  refine aj_return dX7_calculate_122 rfl ?_
  skip; subst ex1
  first | contradiction | with_reducible exact hQ hw6 | (simp (decide := true) only [rCalc, ↓reduceIte, sw_eq, sw_ne, ne_eq, Nat.reduceEqDiff, not_false_eq_true, Bool.false_eq_true, bi_t, bi_f, e1_0, e1_1, e1_2, e1_3] at hQ; with_reducible exact hQ hw6) | (simp (decide := true) only [rCalc, ↓reduceIte, sw_eq, sw_ne, ne_eq, Nat.reduceEqDiff, not_false_eq_true, Bool.false_eq_true, bi_t, bi_f, e1_0, e1_1, e1_2, e1_3] at hQ hw6 ⊢; with_reducible exact hQ hw6) | exact absurd (by assumption) (by decide : ¬ (1 : Int32) = 0)
set_option maxRecDepth 2000 in
theorem sp_X7_doWithRow {d : Nat} {S : Sx} {Q : Option Value → Sx → Prop} {t a b c : Int32} (hw : wfR S) (hQ : wfR (rRow S t a b c) → Q none (rRow S t a b c)) : CC (d + 3) kX7_doWithRow layR [.ref 0, .int t, .int a, .int b, .int c] S Q := by
  refine cc_intro [some _, some _, some _, some _, some _] (by decide) (cc_cat (by rfl)) (Nat.le_of_ble_eq_true rfl) (cc_ls (by rfl)) ?_
  refine aj_iload_n (q := 1) (i := 1) dX7_doWithRow_0 rfl rfl rfl ?_
  refine aj_tsn (fun x1 ex1 => ?_)
  by_cases e1_6 : x1 = 6
  · refine aj_tsIn (tgt := 36) (off := 35) dX7_doWithRow_1 (by rw [e1_6]; decide) (by rw [e1_6]; decide) (by rw [e1_6]; rfl) (by decide) ?_
    refine aj_aload_n (q := 37) (i := 0) dX7_doWithRow_36 rfl rfl rfl ?_
    refine aj_iload_n (q := 38) (i := 2) dX7_doWithRow_37 rfl rfl rfl ?_
    refine aj_aload_n (q := 39) (i := 0) dX7_doWithRow_38 rfl rfl rfl ?_
    refine aj_getR (q := 42) fl_X7_12 dX7_doWithRow_39 rfl lR_0 rfl ?_
    refine aj_iload_n (q := 43) (i := 3) dX7_doWithRow_42 rfl rfl rfl ?_
    refine aj_callV (q := 46) (As := [_]) cl_X7_144 mk_X4_read dX7_doWithRow_43 rfl lR_1 rfl rfl (Nat.le_of_ble_eq_true rfl) (sp_X4_read ?_)
    refine aj_callV (q := 49) (As := [_, _]) cl_X7_244 mk_X7_makeRow dX7_doWithRow_46 rfl lR_0 rfl rfl (Nat.le_of_ble_eq_true rfl) (sp_X7_makeRow hw (fun hw2 => ?_))
    refine aj_goto (tgt := 170) dX7_doWithRow_49 (by decide) ?_
    refine aj_return dX7_doWithRow_170 rfl ?_
    skip; subst ex1
    first | contradiction | with_reducible exact hQ hw2 | (simp (decide := true) only [rRow, ↓reduceIte, sw_eq, sw_ne, ne_eq, Nat.reduceEqDiff, not_false_eq_true, Bool.false_eq_true, bi_t, bi_f, e1_6] at hQ; with_reducible exact hQ hw2) | (simp (decide := true) only [rRow, ↓reduceIte, sw_eq, sw_ne, ne_eq, Nat.reduceEqDiff, not_false_eq_true, Bool.false_eq_true, bi_t, bi_f, e1_6] at hQ hw2 ⊢; with_reducible exact hQ hw2) | exact absurd (by assumption) (by decide : ¬ (1 : Int32) = 0)
  by_cases e1_7 : x1 = 7
  · refine aj_tsIn (tgt := 52) (off := 51) dX7_doWithRow_1 (by rw [e1_7]; decide) (by rw [e1_7]; decide) (by rw [e1_7]; rfl) (by decide) ?_
    refine aj_aload_n (q := 53) (i := 0) dX7_doWithRow_52 rfl rfl rfl ?_
    refine aj_iload_n (q := 54) (i := 3) dX7_doWithRow_53 rfl rfl rfl ?_
    refine aj_aload_n (q := 55) (i := 0) dX7_doWithRow_54 rfl rfl rfl ?_
    refine aj_getR (q := 58) fl_X7_12 dX7_doWithRow_55 rfl lR_0 rfl ?_
    refine aj_iload (q := 60) (i := 4) dX7_doWithRow_58 rfl rfl ?_
    refine aj_callV (q := 63) (As := [_]) cl_X7_144 mk_X4_read dX7_doWithRow_60 rfl lR_1 rfl rfl (Nat.le_of_ble_eq_true rfl) (sp_X4_read ?_)
    refine aj_callV (q := 66) (As := [_, _]) cl_X7_247 mk_X7_reaches dX7_doWithRow_63 rfl lR_0 rfl rfl (Nat.le_of_ble_eq_true rfl) (sp_X7_reaches hw (fun hw3 => ?_))
    refine aj_ifB_eq (q := 69) (tgt := 170) dX7_doWithRow_66 rfl (by decide) (fun c66_4 => ?_) (fun c66_4 => ?_)
    · refine aj_return dX7_doWithRow_170 rfl ?_
      skip; subst ex1
      first | contradiction | with_reducible exact hQ hw3 | (simp (decide := true) only [rRow, ↓reduceIte, sw_eq, sw_ne, ne_eq, Nat.reduceEqDiff, not_false_eq_true, Bool.false_eq_true, bi_t, bi_f, e1_7, c66_4] at hQ; with_reducible exact hQ hw3) | (simp (decide := true) only [rRow, ↓reduceIte, sw_eq, sw_ne, ne_eq, Nat.reduceEqDiff, not_false_eq_true, Bool.false_eq_true, bi_t, bi_f, e1_7, c66_4] at hQ hw3 ⊢; with_reducible exact hQ hw3) | exact absurd (by assumption) (by decide : ¬ (1 : Int32) = 0)
    · refine aj_aload_n (q := 70) (i := 0) dX7_doWithRow_69 rfl rfl rfl ?_
      refine aj_getR (q := 73) fl_X7_12 dX7_doWithRow_70 rfl lR_0 rfl ?_
      refine aj_iload_n (q := 74) (i := 2) dX7_doWithRow_73 rfl rfl rfl ?_
      refine aj_aload_n (q := 75) (i := 0) dX7_doWithRow_74 rfl rfl rfl ?_
      refine aj_getR (q := 78) fl_X7_12 dX7_doWithRow_75 rfl lR_0 rfl ?_
      refine aj_iload_n (q := 79) (i := 3) dX7_doWithRow_78 rfl rfl rfl ?_
      refine aj_aload_n (q := 80) (i := 0) dX7_doWithRow_79 rfl rfl rfl ?_
      refine aj_getR (q := 83) fl_X7_12 dX7_doWithRow_80 rfl lR_0 rfl ?_
      refine aj_iload (q := 85) (i := 4) dX7_doWithRow_83 rfl rfl ?_
      refine aj_callV (q := 88) (As := [_]) cl_X7_144 mk_X4_read dX7_doWithRow_85 rfl lR_1 rfl rfl (Nat.le_of_ble_eq_true rfl) (sp_X4_read ?_)
      refine aj_callV (q := 91) (As := [_, _]) cl_X7_250 mk_X4_load dX7_doWithRow_88 rfl lR_1 rfl rfl (Nat.le_of_ble_eq_true rfl) (sp_X4_load hw3 ?_)
      refine aj_callV (q := 94) (As := [_, _]) cl_X7_116 mk_X4_write dX7_doWithRow_91 rfl lR_1 rfl rfl (Nat.le_of_ble_eq_true rfl) (sp_X4_write hw3 (fun hw5 => ?_))
      refine aj_goto (tgt := 170) dX7_doWithRow_94 (by decide) ?_
      refine aj_return dX7_doWithRow_170 rfl ?_
      skip; subst ex1
      first | contradiction | with_reducible exact hQ hw5 | (simp (decide := true) only [rRow, ↓reduceIte, sw_eq, sw_ne, ne_eq, Nat.reduceEqDiff, not_false_eq_true, Bool.false_eq_true, bi_t, bi_f, e1_7, c66_4] at hQ; with_reducible exact hQ hw5) | (simp (decide := true) only [rRow, ↓reduceIte, sw_eq, sw_ne, ne_eq, Nat.reduceEqDiff, not_false_eq_true, Bool.false_eq_true, bi_t, bi_f, e1_7, c66_4] at hQ hw5 ⊢; with_reducible exact hQ hw5) | exact absurd (by assumption) (by decide : ¬ (1 : Int32) = 0)
  by_cases e1_8 : x1 = 8
  · refine aj_tsIn (tgt := 97) (off := 96) dX7_doWithRow_1 (by rw [e1_8]; decide) (by rw [e1_8]; decide) (by rw [e1_8]; rfl) (by decide) ?_
    refine aj_aload_n (q := 98) (i := 0) dX7_doWithRow_97 rfl rfl rfl ?_
    refine aj_iload_n (q := 99) (i := 2) dX7_doWithRow_98 rfl rfl rfl ?_
    refine aj_aload_n (q := 100) (i := 0) dX7_doWithRow_99 rfl rfl rfl ?_
    refine aj_getR (q := 103) fl_X7_12 dX7_doWithRow_100 rfl lR_0 rfl ?_
    refine aj_iload_n (q := 104) (i := 3) dX7_doWithRow_103 rfl rfl rfl ?_
    refine aj_callV (q := 107) (As := [_]) cl_X7_144 mk_X4_read dX7_doWithRow_104 rfl lR_1 rfl rfl (Nat.le_of_ble_eq_true rfl) (sp_X4_read ?_)
    refine aj_callV (q := 110) (As := [_, _]) cl_X7_247 mk_X7_reaches dX7_doWithRow_107 rfl lR_0 rfl rfl (Nat.le_of_ble_eq_true rfl) (sp_X7_reaches hw (fun hw6 => ?_))
    refine aj_ifB_eq (q := 113) (tgt := 170) dX7_doWithRow_110 rfl (by decide) (fun c110_7 => ?_) (fun c110_7 => ?_)
    · refine aj_return dX7_doWithRow_170 rfl ?_
      skip; subst ex1
      first | contradiction | with_reducible exact hQ hw6 | (simp (decide := true) only [rRow, ↓reduceIte, sw_eq, sw_ne, ne_eq, Nat.reduceEqDiff, not_false_eq_true, Bool.false_eq_true, bi_t, bi_f, e1_8, c110_7] at hQ; with_reducible exact hQ hw6) | (simp (decide := true) only [rRow, ↓reduceIte, sw_eq, sw_ne, ne_eq, Nat.reduceEqDiff, not_false_eq_true, Bool.false_eq_true, bi_t, bi_f, e1_8, c110_7] at hQ hw6 ⊢; with_reducible exact hQ hw6) | exact absurd (by assumption) (by decide : ¬ (1 : Int32) = 0)
    · refine aj_aload_n (q := 114) (i := 0) dX7_doWithRow_113 rfl rfl rfl ?_
      refine aj_getR (q := 117) fl_X7_12 dX7_doWithRow_114 rfl lR_0 rfl ?_
      refine aj_iload_n (q := 118) (i := 2) dX7_doWithRow_117 rfl rfl rfl ?_
      refine aj_aload_n (q := 119) (i := 0) dX7_doWithRow_118 rfl rfl rfl ?_
      refine aj_getR (q := 122) fl_X7_12 dX7_doWithRow_119 rfl lR_0 rfl ?_
      refine aj_iload_n (q := 123) (i := 3) dX7_doWithRow_122 rfl rfl rfl ?_
      refine aj_callV (q := 126) (As := [_]) cl_X7_144 mk_X4_read dX7_doWithRow_123 rfl lR_1 rfl rfl (Nat.le_of_ble_eq_true rfl) (sp_X4_read ?_)
      refine aj_aload_n (q := 127) (i := 0) dX7_doWithRow_126 rfl rfl rfl ?_
      refine aj_getR (q := 130) fl_X7_12 dX7_doWithRow_127 rfl lR_0 rfl ?_
      refine aj_iload (q := 132) (i := 4) dX7_doWithRow_130 rfl rfl ?_
      refine aj_callV (q := 135) (As := [_]) cl_X7_144 mk_X4_read dX7_doWithRow_132 rfl lR_1 rfl rfl (Nat.le_of_ble_eq_true rfl) (sp_X4_read ?_)
      refine aj_callV (q := 138) (As := [_, _, _]) cl_X7_253 mk_X4_store dX7_doWithRow_135 rfl lR_1 rfl rfl (Nat.le_of_ble_eq_true rfl) (sp_X4_store hw6 (fun hw8 => ?_))
      refine aj_goto (tgt := 170) dX7_doWithRow_138 (by decide) ?_
      refine aj_return dX7_doWithRow_170 rfl ?_
      skip; subst ex1
      first | contradiction | with_reducible exact hQ hw8 | (simp (decide := true) only [rRow, ↓reduceIte, sw_eq, sw_ne, ne_eq, Nat.reduceEqDiff, not_false_eq_true, Bool.false_eq_true, bi_t, bi_f, e1_8, c110_7] at hQ; with_reducible exact hQ hw8) | (simp (decide := true) only [rRow, ↓reduceIte, sw_eq, sw_ne, ne_eq, Nat.reduceEqDiff, not_false_eq_true, Bool.false_eq_true, bi_t, bi_f, e1_8, c110_7] at hQ hw8 ⊢; with_reducible exact hQ hw8) | exact absurd (by assumption) (by decide : ¬ (1 : Int32) = 0)
  by_cases e1_9 : x1 = 9
  · refine aj_tsIn (tgt := 141) (off := 140) dX7_doWithRow_1 (by rw [e1_9]; decide) (by rw [e1_9]; decide) (by rw [e1_9]; rfl) (by decide) ?_
    refine aj_aload_n (q := 142) (i := 0) dX7_doWithRow_141 rfl rfl rfl ?_
    refine aj_iload_n (q := 143) (i := 2) dX7_doWithRow_142 rfl rfl rfl ?_
    refine aj_iload_n (q := 144) (i := 3) dX7_doWithRow_143 rfl rfl rfl ?_
    refine aj_callV (q := 147) (As := [_, _]) cl_X7_256 mk_X7_measureRow dX7_doWithRow_144 rfl lR_0 rfl rfl (Nat.le_of_ble_eq_true rfl) (sp_X7_measureRow hw (fun hw9 => ?_))
    refine aj_goto (tgt := 170) dX7_doWithRow_147 (by decide) ?_
    refine aj_return dX7_doWithRow_170 rfl ?_
    skip; subst ex1
    first | contradiction | with_reducible exact hQ hw9 | (simp (decide := true) only [rRow, ↓reduceIte, sw_eq, sw_ne, ne_eq, Nat.reduceEqDiff, not_false_eq_true, Bool.false_eq_true, bi_t, bi_f, e1_9] at hQ; with_reducible exact hQ hw9) | (simp (decide := true) only [rRow, ↓reduceIte, sw_eq, sw_ne, ne_eq, Nat.reduceEqDiff, not_false_eq_true, Bool.false_eq_true, bi_t, bi_f, e1_9] at hQ hw9 ⊢; with_reducible exact hQ hw9) | exact absurd (by assumption) (by decide : ¬ (1 : Int32) = 0)
  by_cases e1_10 : x1 = 10
  · refine aj_tsIn (tgt := 150) (off := 149) dX7_doWithRow_1 (by rw [e1_10]; decide) (by rw [e1_10]; decide) (by rw [e1_10]; rfl) (by decide) ?_
    refine aj_aload_n (q := 151) (i := 0) dX7_doWithRow_150 rfl rfl rfl ?_
    refine aj_getR (q := 154) fl_X7_12 dX7_doWithRow_151 rfl lR_0 rfl ?_
    refine aj_iload_n (q := 155) (i := 2) dX7_doWithRow_154 rfl rfl rfl ?_
    refine aj_callV (q := 158) (As := [_]) cl_X7_259 mk_X4_forgetRow dX7_doWithRow_155 rfl lR_1 rfl rfl (Nat.le_of_ble_eq_true rfl) (sp_X4_forgetRow hw (fun hw10 => ?_))
    refine aj_goto (tgt := 170) dX7_doWithRow_158 (by decide) ?_
    refine aj_return dX7_doWithRow_170 rfl ?_
    skip; subst ex1
    first | contradiction | with_reducible exact hQ hw10 | (simp (decide := true) only [rRow, ↓reduceIte, sw_eq, sw_ne, ne_eq, Nat.reduceEqDiff, not_false_eq_true, Bool.false_eq_true, bi_t, bi_f, e1_10] at hQ; with_reducible exact hQ hw10) | (simp (decide := true) only [rRow, ↓reduceIte, sw_eq, sw_ne, ne_eq, Nat.reduceEqDiff, not_false_eq_true, Bool.false_eq_true, bi_t, bi_f, e1_10] at hQ hw10 ⊢; with_reducible exact hQ hw10) | exact absurd (by assumption) (by decide : ¬ (1 : Int32) = 0)
  refine aj_tsOut (tgt := 161) dX7_doWithRow_1 (by have := And.intro trivial trivial; have z0 := lv_neT (a := 6) e1_6 rfl; have z1 := lv_neT (a := 7) e1_7 rfl; have z2 := lv_neT (a := 8) e1_8 rfl; have z3 := lv_neT (a := 9) e1_9 rfl; have z4 := lv_neT (a := 10) e1_10 rfl; omega) (by decide) ?_
  refine aj_aload_n (q := 162) (i := 0) dX7_doWithRow_161 rfl rfl rfl ?_
  refine aj_getR (q := 165) fl_X7_12 dX7_doWithRow_162 rfl lR_0 rfl ?_
  refine aj_iload_n (q := 166) (i := 2) dX7_doWithRow_165 rfl rfl rfl ?_
  refine aj_iload_n (q := 167) (i := 3) dX7_doWithRow_166 rfl rfl rfl ?_
  refine aj_callV (q := 170) (As := [_, _]) cl_X7_262 mk_X4_shareRow dX7_doWithRow_167 rfl lR_1 rfl rfl (Nat.le_of_ble_eq_true rfl) (sp_X4_shareRow hw (fun hw11 => ?_))
  refine aj_return dX7_doWithRow_170 rfl ?_
  skip; subst ex1
  first | contradiction | with_reducible exact hQ hw11 | (simp (decide := true) only [rRow, ↓reduceIte, sw_eq, sw_ne, ne_eq, Nat.reduceEqDiff, not_false_eq_true, Bool.false_eq_true, bi_t, bi_f, e1_6, e1_7, e1_8, e1_9, e1_10] at hQ; with_reducible exact hQ hw11) | (simp (decide := true) only [rRow, ↓reduceIte, sw_eq, sw_ne, ne_eq, Nat.reduceEqDiff, not_false_eq_true, Bool.false_eq_true, bi_t, bi_f, e1_6, e1_7, e1_8, e1_9, e1_10] at hQ hw11 ⊢; with_reducible exact hQ hw11) | exact absurd (by assumption) (by decide : ¬ (1 : Int32) = 0)
set_option maxRecDepth 2000 in
theorem sp_X7_doAtOnce {d : Nat} {S : Sx} {Q : Option Value → Sx → Prop} {t a b c : Int32} (hw : wfR S) (hQ : wfR (rAtOnce S t a b c) → Q none (rAtOnce S t a b c)) : CC (d + 4) kX7_doAtOnce layR [.ref 0, .int t, .int a, .int b, .int c] S Q := by
  refine cc_intro [some _, some _, some _, some _, some _] (by decide) (cc_cat (by rfl)) (Nat.le_of_ble_eq_true rfl) (cc_ls (by rfl)) ?_
  refine aj_aload_n (q := 1) (i := 0) dX7_doAtOnce_0 rfl rfl rfl ?_
  refine aj_iconst (q := 2) (v := 0) dX7_doAtOnce_1 rfl (by decide) ?_
  refine aj_putIw (q := 5) (f := 8) hw rfl okR fp_X7_61 dX7_doAtOnce_2 rfl lR_0 rfl rfl (fun hw1 => ?_)
  refine aj_iload_n (q := 6) (i := 1) dX7_doAtOnce_5 rfl rfl rfl ?_
  refine aj_iconst (q := 7) (v := 5) dX7_doAtOnce_6 rfl (by decide) ?_
  refine aj_icmp_gt (q := 10) (tgt := 22) dX7_doAtOnce_7 rfl (by decide) (fun c7_2 => ?_) (fun c7_2 => ?_)
  · refine aj_iload_n (q := 23) (i := 1) dX7_doAtOnce_22 rfl rfl rfl ?_
    refine aj_bipush (q := 25) (v := 11) dX7_doAtOnce_23 rfl (by decide) ?_
    refine aj_icmp_gt (q := 28) (tgt := 40) dX7_doAtOnce_25 rfl (by decide) (fun c25_3 => ?_) (fun c25_3 => ?_)
    · refine aj_iload_n (q := 41) (i := 1) dX7_doAtOnce_40 rfl rfl rfl ?_
      refine aj_bipush (q := 43) (v := 16) dX7_doAtOnce_41 rfl (by decide) ?_
      refine aj_icmp_ne (q := 46) (tgt := 69) dX7_doAtOnce_43 rfl (by decide) (fun c43_4 => ?_) (fun c43_4 => ?_)
      · refine aj_iload_n (q := 70) (i := 1) dX7_doAtOnce_69 rfl rfl rfl ?_
        refine aj_bipush (q := 72) (v := 17) dX7_doAtOnce_70 rfl (by decide) ?_
        refine aj_icmp_ne (q := 75) (tgt := 91) dX7_doAtOnce_72 rfl (by decide) (fun c72_5 => ?_) (fun c72_5 => ?_)
        · refine aj_iload_n (q := 92) (i := 1) dX7_doAtOnce_91 rfl rfl rfl ?_
          refine aj_bipush (q := 94) (v := 21) dX7_doAtOnce_92 rfl (by decide) ?_
          refine aj_icmp_ne (q := 97) (tgt := 112) dX7_doAtOnce_94 rfl (by decide) (fun c94_6 => ?_) (fun c94_6 => ?_)
          · refine aj_aload_n (q := 113) (i := 0) dX7_doAtOnce_112 rfl rfl rfl ?_
            refine aj_getR (q := 116) fl_X7_35 dX7_doAtOnce_113 rfl lR_0 rfl ?_
            refine aj_callV (q := 119) (As := []) cl_X7_181 mk_X0_close dX7_doAtOnce_116 rfl lR_11 rfl rfl (Nat.le_of_ble_eq_true rfl) (sp_X0_close hw1 (fun hw7 => ?_))
            refine aj_return dX7_doAtOnce_119 rfl ?_
            skip
            first | contradiction | with_reducible exact hQ hw7 | (simp (decide := true) only [rAtOnce, ↓reduceIte, sw_eq, sw_ne, ne_eq, Nat.reduceEqDiff, not_false_eq_true, Bool.false_eq_true, bi_t, bi_f, c7_2, c25_3, c43_4, c72_5, c94_6] at hQ; with_reducible exact hQ hw7) | (simp (decide := true) only [rAtOnce, ↓reduceIte, sw_eq, sw_ne, ne_eq, Nat.reduceEqDiff, not_false_eq_true, Bool.false_eq_true, bi_t, bi_f, c7_2, c25_3, c43_4, c72_5, c94_6] at hQ hw7 ⊢; with_reducible exact hQ hw7) | exact absurd (by assumption) (by decide : ¬ (1 : Int32) = 0)
          · refine aj_aload_n (q := 98) (i := 0) dX7_doAtOnce_97 rfl rfl rfl ?_
            refine aj_getR (q := 101) fl_X7_12 dX7_doAtOnce_98 rfl lR_0 rfl ?_
            refine aj_iload_n (q := 102) (i := 2) dX7_doAtOnce_101 rfl rfl rfl ?_
            refine aj_aload_n (q := 103) (i := 0) dX7_doAtOnce_102 rfl rfl rfl ?_
            refine aj_getR (q := 106) fl_X7_12 dX7_doAtOnce_103 rfl lR_0 rfl ?_
            refine aj_callV (q := 109) (As := []) cl_X7_88 mk_X4_result dX7_doAtOnce_106 rfl lR_1 rfl rfl (Nat.le_of_ble_eq_true rfl) (sp_X4_result ?_)
            refine aj_callV (q := 112) (As := [_, _]) cl_X7_116 mk_X4_write dX7_doAtOnce_109 rfl lR_1 rfl rfl (Nat.le_of_ble_eq_true rfl) (sp_X4_write hw1 (fun hw8 => ?_))
            refine aj_aload_n (q := 113) (i := 0) dX7_doAtOnce_112 rfl rfl rfl ?_
            refine aj_getR (q := 116) fl_X7_35 dX7_doAtOnce_113 rfl lR_0 rfl ?_
            refine aj_callV (q := 119) (As := []) cl_X7_181 mk_X0_close dX7_doAtOnce_116 rfl lR_11 rfl rfl (Nat.le_of_ble_eq_true rfl) (sp_X0_close hw8 (fun hw9 => ?_))
            refine aj_return dX7_doAtOnce_119 rfl ?_
            skip
            first | contradiction | with_reducible exact hQ hw9 | (simp (decide := true) only [rAtOnce, ↓reduceIte, sw_eq, sw_ne, ne_eq, Nat.reduceEqDiff, not_false_eq_true, Bool.false_eq_true, bi_t, bi_f, c7_2, c25_3, c43_4, c72_5, c94_6] at hQ; with_reducible exact hQ hw9) | (simp (decide := true) only [rAtOnce, ↓reduceIte, sw_eq, sw_ne, ne_eq, Nat.reduceEqDiff, not_false_eq_true, Bool.false_eq_true, bi_t, bi_f, c7_2, c25_3, c43_4, c72_5, c94_6] at hQ hw9 ⊢; with_reducible exact hQ hw9) | exact absurd (by assumption) (by decide : ¬ (1 : Int32) = 0)
        · refine aj_aload_n (q := 76) (i := 0) dX7_doAtOnce_75 rfl rfl rfl ?_
          refine aj_iconst (q := 77) (v := 5) dX7_doAtOnce_76 rfl (by decide) ?_
          refine aj_aload_n (q := 78) (i := 0) dX7_doAtOnce_77 rfl rfl rfl ?_
          refine aj_getR (q := 81) fl_X7_12 dX7_doAtOnce_78 rfl lR_0 rfl ?_
          refine aj_iload_n (q := 82) (i := 2) dX7_doAtOnce_81 rfl rfl rfl ?_
          refine aj_callV (q := 85) (As := [_]) cl_X7_144 mk_X4_read dX7_doAtOnce_82 rfl lR_1 rfl rfl (Nat.le_of_ble_eq_true rfl) (sp_X4_read ?_)
          refine aj_callV (q := 88) (As := [_, _]) cl_X7_215 mk_X7_raise dX7_doAtOnce_85 rfl lR_0 rfl rfl (Nat.le_of_ble_eq_true rfl) (sp_X7_raise hw1 (fun hw10 => ?_))
          refine aj_goto (tgt := 112) dX7_doAtOnce_88 (by decide) ?_
          refine aj_aload_n (q := 113) (i := 0) dX7_doAtOnce_112 rfl rfl rfl ?_
          refine aj_getR (q := 116) fl_X7_35 dX7_doAtOnce_113 rfl lR_0 rfl ?_
          refine aj_callV (q := 119) (As := []) cl_X7_181 mk_X0_close dX7_doAtOnce_116 rfl lR_11 rfl rfl (Nat.le_of_ble_eq_true rfl) (sp_X0_close hw10 (fun hw11 => ?_))
          refine aj_return dX7_doAtOnce_119 rfl ?_
          skip
          first | contradiction | with_reducible exact hQ hw11 | (simp (decide := true) only [rAtOnce, ↓reduceIte, sw_eq, sw_ne, ne_eq, Nat.reduceEqDiff, not_false_eq_true, Bool.false_eq_true, bi_t, bi_f, c7_2, c25_3, c43_4, c72_5] at hQ; with_reducible exact hQ hw11) | (simp (decide := true) only [rAtOnce, ↓reduceIte, sw_eq, sw_ne, ne_eq, Nat.reduceEqDiff, not_false_eq_true, Bool.false_eq_true, bi_t, bi_f, c7_2, c25_3, c43_4, c72_5] at hQ hw11 ⊢; with_reducible exact hQ hw11) | exact absurd (by assumption) (by decide : ¬ (1 : Int32) = 0)
      · refine aj_aload_n (q := 47) (i := 0) dX7_doAtOnce_46 rfl rfl rfl ?_
        refine aj_getR (q := 50) fl_X7_12 dX7_doAtOnce_47 rfl lR_0 rfl ?_
        refine aj_aload_n (q := 51) (i := 0) dX7_doAtOnce_50 rfl rfl rfl ?_
        refine aj_getR (q := 54) fl_X7_12 dX7_doAtOnce_51 rfl lR_0 rfl ?_
        refine aj_iload_n (q := 55) (i := 2) dX7_doAtOnce_54 rfl rfl rfl ?_
        refine aj_callV (q := 58) (As := [_]) cl_X7_144 mk_X4_read dX7_doAtOnce_55 rfl lR_1 rfl rfl (Nat.le_of_ble_eq_true rfl) (sp_X4_read ?_)
        refine aj_callV (q := 61) (As := [_]) cl_X7_238 mk_X4_setResult dX7_doAtOnce_58 rfl lR_1 rfl rfl (Nat.le_of_ble_eq_true rfl) (sp_X4_setResult hw1 (fun hw12 => ?_))
        refine aj_aload_n (q := 62) (i := 0) dX7_doAtOnce_61 rfl rfl rfl ?_
        refine aj_iconst (q := 63) (v := 1) dX7_doAtOnce_62 rfl (by decide) ?_
        refine aj_putIw (q := 66) (f := 8) hw12 rfl okR fp_X7_61 dX7_doAtOnce_63 rfl lR_0 rfl rfl (fun hw13 => ?_)
        refine aj_goto (tgt := 112) dX7_doAtOnce_66 (by decide) ?_
        refine aj_aload_n (q := 113) (i := 0) dX7_doAtOnce_112 rfl rfl rfl ?_
        refine aj_getR (q := 116) fl_X7_35 dX7_doAtOnce_113 rfl lR_0 rfl ?_
        refine aj_callV (q := 119) (As := []) cl_X7_181 mk_X0_close dX7_doAtOnce_116 rfl lR_11 rfl rfl (Nat.le_of_ble_eq_true rfl) (sp_X0_close hw13 (fun hw14 => ?_))
        refine aj_return dX7_doAtOnce_119 rfl ?_
        skip
        first | contradiction | with_reducible exact hQ hw14 | (simp (decide := true) only [rAtOnce, ↓reduceIte, sw_eq, sw_ne, ne_eq, Nat.reduceEqDiff, not_false_eq_true, Bool.false_eq_true, bi_t, bi_f, c7_2, c25_3, c43_4] at hQ; with_reducible exact hQ hw14) | (simp (decide := true) only [rAtOnce, ↓reduceIte, sw_eq, sw_ne, ne_eq, Nat.reduceEqDiff, not_false_eq_true, Bool.false_eq_true, bi_t, bi_f, c7_2, c25_3, c43_4] at hQ hw14 ⊢; with_reducible exact hQ hw14) | exact absurd (by assumption) (by decide : ¬ (1 : Int32) = 0)
    · refine aj_aload_n (q := 29) (i := 0) dX7_doAtOnce_28 rfl rfl rfl ?_
      refine aj_iload_n (q := 30) (i := 1) dX7_doAtOnce_29 rfl rfl rfl ?_
      refine aj_iload_n (q := 31) (i := 2) dX7_doAtOnce_30 rfl rfl rfl ?_
      refine aj_iload_n (q := 32) (i := 3) dX7_doAtOnce_31 rfl rfl rfl ?_
      refine aj_iload (q := 34) (i := 4) dX7_doAtOnce_32 rfl rfl ?_
      refine aj_callV (q := 37) (As := [_, _, _, _]) cl_X7_235 mk_X7_doWithRow dX7_doAtOnce_34 rfl lR_0 rfl rfl (Nat.le_of_ble_eq_true rfl) (sp_X7_doWithRow hw1 (fun hw15 => ?_))
      refine aj_goto (tgt := 112) dX7_doAtOnce_37 (by decide) ?_
      refine aj_aload_n (q := 113) (i := 0) dX7_doAtOnce_112 rfl rfl rfl ?_
      refine aj_getR (q := 116) fl_X7_35 dX7_doAtOnce_113 rfl lR_0 rfl ?_
      refine aj_callV (q := 119) (As := []) cl_X7_181 mk_X0_close dX7_doAtOnce_116 rfl lR_11 rfl rfl (Nat.le_of_ble_eq_true rfl) (sp_X0_close hw15 (fun hw16 => ?_))
      refine aj_return dX7_doAtOnce_119 rfl ?_
      skip
      first | contradiction | with_reducible exact hQ hw16 | (simp (decide := true) only [rAtOnce, ↓reduceIte, sw_eq, sw_ne, ne_eq, Nat.reduceEqDiff, not_false_eq_true, Bool.false_eq_true, bi_t, bi_f, c7_2, c25_3] at hQ; with_reducible exact hQ hw16) | (simp (decide := true) only [rAtOnce, ↓reduceIte, sw_eq, sw_ne, ne_eq, Nat.reduceEqDiff, not_false_eq_true, Bool.false_eq_true, bi_t, bi_f, c7_2, c25_3] at hQ hw16 ⊢; with_reducible exact hQ hw16) | exact absurd (by assumption) (by decide : ¬ (1 : Int32) = 0)
  · refine aj_aload_n (q := 11) (i := 0) dX7_doAtOnce_10 rfl rfl rfl ?_
    refine aj_iload_n (q := 12) (i := 1) dX7_doAtOnce_11 rfl rfl rfl ?_
    refine aj_iload_n (q := 13) (i := 2) dX7_doAtOnce_12 rfl rfl rfl ?_
    refine aj_iload_n (q := 14) (i := 3) dX7_doAtOnce_13 rfl rfl rfl ?_
    refine aj_iload (q := 16) (i := 4) dX7_doAtOnce_14 rfl rfl ?_
    refine aj_callV (q := 19) (As := [_, _, _, _]) cl_X7_232 mk_X7_calculate dX7_doAtOnce_16 rfl lR_0 rfl rfl (Nat.le_of_ble_eq_true rfl) (sp_X7_calculate hw1 (fun hw17 => ?_))
    refine aj_goto (tgt := 112) dX7_doAtOnce_19 (by decide) ?_
    refine aj_aload_n (q := 113) (i := 0) dX7_doAtOnce_112 rfl rfl rfl ?_
    refine aj_getR (q := 116) fl_X7_35 dX7_doAtOnce_113 rfl lR_0 rfl ?_
    refine aj_callV (q := 119) (As := []) cl_X7_181 mk_X0_close dX7_doAtOnce_116 rfl lR_11 rfl rfl (Nat.le_of_ble_eq_true rfl) (sp_X0_close hw17 (fun hw18 => ?_))
    refine aj_return dX7_doAtOnce_119 rfl ?_
    skip
    first | contradiction | with_reducible exact hQ hw18 | (simp (decide := true) only [rAtOnce, ↓reduceIte, sw_eq, sw_ne, ne_eq, Nat.reduceEqDiff, not_false_eq_true, Bool.false_eq_true, bi_t, bi_f, c7_2] at hQ; with_reducible exact hQ hw18) | (simp (decide := true) only [rAtOnce, ↓reduceIte, sw_eq, sw_ne, ne_eq, Nat.reduceEqDiff, not_false_eq_true, Bool.false_eq_true, bi_t, bi_f, c7_2] at hQ hw18 ⊢; with_reducible exact hQ hw18) | exact absurd (by assumption) (by decide : ¬ (1 : Int32) = 0)
set_option maxRecDepth 2000 in
theorem sp_X7_begin {d : Nat} {S : Sx} {Q : Option Value → Sx → Prop} {s : Int32} (hw : wfR S) (hQ : wfR (rBegin S s) → Q none (rBegin S s)) : CC (d + 5) kX7_begin layR [.ref 0, .int s] S Q := by
  refine cc_intro [some _, some _, none, none, none, none] (by decide) (cc_cat (by rfl)) (Nat.le_of_ble_eq_true rfl) (cc_ls (by rfl)) ?_
  refine aj_aload_n (q := 1) (i := 0) dX7_begin_0 rfl rfl rfl ?_
  refine aj_getR (q := 4) fl_X7_43 dX7_begin_1 rfl lR_0 rfl ?_
  refine aj_iload_n (q := 5) (i := 1) dX7_begin_4 rfl rfl rfl ?_
  refine aj_callV (q := 8) (As := [_]) cl_X7_127 mk_X5_firstOf dX7_begin_5 rfl lR_17 rfl rfl (Nat.le_of_ble_eq_true rfl) (sp_X5_firstOf hw ?_)
  refine aj_istore_n (q := 9) (i := 2) (ls' := [_, _, _, _, _, _]) dX7_begin_8 rfl rfl (by decide) rfl ?_
  refine aj_aload_n (q := 10) (i := 0) dX7_begin_9 rfl rfl rfl ?_
  refine aj_getR (q := 13) fl_X7_43 dX7_begin_10 rfl lR_0 rfl ?_
  refine aj_iload_n (q := 14) (i := 1) dX7_begin_13 rfl rfl rfl ?_
  refine aj_callV (q := 17) (As := [_]) cl_X7_132 mk_X5_secondOf dX7_begin_14 rfl lR_17 rfl rfl (Nat.le_of_ble_eq_true rfl) (sp_X5_secondOf hw ?_)
  refine aj_istore_n (q := 18) (i := 3) (ls' := [_, _, _, _, _, _]) dX7_begin_17 rfl rfl (by decide) rfl ?_
  refine aj_aload_n (q := 19) (i := 0) dX7_begin_18 rfl rfl rfl ?_
  refine aj_getR (q := 22) fl_X7_43 dX7_begin_19 rfl lR_0 rfl ?_
  refine aj_iload_n (q := 23) (i := 1) dX7_begin_22 rfl rfl rfl ?_
  refine aj_callV (q := 26) (As := [_]) cl_X7_135 mk_X5_thirdOf dX7_begin_23 rfl lR_17 rfl rfl (Nat.le_of_ble_eq_true rfl) (sp_X5_thirdOf hw ?_)
  refine aj_istore (q := 28) (i := 4) (ls' := [_, _, _, _, _, _]) dX7_begin_26 rfl (by decide) rfl ?_
  refine aj_aload_n (q := 29) (i := 0) dX7_begin_28 rfl rfl rfl ?_
  refine aj_getR (q := 32) fl_X7_43 dX7_begin_29 rfl lR_0 rfl ?_
  refine aj_iload_n (q := 33) (i := 1) dX7_begin_32 rfl rfl rfl ?_
  refine aj_callV (q := 36) (As := [_]) cl_X7_138 mk_X5_sortOf dX7_begin_33 rfl lR_17 rfl rfl (Nat.le_of_ble_eq_true rfl) (sp_X5_sortOf hw ?_)
  refine aj_istore (q := 38) (i := 5) (ls' := [_, _, _, _, _, _]) dX7_begin_36 rfl (by decide) rfl ?_
  refine aj_iload (q := 40) (i := 5) dX7_begin_38 rfl rfl ?_
  refine aj_tsn (fun x1 ex1 => ?_)
  by_cases e1_12 : x1 = 12
  · refine aj_tsIn (tgt := 92) (off := 52) dX7_begin_40 (by rw [e1_12]; decide) (by rw [e1_12]; decide) (by rw [e1_12]; rfl) (by decide) ?_
    refine aj_aload_n (q := 93) (i := 0) dX7_begin_92 rfl rfl rfl ?_
    refine aj_iconst (q := 94) (v := 1) dX7_begin_93 rfl (by decide) ?_
    refine aj_iload_n (q := 95) (i := 2) dX7_begin_94 rfl rfl rfl ?_
    refine aj_callV (q := 98) (As := [_, _]) cl_X7_141 mk_X7_doPart dX7_begin_95 rfl lR_0 rfl rfl (Nat.le_of_ble_eq_true rfl) (sp_X7_doPart hw (fun hw2 => ?_))
    refine aj_goto (tgt := 175) dX7_begin_98 (by decide) ?_
    refine aj_return dX7_begin_175 rfl ?_
    skip; subst ex1
    first | contradiction | with_reducible exact hQ hw2 | (simp (decide := true) only [rBegin, ↓reduceIte, sw_eq, sw_ne, ne_eq, Nat.reduceEqDiff, not_false_eq_true, Bool.false_eq_true, bi_t, bi_f, e1_12] at hQ; with_reducible exact hQ hw2) | (simp (decide := true) only [rBegin, ↓reduceIte, sw_eq, sw_ne, ne_eq, Nat.reduceEqDiff, not_false_eq_true, Bool.false_eq_true, bi_t, bi_f, e1_12] at hQ hw2 ⊢; with_reducible exact hQ hw2) | exact absurd (by assumption) (by decide : ¬ (1 : Int32) = 0)
  by_cases e1_13 : x1 = 13
  · refine aj_tsIn (tgt := 101) (off := 61) dX7_begin_40 (by rw [e1_13]; decide) (by rw [e1_13]; decide) (by rw [e1_13]; rfl) (by decide) ?_
    refine aj_aload_n (q := 102) (i := 0) dX7_begin_101 rfl rfl rfl ?_
    refine aj_iconst (q := 103) (v := 1) dX7_begin_102 rfl (by decide) ?_
    refine aj_aload_n (q := 104) (i := 0) dX7_begin_103 rfl rfl rfl ?_
    refine aj_getR (q := 107) fl_X7_12 dX7_begin_104 rfl lR_0 rfl ?_
    refine aj_iload_n (q := 108) (i := 2) dX7_begin_107 rfl rfl rfl ?_
    refine aj_callV (q := 111) (As := [_]) cl_X7_144 mk_X4_read dX7_begin_108 rfl lR_1 rfl rfl (Nat.le_of_ble_eq_true rfl) (sp_X4_read ?_)
    refine aj_if_eq (q := 114) (tgt := 118) dX7_begin_111 rfl (by decide) (fun c111_3 => ?_) (fun c111_3 => ?_)
    · refine aj_iload (q := 120) (i := 4) dX7_begin_118 rfl rfl ?_
      refine aj_callV (q := 123) (As := [_, _]) cl_X7_141 mk_X7_doPart dX7_begin_120 rfl lR_0 rfl rfl (Nat.le_of_ble_eq_true rfl) (sp_X7_doPart hw (fun hw4 => ?_))
      refine aj_goto (tgt := 175) dX7_begin_123 (by decide) ?_
      refine aj_return dX7_begin_175 rfl ?_
      skip; subst ex1
      first | contradiction | with_reducible exact hQ hw4 | (simp (decide := true) only [rBegin, ↓reduceIte, sw_eq, sw_ne, ne_eq, Nat.reduceEqDiff, not_false_eq_true, Bool.false_eq_true, bi_t, bi_f, e1_13, c111_3] at hQ; with_reducible exact hQ hw4) | (simp (decide := true) only [rBegin, ↓reduceIte, sw_eq, sw_ne, ne_eq, Nat.reduceEqDiff, not_false_eq_true, Bool.false_eq_true, bi_t, bi_f, e1_13, c111_3] at hQ hw4 ⊢; with_reducible exact hQ hw4) | exact absurd (by assumption) (by decide : ¬ (1 : Int32) = 0)
    · refine aj_iload_n (q := 115) (i := 3) dX7_begin_114 rfl rfl rfl ?_
      refine aj_goto (tgt := 120) dX7_begin_115 (by decide) ?_
      refine aj_callV (q := 123) (As := [_, _]) cl_X7_141 mk_X7_doPart dX7_begin_120 rfl lR_0 rfl rfl (Nat.le_of_ble_eq_true rfl) (sp_X7_doPart hw (fun hw5 => ?_))
      refine aj_goto (tgt := 175) dX7_begin_123 (by decide) ?_
      refine aj_return dX7_begin_175 rfl ?_
      skip; subst ex1
      first | contradiction | with_reducible exact hQ hw5 | (simp (decide := true) only [rBegin, ↓reduceIte, sw_eq, sw_ne, ne_eq, Nat.reduceEqDiff, not_false_eq_true, Bool.false_eq_true, bi_t, bi_f, e1_13, c111_3] at hQ; with_reducible exact hQ hw5) | (simp (decide := true) only [rBegin, ↓reduceIte, sw_eq, sw_ne, ne_eq, Nat.reduceEqDiff, not_false_eq_true, Bool.false_eq_true, bi_t, bi_f, e1_13, c111_3] at hQ hw5 ⊢; with_reducible exact hQ hw5) | exact absurd (by assumption) (by decide : ¬ (1 : Int32) = 0)
  by_cases e1_14 : x1 = 14
  · refine aj_tsIn (tgt := 126) (off := 86) dX7_begin_40 (by rw [e1_14]; decide) (by rw [e1_14]; decide) (by rw [e1_14]; rfl) (by decide) ?_
    refine aj_aload_n (q := 127) (i := 0) dX7_begin_126 rfl rfl rfl ?_
    refine aj_iconst (q := 128) (v := 0) dX7_begin_127 rfl (by decide) ?_
    refine aj_putIw (q := 131) (f := 8) hw rfl okR fp_X7_61 dX7_begin_128 rfl lR_0 rfl rfl (fun hw6 => ?_)
    refine aj_aload_n (q := 132) (i := 0) dX7_begin_131 rfl rfl rfl ?_
    refine aj_iload_n (q := 133) (i := 2) dX7_begin_132 rfl rfl rfl ?_
    refine aj_iload_n (q := 134) (i := 3) dX7_begin_133 rfl rfl rfl ?_
    refine aj_callV (q := 137) (As := [_, _]) cl_X7_147 mk_X7_loopOrEnd dX7_begin_134 rfl lR_0 rfl rfl (Nat.le_of_ble_eq_true rfl) (sp_X7_loopOrEnd hw6 (fun hw7 => ?_))
    refine aj_goto (tgt := 175) dX7_begin_137 (by decide) ?_
    refine aj_return dX7_begin_175 rfl ?_
    skip; subst ex1
    first | contradiction | with_reducible exact hQ hw7 | (simp (decide := true) only [rBegin, ↓reduceIte, sw_eq, sw_ne, ne_eq, Nat.reduceEqDiff, not_false_eq_true, Bool.false_eq_true, bi_t, bi_f, e1_14] at hQ; with_reducible exact hQ hw7) | (simp (decide := true) only [rBegin, ↓reduceIte, sw_eq, sw_ne, ne_eq, Nat.reduceEqDiff, not_false_eq_true, Bool.false_eq_true, bi_t, bi_f, e1_14] at hQ hw7 ⊢; with_reducible exact hQ hw7) | exact absurd (by assumption) (by decide : ¬ (1 : Int32) = 0)
  by_cases e1_15 : x1 = 15
  · refine aj_tsIn (tgt := 140) (off := 100) dX7_begin_40 (by rw [e1_15]; decide) (by rw [e1_15]; decide) (by rw [e1_15]; rfl) (by decide) ?_
    refine aj_aload_n (q := 141) (i := 0) dX7_begin_140 rfl rfl rfl ?_
    refine aj_iload_n (q := 142) (i := 2) dX7_begin_141 rfl rfl rfl ?_
    refine aj_callV (q := 145) (As := [_]) cl_X7_150 mk_X7_call dX7_begin_142 rfl lR_0 rfl rfl (Nat.le_of_ble_eq_true rfl) (sp_X7_call hw (fun hw8 => ?_))
    refine aj_goto (tgt := 175) dX7_begin_145 (by decide) ?_
    refine aj_return dX7_begin_175 rfl ?_
    skip; subst ex1
    first | contradiction | with_reducible exact hQ hw8 | (simp (decide := true) only [rBegin, ↓reduceIte, sw_eq, sw_ne, ne_eq, Nat.reduceEqDiff, not_false_eq_true, Bool.false_eq_true, bi_t, bi_f, e1_15] at hQ; with_reducible exact hQ hw8) | (simp (decide := true) only [rBegin, ↓reduceIte, sw_eq, sw_ne, ne_eq, Nat.reduceEqDiff, not_false_eq_true, Bool.false_eq_true, bi_t, bi_f, e1_15] at hQ hw8 ⊢; with_reducible exact hQ hw8) | exact absurd (by assumption) (by decide : ¬ (1 : Int32) = 0)
  by_cases e1_18 : x1 = 18
  · refine aj_tsIn (tgt := 92) (off := 52) dX7_begin_40 (by rw [e1_18]; decide) (by rw [e1_18]; decide) (by rw [e1_18]; rfl) (by decide) ?_
    refine aj_aload_n (q := 93) (i := 0) dX7_begin_92 rfl rfl rfl ?_
    refine aj_iconst (q := 94) (v := 1) dX7_begin_93 rfl (by decide) ?_
    refine aj_iload_n (q := 95) (i := 2) dX7_begin_94 rfl rfl rfl ?_
    refine aj_callV (q := 98) (As := [_, _]) cl_X7_141 mk_X7_doPart dX7_begin_95 rfl lR_0 rfl rfl (Nat.le_of_ble_eq_true rfl) (sp_X7_doPart hw (fun hw9 => ?_))
    refine aj_goto (tgt := 175) dX7_begin_98 (by decide) ?_
    refine aj_return dX7_begin_175 rfl ?_
    skip; subst ex1
    first | contradiction | with_reducible exact hQ hw9 | (simp (decide := true) only [rBegin, ↓reduceIte, sw_eq, sw_ne, ne_eq, Nat.reduceEqDiff, not_false_eq_true, Bool.false_eq_true, bi_t, bi_f, e1_18] at hQ; with_reducible exact hQ hw9) | (simp (decide := true) only [rBegin, ↓reduceIte, sw_eq, sw_ne, ne_eq, Nat.reduceEqDiff, not_false_eq_true, Bool.false_eq_true, bi_t, bi_f, e1_18] at hQ hw9 ⊢; with_reducible exact hQ hw9) | exact absurd (by assumption) (by decide : ¬ (1 : Int32) = 0)
  by_cases e1_19 : x1 = 19
  · refine aj_tsIn (tgt := 92) (off := 52) dX7_begin_40 (by rw [e1_19]; decide) (by rw [e1_19]; decide) (by rw [e1_19]; rfl) (by decide) ?_
    refine aj_aload_n (q := 93) (i := 0) dX7_begin_92 rfl rfl rfl ?_
    refine aj_iconst (q := 94) (v := 1) dX7_begin_93 rfl (by decide) ?_
    refine aj_iload_n (q := 95) (i := 2) dX7_begin_94 rfl rfl rfl ?_
    refine aj_callV (q := 98) (As := [_, _]) cl_X7_141 mk_X7_doPart dX7_begin_95 rfl lR_0 rfl rfl (Nat.le_of_ble_eq_true rfl) (sp_X7_doPart hw (fun hw10 => ?_))
    refine aj_goto (tgt := 175) dX7_begin_98 (by decide) ?_
    refine aj_return dX7_begin_175 rfl ?_
    skip; subst ex1
    first | contradiction | with_reducible exact hQ hw10 | (simp (decide := true) only [rBegin, ↓reduceIte, sw_eq, sw_ne, ne_eq, Nat.reduceEqDiff, not_false_eq_true, Bool.false_eq_true, bi_t, bi_f, e1_19] at hQ; with_reducible exact hQ hw10) | (simp (decide := true) only [rBegin, ↓reduceIte, sw_eq, sw_ne, ne_eq, Nat.reduceEqDiff, not_false_eq_true, Bool.false_eq_true, bi_t, bi_f, e1_19] at hQ hw10 ⊢; with_reducible exact hQ hw10) | exact absurd (by assumption) (by decide : ¬ (1 : Int32) = 0)
  by_cases e1_20 : x1 = 20
  · refine aj_tsIn (tgt := 148) (off := 108) dX7_begin_40 (by rw [e1_20]; decide) (by rw [e1_20]; decide) (by rw [e1_20]; rfl) (by decide) ?_
    refine aj_aload_n (q := 149) (i := 0) dX7_begin_148 rfl rfl rfl ?_
    refine aj_getR (q := 152) fl_X7_28 dX7_begin_149 rfl lR_0 rfl ?_
    refine aj_iload_n (q := 153) (i := 2) dX7_begin_152 rfl rfl rfl ?_
    refine aj_callV (q := 156) (As := [_]) cl_X7_153 mk_X2_take dX7_begin_153 rfl lR_9 rfl rfl (Nat.le_of_ble_eq_true rfl) (sp_X2_take hw (fun hw11 => ?_))
    refine aj_aload_n (q := 157) (i := 0) dX7_begin_156 rfl rfl rfl ?_
    refine aj_iconst (q := 158) (v := 1) dX7_begin_157 rfl (by decide) ?_
    refine aj_iload_n (q := 159) (i := 3) dX7_begin_158 rfl rfl rfl ?_
    refine aj_callV (q := 162) (As := [_, _]) cl_X7_141 mk_X7_doPart dX7_begin_159 rfl lR_0 rfl rfl (Nat.le_of_ble_eq_true rfl) (sp_X7_doPart hw11 (fun hw12 => ?_))
    refine aj_goto (tgt := 175) dX7_begin_162 (by decide) ?_
    refine aj_return dX7_begin_175 rfl ?_
    skip; subst ex1
    first | contradiction | with_reducible exact hQ hw12 | (simp (decide := true) only [rBegin, ↓reduceIte, sw_eq, sw_ne, ne_eq, Nat.reduceEqDiff, not_false_eq_true, Bool.false_eq_true, bi_t, bi_f, e1_20] at hQ; with_reducible exact hQ hw12) | (simp (decide := true) only [rBegin, ↓reduceIte, sw_eq, sw_ne, ne_eq, Nat.reduceEqDiff, not_false_eq_true, Bool.false_eq_true, bi_t, bi_f, e1_20] at hQ hw12 ⊢; with_reducible exact hQ hw12) | exact absurd (by assumption) (by decide : ¬ (1 : Int32) = 0)
  by_cases e1_16 : x1 = 16
  · refine aj_tsIn (tgt := 165) (off := 125) dX7_begin_40 (by rw [e1_16]; decide) (by rw [e1_16]; decide) (by rw [e1_16]; rfl) (by decide) ?_
    refine aj_aload_n (q := 166) (i := 0) dX7_begin_165 rfl rfl rfl ?_
    refine aj_iload (q := 168) (i := 5) dX7_begin_166 rfl rfl ?_
    refine aj_iload_n (q := 169) (i := 2) dX7_begin_168 rfl rfl rfl ?_
    refine aj_iload_n (q := 170) (i := 3) dX7_begin_169 rfl rfl rfl ?_
    refine aj_iload (q := 172) (i := 4) dX7_begin_170 rfl rfl ?_
    refine aj_callV (q := 175) (As := [_, _, _, _]) cl_X7_156 mk_X7_doAtOnce dX7_begin_172 rfl lR_0 rfl rfl (Nat.le_of_ble_eq_true rfl) (sp_X7_doAtOnce hw (fun hw13 => ?_))
    refine aj_return dX7_begin_175 rfl ?_
    skip; subst ex1
    first | contradiction | with_reducible exact hQ hw13 | (simp (decide := true) only [rBegin, ↓reduceIte, sw_eq, sw_ne, ne_eq, Nat.reduceEqDiff, not_false_eq_true, Bool.false_eq_true, bi_t, bi_f, e1_16] at hQ; with_reducible exact hQ hw13) | (simp (decide := true) only [rBegin, ↓reduceIte, sw_eq, sw_ne, ne_eq, Nat.reduceEqDiff, not_false_eq_true, Bool.false_eq_true, bi_t, bi_f, e1_16] at hQ hw13 ⊢; with_reducible exact hQ hw13) | exact absurd (by assumption) (by decide : ¬ (1 : Int32) = 0)
  by_cases e1_17 : x1 = 17
  · refine aj_tsIn (tgt := 165) (off := 125) dX7_begin_40 (by rw [e1_17]; decide) (by rw [e1_17]; decide) (by rw [e1_17]; rfl) (by decide) ?_
    refine aj_aload_n (q := 166) (i := 0) dX7_begin_165 rfl rfl rfl ?_
    refine aj_iload (q := 168) (i := 5) dX7_begin_166 rfl rfl ?_
    refine aj_iload_n (q := 169) (i := 2) dX7_begin_168 rfl rfl rfl ?_
    refine aj_iload_n (q := 170) (i := 3) dX7_begin_169 rfl rfl rfl ?_
    refine aj_iload (q := 172) (i := 4) dX7_begin_170 rfl rfl ?_
    refine aj_callV (q := 175) (As := [_, _, _, _]) cl_X7_156 mk_X7_doAtOnce dX7_begin_172 rfl lR_0 rfl rfl (Nat.le_of_ble_eq_true rfl) (sp_X7_doAtOnce hw (fun hw14 => ?_))
    refine aj_return dX7_begin_175 rfl ?_
    skip; subst ex1
    first | contradiction | with_reducible exact hQ hw14 | (simp (decide := true) only [rBegin, ↓reduceIte, sw_eq, sw_ne, ne_eq, Nat.reduceEqDiff, not_false_eq_true, Bool.false_eq_true, bi_t, bi_f, e1_17] at hQ; with_reducible exact hQ hw14) | (simp (decide := true) only [rBegin, ↓reduceIte, sw_eq, sw_ne, ne_eq, Nat.reduceEqDiff, not_false_eq_true, Bool.false_eq_true, bi_t, bi_f, e1_17] at hQ hw14 ⊢; with_reducible exact hQ hw14) | exact absurd (by assumption) (by decide : ¬ (1 : Int32) = 0)
  refine aj_tsOut (tgt := 165) dX7_begin_40 (by have := And.intro trivial trivial; have z0 := lv_neT (a := 12) e1_12 rfl; have z1 := lv_neT (a := 13) e1_13 rfl; have z2 := lv_neT (a := 14) e1_14 rfl; have z3 := lv_neT (a := 15) e1_15 rfl; have z4 := lv_neT (a := 16) e1_16 rfl; have z5 := lv_neT (a := 17) e1_17 rfl; have z6 := lv_neT (a := 18) e1_18 rfl; have z7 := lv_neT (a := 19) e1_19 rfl; have z8 := lv_neT (a := 20) e1_20 rfl; omega) (by decide) ?_
  refine aj_aload_n (q := 166) (i := 0) dX7_begin_165 rfl rfl rfl ?_
  refine aj_iload (q := 168) (i := 5) dX7_begin_166 rfl rfl ?_
  refine aj_iload_n (q := 169) (i := 2) dX7_begin_168 rfl rfl rfl ?_
  refine aj_iload_n (q := 170) (i := 3) dX7_begin_169 rfl rfl rfl ?_
  refine aj_iload (q := 172) (i := 4) dX7_begin_170 rfl rfl ?_
  refine aj_callV (q := 175) (As := [_, _, _, _]) cl_X7_156 mk_X7_doAtOnce dX7_begin_172 rfl lR_0 rfl rfl (Nat.le_of_ble_eq_true rfl) (sp_X7_doAtOnce hw (fun hw15 => ?_))
  refine aj_return dX7_begin_175 rfl ?_
  skip; subst ex1
  first | contradiction | with_reducible exact hQ hw15 | (simp (decide := true) only [rBegin, ↓reduceIte, sw_eq, sw_ne, ne_eq, Nat.reduceEqDiff, not_false_eq_true, Bool.false_eq_true, bi_t, bi_f, e1_12, e1_13, e1_14, e1_15, e1_16, e1_17, e1_18, e1_19, e1_20] at hQ; with_reducible exact hQ hw15) | (simp (decide := true) only [rBegin, ↓reduceIte, sw_eq, sw_ne, ne_eq, Nat.reduceEqDiff, not_false_eq_true, Bool.false_eq_true, bi_t, bi_f, e1_12, e1_13, e1_14, e1_15, e1_16, e1_17, e1_18, e1_19, e1_20] at hQ hw15 ⊢; with_reducible exact hQ hw15) | exact absurd (by assumption) (by decide : ¬ (1 : Int32) = 0)
set_option maxRecDepth 2000 in
theorem sp_X7_goOnWithBoth {d : Nat} {S : Sx} {Q : Option Value → Sx → Prop} {s : Int32} (hw : wfR S) (hQ : wfR (rBoth S s) → Q none (rBoth S s)) : CC (d + 3) kX7_goOnWithBoth layR [.ref 0, .int s] S Q := by
  refine cc_intro [some _, some _] (by decide) (cc_cat (by rfl)) (Nat.le_of_ble_eq_true rfl) (cc_ls (by rfl)) ?_
  refine aj_aload_n (q := 1) (i := 0) dX7_goOnWithBoth_0 rfl rfl rfl ?_
  refine aj_getR (q := 4) fl_X7_35 dX7_goOnWithBoth_1 rfl lR_0 rfl ?_
  refine aj_callV (q := 7) (As := []) cl_X7_73 mk_X0_stage dX7_goOnWithBoth_4 rfl lR_11 rfl rfl (Nat.le_of_ble_eq_true rfl) (sp_X0_stage hw ?_)
  refine aj_iconst (q := 8) (v := 1) dX7_goOnWithBoth_7 rfl (by decide) ?_
  refine aj_icmp_ne (q := 11) (tgt := 34) dX7_goOnWithBoth_8 rfl (by decide) (fun c8_1 => ?_) (fun c8_1 => ?_)
  · refine aj_aload_n (q := 35) (i := 0) dX7_goOnWithBoth_34 rfl rfl rfl ?_
    refine aj_getR (q := 38) fl_X7_35 dX7_goOnWithBoth_35 rfl lR_0 rfl ?_
    refine aj_callV (q := 41) (As := []) cl_X7_181 mk_X0_close dX7_goOnWithBoth_38 rfl lR_11 rfl rfl (Nat.le_of_ble_eq_true rfl) (sp_X0_close hw (fun hw2 => ?_))
    refine aj_return dX7_goOnWithBoth_41 rfl ?_
    skip
    first | contradiction | with_reducible exact hQ hw2 | (simp (decide := true) only [rBoth, ↓reduceIte, sw_eq, sw_ne, ne_eq, Nat.reduceEqDiff, not_false_eq_true, Bool.false_eq_true, bi_t, bi_f, c8_1] at hQ; with_reducible exact hQ hw2) | (simp (decide := true) only [rBoth, ↓reduceIte, sw_eq, sw_ne, ne_eq, Nat.reduceEqDiff, not_false_eq_true, Bool.false_eq_true, bi_t, bi_f, c8_1] at hQ hw2 ⊢; with_reducible exact hQ hw2) | exact absurd (by assumption) (by decide : ¬ (1 : Int32) = 0)
  · refine aj_aload_n (q := 12) (i := 0) dX7_goOnWithBoth_11 rfl rfl rfl ?_
    refine aj_getI (q := 15) (f := 8) fl_X7_61 dX7_goOnWithBoth_12 rfl lR_0 rfl rfl ?_
    try simp only [sw_eq, sw_ne, ne_eq, Nat.reduceEqDiff, not_false_eq_true]
    refine aj_if_ne (q := 18) (tgt := 34) dX7_goOnWithBoth_15 rfl (by decide) (fun c15_3 => ?_) (fun c15_3 => ?_)
    · refine aj_aload_n (q := 35) (i := 0) dX7_goOnWithBoth_34 rfl rfl rfl ?_
      refine aj_getR (q := 38) fl_X7_35 dX7_goOnWithBoth_35 rfl lR_0 rfl ?_
      refine aj_callV (q := 41) (As := []) cl_X7_181 mk_X0_close dX7_goOnWithBoth_38 rfl lR_11 rfl rfl (Nat.le_of_ble_eq_true rfl) (sp_X0_close hw (fun hw4 => ?_))
      refine aj_return dX7_goOnWithBoth_41 rfl ?_
      skip
      first | contradiction | with_reducible exact hQ hw4 | (simp (decide := true) only [rBoth, ↓reduceIte, sw_eq, sw_ne, ne_eq, Nat.reduceEqDiff, not_false_eq_true, Bool.false_eq_true, bi_t, bi_f, c8_1, c15_3] at hQ; with_reducible exact hQ hw4) | (simp (decide := true) only [rBoth, ↓reduceIte, sw_eq, sw_ne, ne_eq, Nat.reduceEqDiff, not_false_eq_true, Bool.false_eq_true, bi_t, bi_f, c8_1, c15_3] at hQ hw4 ⊢; with_reducible exact hQ hw4) | exact absurd (by assumption) (by decide : ¬ (1 : Int32) = 0)
    · refine aj_aload_n (q := 19) (i := 0) dX7_goOnWithBoth_18 rfl rfl rfl ?_
      refine aj_iconst (q := 20) (v := 2) dX7_goOnWithBoth_19 rfl (by decide) ?_
      refine aj_aload_n (q := 21) (i := 0) dX7_goOnWithBoth_20 rfl rfl rfl ?_
      refine aj_getR (q := 24) fl_X7_43 dX7_goOnWithBoth_21 rfl lR_0 rfl ?_
      refine aj_iload_n (q := 25) (i := 1) dX7_goOnWithBoth_24 rfl rfl rfl ?_
      refine aj_callV (q := 28) (As := [_]) cl_X7_132 mk_X5_secondOf dX7_goOnWithBoth_25 rfl lR_17 rfl rfl (Nat.le_of_ble_eq_true rfl) (sp_X5_secondOf hw ?_)
      refine aj_callV (q := 31) (As := [_, _]) cl_X7_141 mk_X7_doPart dX7_goOnWithBoth_28 rfl lR_0 rfl rfl (Nat.le_of_ble_eq_true rfl) (sp_X7_doPart hw (fun hw5 => ?_))
      refine aj_goto (tgt := 41) dX7_goOnWithBoth_31 (by decide) ?_
      refine aj_return dX7_goOnWithBoth_41 rfl ?_
      skip
      first | contradiction | with_reducible exact hQ hw5 | (simp (decide := true) only [rBoth, ↓reduceIte, sw_eq, sw_ne, ne_eq, Nat.reduceEqDiff, not_false_eq_true, Bool.false_eq_true, bi_t, bi_f, c8_1, c15_3] at hQ; with_reducible exact hQ hw5) | (simp (decide := true) only [rBoth, ↓reduceIte, sw_eq, sw_ne, ne_eq, Nat.reduceEqDiff, not_false_eq_true, Bool.false_eq_true, bi_t, bi_f, c8_1, c15_3] at hQ hw5 ⊢; with_reducible exact hQ hw5) | exact absurd (by assumption) (by decide : ¬ (1 : Int32) = 0)
set_option maxRecDepth 2000 in
theorem sp_X7_goOnWithLoop {d : Nat} {S : Sx} {Q : Option Value → Sx → Prop} {s : Int32} (hw : wfR S) (hQ : wfR (rLoop S s) → Q none (rLoop S s)) : CC (d + 3) kX7_goOnWithLoop layR [.ref 0, .int s] S Q := by
  refine cc_intro [some _, some _] (by decide) (cc_cat (by rfl)) (Nat.le_of_ble_eq_true rfl) (cc_ls (by rfl)) ?_
  refine aj_aload_n (q := 1) (i := 0) dX7_goOnWithLoop_0 rfl rfl rfl ?_
  refine aj_getI (q := 4) (f := 8) fl_X7_61 dX7_goOnWithLoop_1 rfl lR_0 rfl rfl ?_
  try simp only [sw_eq, sw_ne, ne_eq, Nat.reduceEqDiff, not_false_eq_true]
  refine aj_if_eq (q := 7) (tgt := 17) dX7_goOnWithLoop_4 rfl (by decide) (fun c4_1 => ?_) (fun c4_1 => ?_)
  · refine aj_aload_n (q := 18) (i := 0) dX7_goOnWithLoop_17 rfl rfl rfl ?_
    refine aj_getR (q := 21) fl_X7_21 dX7_goOnWithLoop_18 rfl lR_0 rfl ?_
    refine aj_iconst (q := 22) (v := 0) dX7_goOnWithLoop_21 rfl (by decide) ?_
    refine aj_iconst (q := 23) (v := 1) dX7_goOnWithLoop_22 rfl (by decide) ?_
    refine aj_callV (q := 26) (As := [_, _]) cl_X7_53 mk_X6_pays dX7_goOnWithLoop_23 rfl lR_6 rfl rfl (Nat.le_of_ble_eq_true rfl) (sp_X6_pays hw (fun hw2 => ?_))
    refine aj_ifB_eq (q := 29) (tgt := 52) dX7_goOnWithLoop_26 rfl (by decide) (fun c26_3 => ?_) (fun c26_3 => ?_)
    · refine aj_aload_n (q := 53) (i := 0) dX7_goOnWithLoop_52 rfl rfl rfl ?_
      refine aj_iconst (q := 54) (v := 3) dX7_goOnWithLoop_53 rfl (by decide) ?_
      refine aj_callV (q := 57) (As := [_]) cl_X7_166 mk_X7_end dX7_goOnWithLoop_54 rfl lR_0 rfl rfl (Nat.le_of_ble_eq_true rfl) (sp_X7_end hw2 (fun hw4 => ?_))
      refine aj_return dX7_goOnWithLoop_57 rfl ?_
      skip
      first | contradiction | with_reducible exact hQ hw4 | (simp (decide := true) only [rLoop, ↓reduceIte, sw_eq, sw_ne, ne_eq, Nat.reduceEqDiff, not_false_eq_true, Bool.false_eq_true, bi_t, bi_f, c4_1, c26_3] at hQ; with_reducible exact hQ hw4) | (simp (decide := true) only [rLoop, ↓reduceIte, sw_eq, sw_ne, ne_eq, Nat.reduceEqDiff, not_false_eq_true, Bool.false_eq_true, bi_t, bi_f, c4_1, c26_3] at hQ hw4 ⊢; with_reducible exact hQ hw4) | exact absurd (by assumption) (by decide : ¬ (1 : Int32) = 0)
    · refine aj_aload_n (q := 30) (i := 0) dX7_goOnWithLoop_29 rfl rfl rfl ?_
      refine aj_aload_n (q := 31) (i := 0) dX7_goOnWithLoop_30 rfl rfl rfl ?_
      refine aj_getR (q := 34) fl_X7_43 dX7_goOnWithLoop_31 rfl lR_0 rfl ?_
      refine aj_iload_n (q := 35) (i := 1) dX7_goOnWithLoop_34 rfl rfl rfl ?_
      refine aj_callV (q := 38) (As := [_]) cl_X7_127 mk_X5_firstOf dX7_goOnWithLoop_35 rfl lR_17 rfl rfl (Nat.le_of_ble_eq_true rfl) (sp_X5_firstOf hw2 ?_)
      refine aj_aload_n (q := 39) (i := 0) dX7_goOnWithLoop_38 rfl rfl rfl ?_
      refine aj_getR (q := 42) fl_X7_43 dX7_goOnWithLoop_39 rfl lR_0 rfl ?_
      refine aj_iload_n (q := 43) (i := 1) dX7_goOnWithLoop_42 rfl rfl rfl ?_
      refine aj_callV (q := 46) (As := [_]) cl_X7_132 mk_X5_secondOf dX7_goOnWithLoop_43 rfl lR_17 rfl rfl (Nat.le_of_ble_eq_true rfl) (sp_X5_secondOf hw2 ?_)
      refine aj_callV (q := 49) (As := [_, _]) cl_X7_147 mk_X7_loopOrEnd dX7_goOnWithLoop_46 rfl lR_0 rfl rfl (Nat.le_of_ble_eq_true rfl) (sp_X7_loopOrEnd hw2 (fun hw5 => ?_))
      refine aj_goto (tgt := 57) dX7_goOnWithLoop_49 (by decide) ?_
      refine aj_return dX7_goOnWithLoop_57 rfl ?_
      skip
      first | contradiction | with_reducible exact hQ hw5 | (simp (decide := true) only [rLoop, ↓reduceIte, sw_eq, sw_ne, ne_eq, Nat.reduceEqDiff, not_false_eq_true, Bool.false_eq_true, bi_t, bi_f, c4_1, c26_3] at hQ; with_reducible exact hQ hw5) | (simp (decide := true) only [rLoop, ↓reduceIte, sw_eq, sw_ne, ne_eq, Nat.reduceEqDiff, not_false_eq_true, Bool.false_eq_true, bi_t, bi_f, c4_1, c26_3] at hQ hw5 ⊢; with_reducible exact hQ hw5) | exact absurd (by assumption) (by decide : ¬ (1 : Int32) = 0)
  · refine aj_aload_n (q := 8) (i := 0) dX7_goOnWithLoop_7 rfl rfl rfl ?_
    refine aj_getR (q := 11) fl_X7_35 dX7_goOnWithLoop_8 rfl lR_0 rfl ?_
    refine aj_callV (q := 14) (As := []) cl_X7_181 mk_X0_close dX7_goOnWithLoop_11 rfl lR_11 rfl rfl (Nat.le_of_ble_eq_true rfl) (sp_X0_close hw (fun hw6 => ?_))
    refine aj_goto (tgt := 57) dX7_goOnWithLoop_14 (by decide) ?_
    refine aj_return dX7_goOnWithLoop_57 rfl ?_
    skip
    first | contradiction | with_reducible exact hQ hw6 | (simp (decide := true) only [rLoop, ↓reduceIte, sw_eq, sw_ne, ne_eq, Nat.reduceEqDiff, not_false_eq_true, Bool.false_eq_true, bi_t, bi_f, c4_1] at hQ; with_reducible exact hQ hw6) | (simp (decide := true) only [rLoop, ↓reduceIte, sw_eq, sw_ne, ne_eq, Nat.reduceEqDiff, not_false_eq_true, Bool.false_eq_true, bi_t, bi_f, c4_1] at hQ hw6 ⊢; with_reducible exact hQ hw6) | exact absurd (by assumption) (by decide : ¬ (1 : Int32) = 0)
set_option maxRecDepth 2000 in
theorem sp_X7_goOnWithTry {d : Nat} {S : Sx} {Q : Option Value → Sx → Prop} {s : Int32} (hw : wfR S) (hQ : wfR (rTry S s) → Q none (rTry S s)) : CC (d + 3) kX7_goOnWithTry layR [.ref 0, .int s] S Q := by
  refine cc_intro [some _, some _, none] (by decide) (cc_cat (by rfl)) (Nat.le_of_ble_eq_true rfl) (cc_ls (by rfl)) ?_
  refine aj_aload_n (q := 1) (i := 0) dX7_goOnWithTry_0 rfl rfl rfl ?_
  refine aj_getI (q := 4) (f := 8) fl_X7_61 dX7_goOnWithTry_1 rfl lR_0 rfl rfl ?_
  try simp only [sw_eq, sw_ne, ne_eq, Nat.reduceEqDiff, not_false_eq_true]
  refine aj_iconst (q := 5) (v := 2) dX7_goOnWithTry_4 rfl (by decide) ?_
  refine aj_icmp_ne (q := 8) (tgt := 31) dX7_goOnWithTry_5 rfl (by decide) (fun c5_1 => ?_) (fun c5_1 => ?_)
  · refine aj_iconst (q := 32) (v := 0) dX7_goOnWithTry_31 rfl (by decide) ?_
    refine aj_istore_n (q := 33) (i := 2) (ls' := [_, _, _]) dX7_goOnWithTry_32 rfl rfl (by decide) rfl ?_
    refine aj_aload_n (q := 34) (i := 0) dX7_goOnWithTry_33 rfl rfl rfl ?_
    refine aj_getR (q := 37) fl_X7_35 dX7_goOnWithTry_34 rfl lR_0 rfl ?_
    refine aj_callV (q := 40) (As := []) cl_X7_73 mk_X0_stage dX7_goOnWithTry_37 rfl lR_11 rfl rfl (Nat.le_of_ble_eq_true rfl) (sp_X0_stage hw ?_)
    refine aj_iconst (q := 41) (v := 1) dX7_goOnWithTry_40 rfl (by decide) ?_
    refine aj_icmp_ne (q := 44) (tgt := 48) dX7_goOnWithTry_41 rfl (by decide) (fun c41_2 => ?_) (fun c41_2 => ?_)
    · refine aj_aload_n (q := 49) (i := 0) dX7_goOnWithTry_48 rfl rfl rfl ?_
      refine aj_getR (q := 52) fl_X7_35 dX7_goOnWithTry_49 rfl lR_0 rfl ?_
      refine aj_callV (q := 55) (As := []) cl_X7_181 mk_X0_close dX7_goOnWithTry_52 rfl lR_11 rfl rfl (Nat.le_of_ble_eq_true rfl) (sp_X0_close hw (fun hw3 => ?_))
      refine aj_goto (tgt := 131) dX7_goOnWithTry_55 (by decide) ?_
      refine aj_return dX7_goOnWithTry_131 rfl ?_
      skip
      first | contradiction | with_reducible exact hQ hw3 | (simp (decide := true) only [rTry, rTryX, rTryM, rTryN, ↓reduceIte, sw_eq, sw_ne, ne_eq, Nat.reduceEqDiff, not_false_eq_true, Bool.false_eq_true, bi_t, bi_f, c5_1, c41_2] at hQ; with_reducible exact hQ hw3) | (simp (decide := true) only [rTry, rTryX, rTryM, rTryN, ↓reduceIte, sw_eq, sw_ne, ne_eq, Nat.reduceEqDiff, not_false_eq_true, Bool.false_eq_true, bi_t, bi_f, c5_1, c41_2] at hQ hw3 ⊢; with_reducible exact hQ hw3) | exact absurd (by assumption) (by decide : ¬ (1 : Int32) = 0)
    · refine aj_iload_n (q := 45) (i := 2) dX7_goOnWithTry_44 rfl rfl rfl ?_
      refine aj_if_ne (q := 48) (tgt := 58) dX7_goOnWithTry_45 rfl (by decide) (fun c45_4 => ?_) (fun c45_4 => ?_)
      · refine aj_aload_n (q := 59) (i := 0) dX7_goOnWithTry_58 rfl rfl rfl ?_
        refine aj_getR (q := 62) fl_X7_21 dX7_goOnWithTry_59 rfl lR_0 rfl ?_
        refine aj_iconst (q := 63) (v := 2) dX7_goOnWithTry_62 rfl (by decide) ?_
        refine aj_bipush (q := 65) (v := 10) dX7_goOnWithTry_63 rfl (by decide) ?_
        refine aj_callV (q := 68) (As := [_, _]) cl_X7_53 mk_X6_pays dX7_goOnWithTry_65 rfl lR_6 rfl rfl (Nat.le_of_ble_eq_true rfl) (sp_X6_pays hw (fun hw5 => ?_))
        refine aj_ifB_eq (q := 71) (tgt := 126) dX7_goOnWithTry_68 rfl (by decide) (fun c68_6 => ?_) (fun c68_6 => ?_)
        · refine aj_aload_n (q := 127) (i := 0) dX7_goOnWithTry_126 rfl rfl rfl ?_
          refine aj_iconst (q := 128) (v := 3) dX7_goOnWithTry_127 rfl (by decide) ?_
          refine aj_callV (q := 131) (As := [_]) cl_X7_166 mk_X7_end dX7_goOnWithTry_128 rfl lR_0 rfl rfl (Nat.le_of_ble_eq_true rfl) (sp_X7_end hw5 (fun hw7 => ?_))
          refine aj_return dX7_goOnWithTry_131 rfl ?_
          skip
          first | contradiction | with_reducible exact hQ hw7 | (simp (decide := true) only [rTry, rTryX, rTryM, rTryN, ↓reduceIte, sw_eq, sw_ne, ne_eq, Nat.reduceEqDiff, not_false_eq_true, Bool.false_eq_true, bi_t, bi_f, c5_1, c41_2, c45_4, c68_6] at hQ; with_reducible exact hQ hw7) | (simp (decide := true) only [rTry, rTryX, rTryM, rTryN, ↓reduceIte, sw_eq, sw_ne, ne_eq, Nat.reduceEqDiff, not_false_eq_true, Bool.false_eq_true, bi_t, bi_f, c5_1, c41_2, c45_4, c68_6] at hQ hw7 ⊢; with_reducible exact hQ hw7) | exact absurd (by assumption) (by decide : ¬ (1 : Int32) = 0)
        · refine aj_aload_n (q := 72) (i := 0) dX7_goOnWithTry_71 rfl rfl rfl ?_
          refine aj_getR (q := 75) fl_X7_21 dX7_goOnWithTry_72 rfl lR_0 rfl ?_
          refine aj_iload_n (q := 76) (i := 1) dX7_goOnWithTry_75 rfl rfl rfl ?_
          refine aj_callV (q := 79) (As := [_]) cl_X7_184 mk_X6_noteBegun dX7_goOnWithTry_76 rfl lR_6 rfl rfl (Nat.le_of_ble_eq_true rfl) (sp_X6_noteBegun hw5 (fun hw8 => ?_))
          refine aj_aload_n (q := 80) (i := 0) dX7_goOnWithTry_79 rfl rfl rfl ?_
          refine aj_getR (q := 83) fl_X7_12 dX7_goOnWithTry_80 rfl lR_0 rfl ?_
          refine aj_bipush (q := 85) (v := 7) dX7_goOnWithTry_83 rfl (by decide) ?_
          refine aj_aload_n (q := 86) (i := 0) dX7_goOnWithTry_85 rfl rfl rfl ?_
          refine aj_getI (q := 89) (f := 9) fl_X7_82 dX7_goOnWithTry_86 rfl lR_0 rfl rfl ?_
          try simp only [sw_eq, sw_ne, ne_eq, Nat.reduceEqDiff, not_false_eq_true]
          refine aj_iconst (q := 90) (v := 5) dX7_goOnWithTry_89 rfl (by decide) ?_
          refine aj_icmp_ne (q := 93) (tgt := 103) dX7_goOnWithTry_90 rfl (by decide) (fun c90_9 => ?_) (fun c90_9 => ?_)
          · refine aj_aload_n (q := 104) (i := 0) dX7_goOnWithTry_103 rfl rfl rfl ?_
            refine aj_getI (q := 107) (f := 9) fl_X7_82 dX7_goOnWithTry_104 rfl lR_0 rfl rfl ?_
            try simp only [sw_eq, sw_ne, ne_eq, Nat.reduceEqDiff, not_false_eq_true]
            refine aj_callV (q := 110) (As := [_, _]) cl_X7_116 mk_X4_write dX7_goOnWithTry_107 rfl lR_1 rfl rfl (Nat.le_of_ble_eq_true rfl) (sp_X4_write hw8 (fun hw10 => ?_))
            refine aj_aload_n (q := 111) (i := 0) dX7_goOnWithTry_110 rfl rfl rfl ?_
            refine aj_iconst (q := 112) (v := 2) dX7_goOnWithTry_111 rfl (by decide) ?_
            refine aj_aload_n (q := 113) (i := 0) dX7_goOnWithTry_112 rfl rfl rfl ?_
            refine aj_getR (q := 116) fl_X7_43 dX7_goOnWithTry_113 rfl lR_0 rfl ?_
            refine aj_iload_n (q := 117) (i := 1) dX7_goOnWithTry_116 rfl rfl rfl ?_
            refine aj_callV (q := 120) (As := [_]) cl_X7_135 mk_X5_thirdOf dX7_goOnWithTry_117 rfl lR_17 rfl rfl (Nat.le_of_ble_eq_true rfl) (sp_X5_thirdOf hw10 ?_)
            refine aj_callV (q := 123) (As := [_, _]) cl_X7_141 mk_X7_doPart dX7_goOnWithTry_120 rfl lR_0 rfl rfl (Nat.le_of_ble_eq_true rfl) (sp_X7_doPart hw10 (fun hw11 => ?_))
            refine aj_goto (tgt := 131) dX7_goOnWithTry_123 (by decide) ?_
            refine aj_return dX7_goOnWithTry_131 rfl ?_
            skip
            first | contradiction | with_reducible exact hQ hw11 | (simp (decide := true) only [rTry, rTryX, rTryM, rTryN, ↓reduceIte, sw_eq, sw_ne, ne_eq, Nat.reduceEqDiff, not_false_eq_true, Bool.false_eq_true, bi_t, bi_f, c5_1, c41_2, c45_4, c68_6, c90_9] at hQ; with_reducible exact hQ hw11) | (simp (decide := true) only [rTry, rTryX, rTryM, rTryN, ↓reduceIte, sw_eq, sw_ne, ne_eq, Nat.reduceEqDiff, not_false_eq_true, Bool.false_eq_true, bi_t, bi_f, c5_1, c41_2, c45_4, c68_6, c90_9] at hQ hw11 ⊢; with_reducible exact hQ hw11) | exact absurd (by assumption) (by decide : ¬ (1 : Int32) = 0)
          · refine aj_bipush (q := 95) (v := 100) dX7_goOnWithTry_93 rfl (by decide) ?_
            refine aj_aload_n (q := 96) (i := 0) dX7_goOnWithTry_95 rfl rfl rfl ?_
            refine aj_getI (q := 99) (f := 10) fl_X7_85 dX7_goOnWithTry_96 rfl lR_0 rfl rfl ?_
            try simp only [sw_eq, sw_ne, ne_eq, Nat.reduceEqDiff, not_false_eq_true]
            refine aj_iadd (q := 100) dX7_goOnWithTry_99 rfl ?_
            refine aj_goto (tgt := 107) dX7_goOnWithTry_100 (by decide) ?_
            refine aj_callV (q := 110) (As := [_, _]) cl_X7_116 mk_X4_write dX7_goOnWithTry_107 rfl lR_1 rfl rfl (Nat.le_of_ble_eq_true rfl) (sp_X4_write hw8 (fun hw12 => ?_))
            refine aj_aload_n (q := 111) (i := 0) dX7_goOnWithTry_110 rfl rfl rfl ?_
            refine aj_iconst (q := 112) (v := 2) dX7_goOnWithTry_111 rfl (by decide) ?_
            refine aj_aload_n (q := 113) (i := 0) dX7_goOnWithTry_112 rfl rfl rfl ?_
            refine aj_getR (q := 116) fl_X7_43 dX7_goOnWithTry_113 rfl lR_0 rfl ?_
            refine aj_iload_n (q := 117) (i := 1) dX7_goOnWithTry_116 rfl rfl rfl ?_
            refine aj_callV (q := 120) (As := [_]) cl_X7_135 mk_X5_thirdOf dX7_goOnWithTry_117 rfl lR_17 rfl rfl (Nat.le_of_ble_eq_true rfl) (sp_X5_thirdOf hw12 ?_)
            refine aj_callV (q := 123) (As := [_, _]) cl_X7_141 mk_X7_doPart dX7_goOnWithTry_120 rfl lR_0 rfl rfl (Nat.le_of_ble_eq_true rfl) (sp_X7_doPart hw12 (fun hw13 => ?_))
            refine aj_goto (tgt := 131) dX7_goOnWithTry_123 (by decide) ?_
            refine aj_return dX7_goOnWithTry_131 rfl ?_
            skip
            first | contradiction | with_reducible exact hQ hw13 | (simp (decide := true) only [rTry, rTryX, rTryM, rTryN, ↓reduceIte, sw_eq, sw_ne, ne_eq, Nat.reduceEqDiff, not_false_eq_true, Bool.false_eq_true, bi_t, bi_f, c5_1, c41_2, c45_4, c68_6, c90_9] at hQ; with_reducible exact hQ hw13) | (simp (decide := true) only [rTry, rTryX, rTryM, rTryN, ↓reduceIte, sw_eq, sw_ne, ne_eq, Nat.reduceEqDiff, not_false_eq_true, Bool.false_eq_true, bi_t, bi_f, c5_1, c41_2, c45_4, c68_6, c90_9] at hQ hw13 ⊢; with_reducible exact hQ hw13) | exact absurd (by assumption) (by decide : ¬ (1 : Int32) = 0)
      · refine aj_aload_n (q := 49) (i := 0) dX7_goOnWithTry_48 rfl rfl rfl ?_
        refine aj_getR (q := 52) fl_X7_35 dX7_goOnWithTry_49 rfl lR_0 rfl ?_
        refine aj_callV (q := 55) (As := []) cl_X7_181 mk_X0_close dX7_goOnWithTry_52 rfl lR_11 rfl rfl (Nat.le_of_ble_eq_true rfl) (sp_X0_close hw (fun hw14 => ?_))
        refine aj_goto (tgt := 131) dX7_goOnWithTry_55 (by decide) ?_
        refine aj_return dX7_goOnWithTry_131 rfl ?_
        skip
        first | contradiction | with_reducible exact hQ hw14 | (simp (decide := true) only [rTry, rTryX, rTryM, rTryN, ↓reduceIte, sw_eq, sw_ne, ne_eq, Nat.reduceEqDiff, not_false_eq_true, Bool.false_eq_true, bi_t, bi_f, c5_1, c41_2, c45_4] at hQ; with_reducible exact hQ hw14) | (simp (decide := true) only [rTry, rTryX, rTryM, rTryN, ↓reduceIte, sw_eq, sw_ne, ne_eq, Nat.reduceEqDiff, not_false_eq_true, Bool.false_eq_true, bi_t, bi_f, c5_1, c41_2, c45_4] at hQ hw14 ⊢; with_reducible exact hQ hw14) | exact absurd (by assumption) (by decide : ¬ (1 : Int32) = 0)
  · refine aj_aload_n (q := 9) (i := 0) dX7_goOnWithTry_8 rfl rfl rfl ?_
    refine aj_getR (q := 12) fl_X7_43 dX7_goOnWithTry_9 rfl lR_0 rfl ?_
    refine aj_iload_n (q := 13) (i := 1) dX7_goOnWithTry_12 rfl rfl rfl ?_
    refine aj_callV (q := 16) (As := [_]) cl_X7_132 mk_X5_secondOf dX7_goOnWithTry_13 rfl lR_17 rfl rfl (Nat.le_of_ble_eq_true rfl) (sp_X5_secondOf hw ?_)
    refine aj_aload_n (q := 17) (i := 0) dX7_goOnWithTry_16 rfl rfl rfl ?_
    refine aj_getI (q := 20) (f := 9) fl_X7_82 dX7_goOnWithTry_17 rfl lR_0 rfl rfl ?_
    try simp only [sw_eq, sw_ne, ne_eq, Nat.reduceEqDiff, not_false_eq_true]
    refine aj_ishr (q := 21) dX7_goOnWithTry_20 rfl ?_
    refine aj_iconst (q := 22) (v := 1) dX7_goOnWithTry_21 rfl (by decide) ?_
    refine aj_iand (q := 23) dX7_goOnWithTry_22 rfl ?_
    refine aj_iconst (q := 24) (v := 1) dX7_goOnWithTry_23 rfl (by decide) ?_
    refine aj_icmp_ne (q := 27) (tgt := 31) dX7_goOnWithTry_24 rfl (by decide) (fun c24_15 => ?_) (fun c24_15 => ?_)
    · refine aj_iconst (q := 32) (v := 0) dX7_goOnWithTry_31 rfl (by decide) ?_
      refine aj_istore_n (q := 33) (i := 2) (ls' := [_, _, _]) dX7_goOnWithTry_32 rfl rfl (by decide) rfl ?_
      refine aj_aload_n (q := 34) (i := 0) dX7_goOnWithTry_33 rfl rfl rfl ?_
      refine aj_getR (q := 37) fl_X7_35 dX7_goOnWithTry_34 rfl lR_0 rfl ?_
      refine aj_callV (q := 40) (As := []) cl_X7_73 mk_X0_stage dX7_goOnWithTry_37 rfl lR_11 rfl rfl (Nat.le_of_ble_eq_true rfl) (sp_X0_stage hw ?_)
      refine aj_iconst (q := 41) (v := 1) dX7_goOnWithTry_40 rfl (by decide) ?_
      refine aj_icmp_ne (q := 44) (tgt := 48) dX7_goOnWithTry_41 rfl (by decide) (fun c41_16 => ?_) (fun c41_16 => ?_)
      · refine aj_aload_n (q := 49) (i := 0) dX7_goOnWithTry_48 rfl rfl rfl ?_
        refine aj_getR (q := 52) fl_X7_35 dX7_goOnWithTry_49 rfl lR_0 rfl ?_
        refine aj_callV (q := 55) (As := []) cl_X7_181 mk_X0_close dX7_goOnWithTry_52 rfl lR_11 rfl rfl (Nat.le_of_ble_eq_true rfl) (sp_X0_close hw (fun hw17 => ?_))
        refine aj_goto (tgt := 131) dX7_goOnWithTry_55 (by decide) ?_
        refine aj_return dX7_goOnWithTry_131 rfl ?_
        skip
        first | contradiction | with_reducible exact hQ hw17 | (simp (decide := true) only [rTry, rTryX, rTryM, rTryN, ↓reduceIte, sw_eq, sw_ne, ne_eq, Nat.reduceEqDiff, not_false_eq_true, Bool.false_eq_true, bi_t, bi_f, c5_1, c24_15, c41_16] at hQ; with_reducible exact hQ hw17) | (simp (decide := true) only [rTry, rTryX, rTryM, rTryN, ↓reduceIte, sw_eq, sw_ne, ne_eq, Nat.reduceEqDiff, not_false_eq_true, Bool.false_eq_true, bi_t, bi_f, c5_1, c24_15, c41_16] at hQ hw17 ⊢; with_reducible exact hQ hw17) | exact absurd (by assumption) (by decide : ¬ (1 : Int32) = 0)
      · refine aj_iload_n (q := 45) (i := 2) dX7_goOnWithTry_44 rfl rfl rfl ?_
        refine aj_if_ne (q := 48) (tgt := 58) dX7_goOnWithTry_45 rfl (by decide) (fun c45_18 => ?_) (fun c45_18 => ?_)
        · refine aj_aload_n (q := 59) (i := 0) dX7_goOnWithTry_58 rfl rfl rfl ?_
          refine aj_getR (q := 62) fl_X7_21 dX7_goOnWithTry_59 rfl lR_0 rfl ?_
          refine aj_iconst (q := 63) (v := 2) dX7_goOnWithTry_62 rfl (by decide) ?_
          refine aj_bipush (q := 65) (v := 10) dX7_goOnWithTry_63 rfl (by decide) ?_
          refine aj_callV (q := 68) (As := [_, _]) cl_X7_53 mk_X6_pays dX7_goOnWithTry_65 rfl lR_6 rfl rfl (Nat.le_of_ble_eq_true rfl) (sp_X6_pays hw (fun hw19 => ?_))
          refine aj_ifB_eq (q := 71) (tgt := 126) dX7_goOnWithTry_68 rfl (by decide) (fun c68_20 => ?_) (fun c68_20 => ?_)
          · refine aj_aload_n (q := 127) (i := 0) dX7_goOnWithTry_126 rfl rfl rfl ?_
            refine aj_iconst (q := 128) (v := 3) dX7_goOnWithTry_127 rfl (by decide) ?_
            refine aj_callV (q := 131) (As := [_]) cl_X7_166 mk_X7_end dX7_goOnWithTry_128 rfl lR_0 rfl rfl (Nat.le_of_ble_eq_true rfl) (sp_X7_end hw19 (fun hw21 => ?_))
            refine aj_return dX7_goOnWithTry_131 rfl ?_
            skip
            first | contradiction | with_reducible exact hQ hw21 | (simp (decide := true) only [rTry, rTryX, rTryM, rTryN, ↓reduceIte, sw_eq, sw_ne, ne_eq, Nat.reduceEqDiff, not_false_eq_true, Bool.false_eq_true, bi_t, bi_f, c5_1, c24_15, c41_16, c45_18, c68_20] at hQ; with_reducible exact hQ hw21) | (simp (decide := true) only [rTry, rTryX, rTryM, rTryN, ↓reduceIte, sw_eq, sw_ne, ne_eq, Nat.reduceEqDiff, not_false_eq_true, Bool.false_eq_true, bi_t, bi_f, c5_1, c24_15, c41_16, c45_18, c68_20] at hQ hw21 ⊢; with_reducible exact hQ hw21) | exact absurd (by assumption) (by decide : ¬ (1 : Int32) = 0)
          · refine aj_aload_n (q := 72) (i := 0) dX7_goOnWithTry_71 rfl rfl rfl ?_
            refine aj_getR (q := 75) fl_X7_21 dX7_goOnWithTry_72 rfl lR_0 rfl ?_
            refine aj_iload_n (q := 76) (i := 1) dX7_goOnWithTry_75 rfl rfl rfl ?_
            refine aj_callV (q := 79) (As := [_]) cl_X7_184 mk_X6_noteBegun dX7_goOnWithTry_76 rfl lR_6 rfl rfl (Nat.le_of_ble_eq_true rfl) (sp_X6_noteBegun hw19 (fun hw22 => ?_))
            refine aj_aload_n (q := 80) (i := 0) dX7_goOnWithTry_79 rfl rfl rfl ?_
            refine aj_getR (q := 83) fl_X7_12 dX7_goOnWithTry_80 rfl lR_0 rfl ?_
            refine aj_bipush (q := 85) (v := 7) dX7_goOnWithTry_83 rfl (by decide) ?_
            refine aj_aload_n (q := 86) (i := 0) dX7_goOnWithTry_85 rfl rfl rfl ?_
            refine aj_getI (q := 89) (f := 9) fl_X7_82 dX7_goOnWithTry_86 rfl lR_0 rfl rfl ?_
            try simp only [sw_eq, sw_ne, ne_eq, Nat.reduceEqDiff, not_false_eq_true]
            refine aj_iconst (q := 90) (v := 5) dX7_goOnWithTry_89 rfl (by decide) ?_
            refine aj_icmp_ne (q := 93) (tgt := 103) dX7_goOnWithTry_90 rfl (by decide) (fun c90_23 => ?_) (fun c90_23 => ?_)
            · refine aj_aload_n (q := 104) (i := 0) dX7_goOnWithTry_103 rfl rfl rfl ?_
              refine aj_getI (q := 107) (f := 9) fl_X7_82 dX7_goOnWithTry_104 rfl lR_0 rfl rfl ?_
              try simp only [sw_eq, sw_ne, ne_eq, Nat.reduceEqDiff, not_false_eq_true]
              refine aj_callV (q := 110) (As := [_, _]) cl_X7_116 mk_X4_write dX7_goOnWithTry_107 rfl lR_1 rfl rfl (Nat.le_of_ble_eq_true rfl) (sp_X4_write hw22 (fun hw24 => ?_))
              refine aj_aload_n (q := 111) (i := 0) dX7_goOnWithTry_110 rfl rfl rfl ?_
              refine aj_iconst (q := 112) (v := 2) dX7_goOnWithTry_111 rfl (by decide) ?_
              refine aj_aload_n (q := 113) (i := 0) dX7_goOnWithTry_112 rfl rfl rfl ?_
              refine aj_getR (q := 116) fl_X7_43 dX7_goOnWithTry_113 rfl lR_0 rfl ?_
              refine aj_iload_n (q := 117) (i := 1) dX7_goOnWithTry_116 rfl rfl rfl ?_
              refine aj_callV (q := 120) (As := [_]) cl_X7_135 mk_X5_thirdOf dX7_goOnWithTry_117 rfl lR_17 rfl rfl (Nat.le_of_ble_eq_true rfl) (sp_X5_thirdOf hw24 ?_)
              refine aj_callV (q := 123) (As := [_, _]) cl_X7_141 mk_X7_doPart dX7_goOnWithTry_120 rfl lR_0 rfl rfl (Nat.le_of_ble_eq_true rfl) (sp_X7_doPart hw24 (fun hw25 => ?_))
              refine aj_goto (tgt := 131) dX7_goOnWithTry_123 (by decide) ?_
              refine aj_return dX7_goOnWithTry_131 rfl ?_
              skip
              first | contradiction | with_reducible exact hQ hw25 | (simp (decide := true) only [rTry, rTryX, rTryM, rTryN, ↓reduceIte, sw_eq, sw_ne, ne_eq, Nat.reduceEqDiff, not_false_eq_true, Bool.false_eq_true, bi_t, bi_f, c5_1, c24_15, c41_16, c45_18, c68_20, c90_23] at hQ; with_reducible exact hQ hw25) | (simp (decide := true) only [rTry, rTryX, rTryM, rTryN, ↓reduceIte, sw_eq, sw_ne, ne_eq, Nat.reduceEqDiff, not_false_eq_true, Bool.false_eq_true, bi_t, bi_f, c5_1, c24_15, c41_16, c45_18, c68_20, c90_23] at hQ hw25 ⊢; with_reducible exact hQ hw25) | exact absurd (by assumption) (by decide : ¬ (1 : Int32) = 0)
            · refine aj_bipush (q := 95) (v := 100) dX7_goOnWithTry_93 rfl (by decide) ?_
              refine aj_aload_n (q := 96) (i := 0) dX7_goOnWithTry_95 rfl rfl rfl ?_
              refine aj_getI (q := 99) (f := 10) fl_X7_85 dX7_goOnWithTry_96 rfl lR_0 rfl rfl ?_
              try simp only [sw_eq, sw_ne, ne_eq, Nat.reduceEqDiff, not_false_eq_true]
              refine aj_iadd (q := 100) dX7_goOnWithTry_99 rfl ?_
              refine aj_goto (tgt := 107) dX7_goOnWithTry_100 (by decide) ?_
              refine aj_callV (q := 110) (As := [_, _]) cl_X7_116 mk_X4_write dX7_goOnWithTry_107 rfl lR_1 rfl rfl (Nat.le_of_ble_eq_true rfl) (sp_X4_write hw22 (fun hw26 => ?_))
              refine aj_aload_n (q := 111) (i := 0) dX7_goOnWithTry_110 rfl rfl rfl ?_
              refine aj_iconst (q := 112) (v := 2) dX7_goOnWithTry_111 rfl (by decide) ?_
              refine aj_aload_n (q := 113) (i := 0) dX7_goOnWithTry_112 rfl rfl rfl ?_
              refine aj_getR (q := 116) fl_X7_43 dX7_goOnWithTry_113 rfl lR_0 rfl ?_
              refine aj_iload_n (q := 117) (i := 1) dX7_goOnWithTry_116 rfl rfl rfl ?_
              refine aj_callV (q := 120) (As := [_]) cl_X7_135 mk_X5_thirdOf dX7_goOnWithTry_117 rfl lR_17 rfl rfl (Nat.le_of_ble_eq_true rfl) (sp_X5_thirdOf hw26 ?_)
              refine aj_callV (q := 123) (As := [_, _]) cl_X7_141 mk_X7_doPart dX7_goOnWithTry_120 rfl lR_0 rfl rfl (Nat.le_of_ble_eq_true rfl) (sp_X7_doPart hw26 (fun hw27 => ?_))
              refine aj_goto (tgt := 131) dX7_goOnWithTry_123 (by decide) ?_
              refine aj_return dX7_goOnWithTry_131 rfl ?_
              skip
              first | contradiction | with_reducible exact hQ hw27 | (simp (decide := true) only [rTry, rTryX, rTryM, rTryN, ↓reduceIte, sw_eq, sw_ne, ne_eq, Nat.reduceEqDiff, not_false_eq_true, Bool.false_eq_true, bi_t, bi_f, c5_1, c24_15, c41_16, c45_18, c68_20, c90_23] at hQ; with_reducible exact hQ hw27) | (simp (decide := true) only [rTry, rTryX, rTryM, rTryN, ↓reduceIte, sw_eq, sw_ne, ne_eq, Nat.reduceEqDiff, not_false_eq_true, Bool.false_eq_true, bi_t, bi_f, c5_1, c24_15, c41_16, c45_18, c68_20, c90_23] at hQ hw27 ⊢; with_reducible exact hQ hw27) | exact absurd (by assumption) (by decide : ¬ (1 : Int32) = 0)
        · refine aj_aload_n (q := 49) (i := 0) dX7_goOnWithTry_48 rfl rfl rfl ?_
          refine aj_getR (q := 52) fl_X7_35 dX7_goOnWithTry_49 rfl lR_0 rfl ?_
          refine aj_callV (q := 55) (As := []) cl_X7_181 mk_X0_close dX7_goOnWithTry_52 rfl lR_11 rfl rfl (Nat.le_of_ble_eq_true rfl) (sp_X0_close hw (fun hw28 => ?_))
          refine aj_goto (tgt := 131) dX7_goOnWithTry_55 (by decide) ?_
          refine aj_return dX7_goOnWithTry_131 rfl ?_
          skip
          first | contradiction | with_reducible exact hQ hw28 | (simp (decide := true) only [rTry, rTryX, rTryM, rTryN, ↓reduceIte, sw_eq, sw_ne, ne_eq, Nat.reduceEqDiff, not_false_eq_true, Bool.false_eq_true, bi_t, bi_f, c5_1, c24_15, c41_16, c45_18] at hQ; with_reducible exact hQ hw28) | (simp (decide := true) only [rTry, rTryX, rTryM, rTryN, ↓reduceIte, sw_eq, sw_ne, ne_eq, Nat.reduceEqDiff, not_false_eq_true, Bool.false_eq_true, bi_t, bi_f, c5_1, c24_15, c41_16, c45_18] at hQ hw28 ⊢; with_reducible exact hQ hw28) | exact absurd (by assumption) (by decide : ¬ (1 : Int32) = 0)
    · refine aj_iconst (q := 28) (v := 1) dX7_goOnWithTry_27 rfl (by decide) ?_
      refine aj_goto (tgt := 32) dX7_goOnWithTry_28 (by decide) ?_
      refine aj_istore_n (q := 33) (i := 2) (ls' := [_, _, _]) dX7_goOnWithTry_32 rfl rfl (by decide) rfl ?_
      refine aj_aload_n (q := 34) (i := 0) dX7_goOnWithTry_33 rfl rfl rfl ?_
      refine aj_getR (q := 37) fl_X7_35 dX7_goOnWithTry_34 rfl lR_0 rfl ?_
      refine aj_callV (q := 40) (As := []) cl_X7_73 mk_X0_stage dX7_goOnWithTry_37 rfl lR_11 rfl rfl (Nat.le_of_ble_eq_true rfl) (sp_X0_stage hw ?_)
      refine aj_iconst (q := 41) (v := 1) dX7_goOnWithTry_40 rfl (by decide) ?_
      refine aj_icmp_ne (q := 44) (tgt := 48) dX7_goOnWithTry_41 rfl (by decide) (fun c41_29 => ?_) (fun c41_29 => ?_)
      · refine aj_aload_n (q := 49) (i := 0) dX7_goOnWithTry_48 rfl rfl rfl ?_
        refine aj_getR (q := 52) fl_X7_35 dX7_goOnWithTry_49 rfl lR_0 rfl ?_
        refine aj_callV (q := 55) (As := []) cl_X7_181 mk_X0_close dX7_goOnWithTry_52 rfl lR_11 rfl rfl (Nat.le_of_ble_eq_true rfl) (sp_X0_close hw (fun hw30 => ?_))
        refine aj_goto (tgt := 131) dX7_goOnWithTry_55 (by decide) ?_
        refine aj_return dX7_goOnWithTry_131 rfl ?_
        skip
        first | contradiction | with_reducible exact hQ hw30 | (simp (decide := true) only [rTry, rTryX, rTryM, rTryN, ↓reduceIte, sw_eq, sw_ne, ne_eq, Nat.reduceEqDiff, not_false_eq_true, Bool.false_eq_true, bi_t, bi_f, c5_1, c24_15, c41_29] at hQ; with_reducible exact hQ hw30) | (simp (decide := true) only [rTry, rTryX, rTryM, rTryN, ↓reduceIte, sw_eq, sw_ne, ne_eq, Nat.reduceEqDiff, not_false_eq_true, Bool.false_eq_true, bi_t, bi_f, c5_1, c24_15, c41_29] at hQ hw30 ⊢; with_reducible exact hQ hw30) | exact absurd (by assumption) (by decide : ¬ (1 : Int32) = 0)
      · refine aj_iload_n (q := 45) (i := 2) dX7_goOnWithTry_44 rfl rfl rfl ?_
        refine aj_if_ne (q := 48) (tgt := 58) dX7_goOnWithTry_45 rfl (by decide) (fun c45_31 => ?_) (fun c45_31 => ?_)
        · refine aj_aload_n (q := 59) (i := 0) dX7_goOnWithTry_58 rfl rfl rfl ?_
          refine aj_getR (q := 62) fl_X7_21 dX7_goOnWithTry_59 rfl lR_0 rfl ?_
          refine aj_iconst (q := 63) (v := 2) dX7_goOnWithTry_62 rfl (by decide) ?_
          refine aj_bipush (q := 65) (v := 10) dX7_goOnWithTry_63 rfl (by decide) ?_
          refine aj_callV (q := 68) (As := [_, _]) cl_X7_53 mk_X6_pays dX7_goOnWithTry_65 rfl lR_6 rfl rfl (Nat.le_of_ble_eq_true rfl) (sp_X6_pays hw (fun hw32 => ?_))
          refine aj_ifB_eq (q := 71) (tgt := 126) dX7_goOnWithTry_68 rfl (by decide) (fun c68_33 => ?_) (fun c68_33 => ?_)
          · refine aj_aload_n (q := 127) (i := 0) dX7_goOnWithTry_126 rfl rfl rfl ?_
            refine aj_iconst (q := 128) (v := 3) dX7_goOnWithTry_127 rfl (by decide) ?_
            refine aj_callV (q := 131) (As := [_]) cl_X7_166 mk_X7_end dX7_goOnWithTry_128 rfl lR_0 rfl rfl (Nat.le_of_ble_eq_true rfl) (sp_X7_end hw32 (fun hw34 => ?_))
            refine aj_return dX7_goOnWithTry_131 rfl ?_
            skip
            first | contradiction | with_reducible exact hQ hw34 | (simp (decide := true) only [rTry, rTryX, rTryM, rTryN, ↓reduceIte, sw_eq, sw_ne, ne_eq, Nat.reduceEqDiff, not_false_eq_true, Bool.false_eq_true, bi_t, bi_f, c5_1, c24_15, c41_29, c45_31, c68_33] at hQ; with_reducible exact hQ hw34) | (simp (decide := true) only [rTry, rTryX, rTryM, rTryN, ↓reduceIte, sw_eq, sw_ne, ne_eq, Nat.reduceEqDiff, not_false_eq_true, Bool.false_eq_true, bi_t, bi_f, c5_1, c24_15, c41_29, c45_31, c68_33] at hQ hw34 ⊢; with_reducible exact hQ hw34) | exact absurd (by assumption) (by decide : ¬ (1 : Int32) = 0)
          · refine aj_aload_n (q := 72) (i := 0) dX7_goOnWithTry_71 rfl rfl rfl ?_
            refine aj_getR (q := 75) fl_X7_21 dX7_goOnWithTry_72 rfl lR_0 rfl ?_
            refine aj_iload_n (q := 76) (i := 1) dX7_goOnWithTry_75 rfl rfl rfl ?_
            refine aj_callV (q := 79) (As := [_]) cl_X7_184 mk_X6_noteBegun dX7_goOnWithTry_76 rfl lR_6 rfl rfl (Nat.le_of_ble_eq_true rfl) (sp_X6_noteBegun hw32 (fun hw35 => ?_))
            refine aj_aload_n (q := 80) (i := 0) dX7_goOnWithTry_79 rfl rfl rfl ?_
            refine aj_getR (q := 83) fl_X7_12 dX7_goOnWithTry_80 rfl lR_0 rfl ?_
            refine aj_bipush (q := 85) (v := 7) dX7_goOnWithTry_83 rfl (by decide) ?_
            refine aj_aload_n (q := 86) (i := 0) dX7_goOnWithTry_85 rfl rfl rfl ?_
            refine aj_getI (q := 89) (f := 9) fl_X7_82 dX7_goOnWithTry_86 rfl lR_0 rfl rfl ?_
            try simp only [sw_eq, sw_ne, ne_eq, Nat.reduceEqDiff, not_false_eq_true]
            refine aj_iconst (q := 90) (v := 5) dX7_goOnWithTry_89 rfl (by decide) ?_
            refine aj_icmp_ne (q := 93) (tgt := 103) dX7_goOnWithTry_90 rfl (by decide) (fun c90_36 => ?_) (fun c90_36 => ?_)
            · refine aj_aload_n (q := 104) (i := 0) dX7_goOnWithTry_103 rfl rfl rfl ?_
              refine aj_getI (q := 107) (f := 9) fl_X7_82 dX7_goOnWithTry_104 rfl lR_0 rfl rfl ?_
              try simp only [sw_eq, sw_ne, ne_eq, Nat.reduceEqDiff, not_false_eq_true]
              refine aj_callV (q := 110) (As := [_, _]) cl_X7_116 mk_X4_write dX7_goOnWithTry_107 rfl lR_1 rfl rfl (Nat.le_of_ble_eq_true rfl) (sp_X4_write hw35 (fun hw37 => ?_))
              refine aj_aload_n (q := 111) (i := 0) dX7_goOnWithTry_110 rfl rfl rfl ?_
              refine aj_iconst (q := 112) (v := 2) dX7_goOnWithTry_111 rfl (by decide) ?_
              refine aj_aload_n (q := 113) (i := 0) dX7_goOnWithTry_112 rfl rfl rfl ?_
              refine aj_getR (q := 116) fl_X7_43 dX7_goOnWithTry_113 rfl lR_0 rfl ?_
              refine aj_iload_n (q := 117) (i := 1) dX7_goOnWithTry_116 rfl rfl rfl ?_
              refine aj_callV (q := 120) (As := [_]) cl_X7_135 mk_X5_thirdOf dX7_goOnWithTry_117 rfl lR_17 rfl rfl (Nat.le_of_ble_eq_true rfl) (sp_X5_thirdOf hw37 ?_)
              refine aj_callV (q := 123) (As := [_, _]) cl_X7_141 mk_X7_doPart dX7_goOnWithTry_120 rfl lR_0 rfl rfl (Nat.le_of_ble_eq_true rfl) (sp_X7_doPart hw37 (fun hw38 => ?_))
              refine aj_goto (tgt := 131) dX7_goOnWithTry_123 (by decide) ?_
              refine aj_return dX7_goOnWithTry_131 rfl ?_
              skip
              first | contradiction | with_reducible exact hQ hw38 | (simp (decide := true) only [rTry, rTryX, rTryM, rTryN, ↓reduceIte, sw_eq, sw_ne, ne_eq, Nat.reduceEqDiff, not_false_eq_true, Bool.false_eq_true, bi_t, bi_f, c5_1, c24_15, c41_29, c45_31, c68_33, c90_36] at hQ; with_reducible exact hQ hw38) | (simp (decide := true) only [rTry, rTryX, rTryM, rTryN, ↓reduceIte, sw_eq, sw_ne, ne_eq, Nat.reduceEqDiff, not_false_eq_true, Bool.false_eq_true, bi_t, bi_f, c5_1, c24_15, c41_29, c45_31, c68_33, c90_36] at hQ hw38 ⊢; with_reducible exact hQ hw38) | exact absurd (by assumption) (by decide : ¬ (1 : Int32) = 0)
            · refine aj_bipush (q := 95) (v := 100) dX7_goOnWithTry_93 rfl (by decide) ?_
              refine aj_aload_n (q := 96) (i := 0) dX7_goOnWithTry_95 rfl rfl rfl ?_
              refine aj_getI (q := 99) (f := 10) fl_X7_85 dX7_goOnWithTry_96 rfl lR_0 rfl rfl ?_
              try simp only [sw_eq, sw_ne, ne_eq, Nat.reduceEqDiff, not_false_eq_true]
              refine aj_iadd (q := 100) dX7_goOnWithTry_99 rfl ?_
              refine aj_goto (tgt := 107) dX7_goOnWithTry_100 (by decide) ?_
              refine aj_callV (q := 110) (As := [_, _]) cl_X7_116 mk_X4_write dX7_goOnWithTry_107 rfl lR_1 rfl rfl (Nat.le_of_ble_eq_true rfl) (sp_X4_write hw35 (fun hw39 => ?_))
              refine aj_aload_n (q := 111) (i := 0) dX7_goOnWithTry_110 rfl rfl rfl ?_
              refine aj_iconst (q := 112) (v := 2) dX7_goOnWithTry_111 rfl (by decide) ?_
              refine aj_aload_n (q := 113) (i := 0) dX7_goOnWithTry_112 rfl rfl rfl ?_
              refine aj_getR (q := 116) fl_X7_43 dX7_goOnWithTry_113 rfl lR_0 rfl ?_
              refine aj_iload_n (q := 117) (i := 1) dX7_goOnWithTry_116 rfl rfl rfl ?_
              refine aj_callV (q := 120) (As := [_]) cl_X7_135 mk_X5_thirdOf dX7_goOnWithTry_117 rfl lR_17 rfl rfl (Nat.le_of_ble_eq_true rfl) (sp_X5_thirdOf hw39 ?_)
              refine aj_callV (q := 123) (As := [_, _]) cl_X7_141 mk_X7_doPart dX7_goOnWithTry_120 rfl lR_0 rfl rfl (Nat.le_of_ble_eq_true rfl) (sp_X7_doPart hw39 (fun hw40 => ?_))
              refine aj_goto (tgt := 131) dX7_goOnWithTry_123 (by decide) ?_
              refine aj_return dX7_goOnWithTry_131 rfl ?_
              skip
              first | contradiction | with_reducible exact hQ hw40 | (simp (decide := true) only [rTry, rTryX, rTryM, rTryN, ↓reduceIte, sw_eq, sw_ne, ne_eq, Nat.reduceEqDiff, not_false_eq_true, Bool.false_eq_true, bi_t, bi_f, c5_1, c24_15, c41_29, c45_31, c68_33, c90_36] at hQ; with_reducible exact hQ hw40) | (simp (decide := true) only [rTry, rTryX, rTryM, rTryN, ↓reduceIte, sw_eq, sw_ne, ne_eq, Nat.reduceEqDiff, not_false_eq_true, Bool.false_eq_true, bi_t, bi_f, c5_1, c24_15, c41_29, c45_31, c68_33, c90_36] at hQ hw40 ⊢; with_reducible exact hQ hw40) | exact absurd (by assumption) (by decide : ¬ (1 : Int32) = 0)
        · refine aj_aload_n (q := 49) (i := 0) dX7_goOnWithTry_48 rfl rfl rfl ?_
          refine aj_getR (q := 52) fl_X7_35 dX7_goOnWithTry_49 rfl lR_0 rfl ?_
          refine aj_callV (q := 55) (As := []) cl_X7_181 mk_X0_close dX7_goOnWithTry_52 rfl lR_11 rfl rfl (Nat.le_of_ble_eq_true rfl) (sp_X0_close hw (fun hw41 => ?_))
          refine aj_goto (tgt := 131) dX7_goOnWithTry_55 (by decide) ?_
          refine aj_return dX7_goOnWithTry_131 rfl ?_
          skip
          first | contradiction | with_reducible exact hQ hw41 | (simp (decide := true) only [rTry, rTryX, rTryM, rTryN, ↓reduceIte, sw_eq, sw_ne, ne_eq, Nat.reduceEqDiff, not_false_eq_true, Bool.false_eq_true, bi_t, bi_f, c5_1, c24_15, c41_29, c45_31] at hQ; with_reducible exact hQ hw41) | (simp (decide := true) only [rTry, rTryX, rTryM, rTryN, ↓reduceIte, sw_eq, sw_ne, ne_eq, Nat.reduceEqDiff, not_false_eq_true, Bool.false_eq_true, bi_t, bi_f, c5_1, c24_15, c41_29, c45_31] at hQ hw41 ⊢; with_reducible exact hQ hw41) | exact absurd (by assumption) (by decide : ¬ (1 : Int32) = 0)
set_option maxRecDepth 2000 in
theorem sp_X7_payForLastPart {d : Nat} {S : Sx} {Q : Option Value → Sx → Prop} (hw : wfR S) (hQ : wfR (lpS S) → Q (some (.int (lpG S))) (lpS S)) : CC (d + 2) kX7_payForLastPart layR [.ref 0] S Q := by
  refine cc_intro [some _] (by decide) (cc_cat (by rfl)) (Nat.le_of_ble_eq_true rfl) (cc_ls (by rfl)) ?_
  refine aj_aload_n (q := 1) (i := 0) dX7_payForLastPart_0 rfl rfl rfl ?_
  refine aj_getI (q := 4) (f := 8) fl_X7_61 dX7_payForLastPart_1 rfl lR_0 rfl rfl ?_
  try simp only [sw_eq, sw_ne, ne_eq, Nat.reduceEqDiff, not_false_eq_true]
  refine aj_iconst (q := 5) (v := 3) dX7_payForLastPart_4 rfl (by decide) ?_
  refine aj_icmp_eq (q := 8) (tgt := 23) dX7_payForLastPart_5 rfl (by decide) (fun c5_1 => ?_) (fun c5_1 => ?_)
  · refine aj_aload_n (q := 24) (i := 0) dX7_payForLastPart_23 rfl rfl rfl ?_
    refine aj_getR (q := 27) fl_X7_21 dX7_payForLastPart_24 rfl lR_0 rfl ?_
    refine aj_callV (q := 30) (As := []) cl_X7_196 mk_X6_isByReserve dX7_payForLastPart_27 rfl lR_6 rfl rfl (Nat.le_of_ble_eq_true rfl) (sp_X6_isByReserve hw ?_)
    refine aj_ifB_eq (q := 33) (tgt := 35) dX7_payForLastPart_30 rfl (by decide) (fun c30_2 => ?_) (fun c30_2 => ?_)
    · refine aj_aload_n (q := 36) (i := 0) dX7_payForLastPart_35 rfl rfl rfl ?_
      refine aj_getR (q := 39) fl_X7_21 dX7_payForLastPart_36 rfl lR_0 rfl ?_
      refine aj_iconst (q := 40) (v := 1) dX7_payForLastPart_39 rfl (by decide) ?_
      refine aj_callV (q := 43) (As := [_]) cl_X7_199 mk_X6_setByReserve dX7_payForLastPart_40 rfl lR_6 rfl rfl (Nat.le_of_ble_eq_true rfl) (sp_X6_setByReserve (by decide) hw (fun hw3 => ?_))
      refine aj_aload_n (q := 44) (i := 0) dX7_payForLastPart_43 rfl rfl rfl ?_
      refine aj_getR (q := 47) fl_X7_21 dX7_payForLastPart_44 rfl lR_0 rfl ?_
      refine aj_iconst (q := 48) (v := 3) dX7_payForLastPart_47 rfl (by decide) ?_
      refine aj_bipush (q := 50) (v := 10) dX7_payForLastPart_48 rfl (by decide) ?_
      refine aj_callV (q := 53) (As := [_, _]) cl_X7_53 mk_X6_pays dX7_payForLastPart_50 rfl lR_6 rfl rfl (Nat.le_of_ble_eq_true rfl) (sp_X6_pays hw3 (fun hw4 => ?_))
      refine aj_ifB_eq (q := 56) (tgt := 58) dX7_payForLastPart_53 rfl (by decide) (fun c53_5 => ?_) (fun c53_5 => ?_)
      · refine aj_aload_n (q := 59) (i := 0) dX7_payForLastPart_58 rfl rfl rfl ?_
        refine aj_getR (q := 62) fl_X7_21 dX7_payForLastPart_59 rfl lR_0 rfl ?_
        refine aj_iconst (q := 63) (v := 0) dX7_payForLastPart_62 rfl (by decide) ?_
        refine aj_callV (q := 66) (As := [_]) cl_X7_199 mk_X6_setByReserve dX7_payForLastPart_63 rfl lR_6 rfl rfl (Nat.le_of_ble_eq_true rfl) (sp_X6_setByReserve (by decide) hw4 (fun hw6 => ?_))
        refine aj_iconst (q := 67) (v := (-1)) dX7_payForLastPart_66 rfl (by decide) ?_
        refine aj_ireturn dX7_payForLastPart_67 rfl ?_
        skip
        first | contradiction | with_reducible exact hQ hw6 | (simp (decide := true) only [lpS, lpG, lpB, lpA, lpOk, ↓reduceIte, sw_eq, sw_ne, ne_eq, Nat.reduceEqDiff, not_false_eq_true, Bool.false_eq_true, bi_t, bi_f, c5_1, c30_2, c53_5] at hQ; with_reducible exact hQ hw6) | (simp (decide := true) only [lpS, lpG, lpB, lpA, lpOk, ↓reduceIte, sw_eq, sw_ne, ne_eq, Nat.reduceEqDiff, not_false_eq_true, Bool.false_eq_true, bi_t, bi_f, c5_1, c30_2, c53_5] at hQ hw6 ⊢; with_reducible exact hQ hw6) | exact absurd (by assumption) (by decide : ¬ (1 : Int32) = 0)
      · refine aj_iconst (q := 57) (v := 3) dX7_payForLastPart_56 rfl (by decide) ?_
        refine aj_ireturn dX7_payForLastPart_57 rfl ?_
        skip
        first | contradiction | with_reducible exact hQ hw4 | (simp (decide := true) only [lpS, lpG, lpB, lpA, lpOk, ↓reduceIte, sw_eq, sw_ne, ne_eq, Nat.reduceEqDiff, not_false_eq_true, Bool.false_eq_true, bi_t, bi_f, c5_1, c30_2, c53_5] at hQ; with_reducible exact hQ hw4) | (simp (decide := true) only [lpS, lpG, lpB, lpA, lpOk, ↓reduceIte, sw_eq, sw_ne, ne_eq, Nat.reduceEqDiff, not_false_eq_true, Bool.false_eq_true, bi_t, bi_f, c5_1, c30_2, c53_5] at hQ hw4 ⊢; with_reducible exact hQ hw4) | exact absurd (by assumption) (by decide : ¬ (1 : Int32) = 0)
    · refine aj_iconst (q := 34) (v := (-1)) dX7_payForLastPart_33 rfl (by decide) ?_
      refine aj_ireturn dX7_payForLastPart_34 rfl ?_
      skip
      first | contradiction | with_reducible exact hQ hw | (simp (decide := true) only [lpS, lpG, lpB, lpA, lpOk, ↓reduceIte, sw_eq, sw_ne, ne_eq, Nat.reduceEqDiff, not_false_eq_true, Bool.false_eq_true, bi_t, bi_f, c5_1, c30_2] at hQ; with_reducible exact hQ hw) | (simp (decide := true) only [lpS, lpG, lpB, lpA, lpOk, ↓reduceIte, sw_eq, sw_ne, ne_eq, Nat.reduceEqDiff, not_false_eq_true, Bool.false_eq_true, bi_t, bi_f, c5_1, c30_2] at hQ hw ⊢; with_reducible exact hQ hw) | exact absurd (by assumption) (by decide : ¬ (1 : Int32) = 0)
  · refine aj_aload_n (q := 9) (i := 0) dX7_payForLastPart_8 rfl rfl rfl ?_
    refine aj_getR (q := 12) fl_X7_21 dX7_payForLastPart_9 rfl lR_0 rfl ?_
    refine aj_iconst (q := 13) (v := 3) dX7_payForLastPart_12 rfl (by decide) ?_
    refine aj_bipush (q := 15) (v := 10) dX7_payForLastPart_13 rfl (by decide) ?_
    refine aj_callV (q := 18) (As := [_, _]) cl_X7_53 mk_X6_pays dX7_payForLastPart_15 rfl lR_6 rfl rfl (Nat.le_of_ble_eq_true rfl) (sp_X6_pays hw (fun hw7 => ?_))
    refine aj_ifB_eq (q := 21) (tgt := 23) dX7_payForLastPart_18 rfl (by decide) (fun c18_8 => ?_) (fun c18_8 => ?_)
    · refine aj_aload_n (q := 24) (i := 0) dX7_payForLastPart_23 rfl rfl rfl ?_
      refine aj_getR (q := 27) fl_X7_21 dX7_payForLastPart_24 rfl lR_0 rfl ?_
      refine aj_callV (q := 30) (As := []) cl_X7_196 mk_X6_isByReserve dX7_payForLastPart_27 rfl lR_6 rfl rfl (Nat.le_of_ble_eq_true rfl) (sp_X6_isByReserve hw7 ?_)
      refine aj_ifB_eq (q := 33) (tgt := 35) dX7_payForLastPart_30 rfl (by decide) (fun c30_9 => ?_) (fun c30_9 => ?_)
      · refine aj_aload_n (q := 36) (i := 0) dX7_payForLastPart_35 rfl rfl rfl ?_
        refine aj_getR (q := 39) fl_X7_21 dX7_payForLastPart_36 rfl lR_0 rfl ?_
        refine aj_iconst (q := 40) (v := 1) dX7_payForLastPart_39 rfl (by decide) ?_
        refine aj_callV (q := 43) (As := [_]) cl_X7_199 mk_X6_setByReserve dX7_payForLastPart_40 rfl lR_6 rfl rfl (Nat.le_of_ble_eq_true rfl) (sp_X6_setByReserve (by decide) hw7 (fun hw10 => ?_))
        refine aj_aload_n (q := 44) (i := 0) dX7_payForLastPart_43 rfl rfl rfl ?_
        refine aj_getR (q := 47) fl_X7_21 dX7_payForLastPart_44 rfl lR_0 rfl ?_
        refine aj_iconst (q := 48) (v := 3) dX7_payForLastPart_47 rfl (by decide) ?_
        refine aj_bipush (q := 50) (v := 10) dX7_payForLastPart_48 rfl (by decide) ?_
        refine aj_callV (q := 53) (As := [_, _]) cl_X7_53 mk_X6_pays dX7_payForLastPart_50 rfl lR_6 rfl rfl (Nat.le_of_ble_eq_true rfl) (sp_X6_pays hw10 (fun hw11 => ?_))
        refine aj_ifB_eq (q := 56) (tgt := 58) dX7_payForLastPart_53 rfl (by decide) (fun c53_12 => ?_) (fun c53_12 => ?_)
        · refine aj_aload_n (q := 59) (i := 0) dX7_payForLastPart_58 rfl rfl rfl ?_
          refine aj_getR (q := 62) fl_X7_21 dX7_payForLastPart_59 rfl lR_0 rfl ?_
          refine aj_iconst (q := 63) (v := 0) dX7_payForLastPart_62 rfl (by decide) ?_
          refine aj_callV (q := 66) (As := [_]) cl_X7_199 mk_X6_setByReserve dX7_payForLastPart_63 rfl lR_6 rfl rfl (Nat.le_of_ble_eq_true rfl) (sp_X6_setByReserve (by decide) hw11 (fun hw13 => ?_))
          refine aj_iconst (q := 67) (v := (-1)) dX7_payForLastPart_66 rfl (by decide) ?_
          refine aj_ireturn dX7_payForLastPart_67 rfl ?_
          skip
          first | contradiction | with_reducible exact hQ hw13 | (simp (decide := true) only [lpS, lpG, lpB, lpA, lpOk, ↓reduceIte, sw_eq, sw_ne, ne_eq, Nat.reduceEqDiff, not_false_eq_true, Bool.false_eq_true, bi_t, bi_f, c5_1, c18_8, c30_9, c53_12] at hQ; with_reducible exact hQ hw13) | (simp (decide := true) only [lpS, lpG, lpB, lpA, lpOk, ↓reduceIte, sw_eq, sw_ne, ne_eq, Nat.reduceEqDiff, not_false_eq_true, Bool.false_eq_true, bi_t, bi_f, c5_1, c18_8, c30_9, c53_12] at hQ hw13 ⊢; with_reducible exact hQ hw13) | exact absurd (by assumption) (by decide : ¬ (1 : Int32) = 0)
        · refine aj_iconst (q := 57) (v := 3) dX7_payForLastPart_56 rfl (by decide) ?_
          refine aj_ireturn dX7_payForLastPart_57 rfl ?_
          skip
          first | contradiction | with_reducible exact hQ hw11 | (simp (decide := true) only [lpS, lpG, lpB, lpA, lpOk, ↓reduceIte, sw_eq, sw_ne, ne_eq, Nat.reduceEqDiff, not_false_eq_true, Bool.false_eq_true, bi_t, bi_f, c5_1, c18_8, c30_9, c53_12] at hQ; with_reducible exact hQ hw11) | (simp (decide := true) only [lpS, lpG, lpB, lpA, lpOk, ↓reduceIte, sw_eq, sw_ne, ne_eq, Nat.reduceEqDiff, not_false_eq_true, Bool.false_eq_true, bi_t, bi_f, c5_1, c18_8, c30_9, c53_12] at hQ hw11 ⊢; with_reducible exact hQ hw11) | exact absurd (by assumption) (by decide : ¬ (1 : Int32) = 0)
      · refine aj_iconst (q := 34) (v := (-1)) dX7_payForLastPart_33 rfl (by decide) ?_
        refine aj_ireturn dX7_payForLastPart_34 rfl ?_
        skip
        first | contradiction | with_reducible exact hQ hw7 | (simp (decide := true) only [lpS, lpG, lpB, lpA, lpOk, ↓reduceIte, sw_eq, sw_ne, ne_eq, Nat.reduceEqDiff, not_false_eq_true, Bool.false_eq_true, bi_t, bi_f, c5_1, c18_8, c30_9] at hQ; with_reducible exact hQ hw7) | (simp (decide := true) only [lpS, lpG, lpB, lpA, lpOk, ↓reduceIte, sw_eq, sw_ne, ne_eq, Nat.reduceEqDiff, not_false_eq_true, Bool.false_eq_true, bi_t, bi_f, c5_1, c18_8, c30_9] at hQ hw7 ⊢; with_reducible exact hQ hw7) | exact absurd (by assumption) (by decide : ¬ (1 : Int32) = 0)
    · refine aj_iconst (q := 22) (v := 2) dX7_payForLastPart_21 rfl (by decide) ?_
      refine aj_ireturn dX7_payForLastPart_22 rfl ?_
      skip
      first | contradiction | with_reducible exact hQ hw7 | (simp (decide := true) only [lpS, lpG, lpB, lpA, lpOk, ↓reduceIte, sw_eq, sw_ne, ne_eq, Nat.reduceEqDiff, not_false_eq_true, Bool.false_eq_true, bi_t, bi_f, c5_1, c18_8] at hQ; with_reducible exact hQ hw7) | (simp (decide := true) only [lpS, lpG, lpB, lpA, lpOk, ↓reduceIte, sw_eq, sw_ne, ne_eq, Nat.reduceEqDiff, not_false_eq_true, Bool.false_eq_true, bi_t, bi_f, c5_1, c18_8] at hQ hw7 ⊢; with_reducible exact hQ hw7) | exact absurd (by assumption) (by decide : ¬ (1 : Int32) = 0)
set_option maxRecDepth 2000 in
theorem sp_X7_beginLastPart {d : Nat} {S : Sx} {Q : Option Value → Sx → Prop} {s : Int32} (hw : wfR S) (hQ : wfR (rBeginLast S s) → Q none (rBeginLast S s)) : CC (d + 3) kX7_beginLastPart layR [.ref 0, .int s] S Q := by
  refine cc_intro [some _, some _, none] (by decide) (cc_cat (by rfl)) (Nat.le_of_ble_eq_true rfl) (cc_ls (by rfl)) ?_
  refine aj_aload_n (q := 1) (i := 0) dX7_beginLastPart_0 rfl rfl rfl ?_
  refine aj_callV (q := 4) (As := []) cl_X7_189 mk_X7_payForLastPart dX7_beginLastPart_1 rfl lR_0 rfl rfl (Nat.le_of_ble_eq_true rfl) (sp_X7_payForLastPart hw (fun hw1 => ?_))
  refine aj_istore_n (q := 5) (i := 2) (ls' := [_, _, _]) dX7_beginLastPart_4 rfl rfl (by decide) rfl ?_
  refine aj_iload_n (q := 6) (i := 2) dX7_beginLastPart_5 rfl rfl rfl ?_
  refine aj_iconst (q := 7) (v := (-1)) dX7_beginLastPart_6 rfl (by decide) ?_
  refine aj_icmp_ne (q := 10) (tgt := 18) dX7_beginLastPart_7 rfl (by decide) (fun c7_2 => ?_) (fun c7_2 => ?_)
  · refine aj_aload_n (q := 19) (i := 0) dX7_beginLastPart_18 rfl rfl rfl ?_
    refine aj_getR (q := 22) fl_X7_35 dX7_beginLastPart_19 rfl lR_0 rfl ?_
    refine aj_aload_n (q := 23) (i := 0) dX7_beginLastPart_22 rfl rfl rfl ?_
    refine aj_getI (q := 26) (f := 8) fl_X7_61 dX7_beginLastPart_23 rfl lR_0 rfl rfl ?_
    try simp only [sw_eq, sw_ne, ne_eq, Nat.reduceEqDiff, not_false_eq_true]
    refine aj_aload_n (q := 27) (i := 0) dX7_beginLastPart_26 rfl rfl rfl ?_
    refine aj_getI (q := 30) (f := 9) fl_X7_82 dX7_beginLastPart_27 rfl lR_0 rfl rfl ?_
    try simp only [sw_eq, sw_ne, ne_eq, Nat.reduceEqDiff, not_false_eq_true]
    refine aj_aload_n (q := 31) (i := 0) dX7_beginLastPart_30 rfl rfl rfl ?_
    refine aj_getI (q := 34) (f := 10) fl_X7_85 dX7_beginLastPart_31 rfl lR_0 rfl rfl ?_
    try simp only [sw_eq, sw_ne, ne_eq, Nat.reduceEqDiff, not_false_eq_true]
    refine aj_callV (q := 37) (As := [_, _, _]) cl_X7_192 mk_X0_keep dX7_beginLastPart_34 rfl lR_11 rfl rfl (Nat.le_of_ble_eq_true rfl) (sp_X0_keep hw1 (fun hw3 => ?_))
    refine aj_aload_n (q := 38) (i := 0) dX7_beginLastPart_37 rfl rfl rfl ?_
    refine aj_getR (q := 41) fl_X7_21 dX7_beginLastPart_38 rfl lR_0 rfl ?_
    refine aj_iload_n (q := 42) (i := 1) dX7_beginLastPart_41 rfl rfl rfl ?_
    refine aj_callV (q := 45) (As := [_]) cl_X7_184 mk_X6_noteBegun dX7_beginLastPart_42 rfl lR_6 rfl rfl (Nat.le_of_ble_eq_true rfl) (sp_X6_noteBegun hw3 (fun hw4 => ?_))
    refine aj_aload_n (q := 46) (i := 0) dX7_beginLastPart_45 rfl rfl rfl ?_
    refine aj_iload_n (q := 47) (i := 2) dX7_beginLastPart_46 rfl rfl rfl ?_
    refine aj_aload_n (q := 48) (i := 0) dX7_beginLastPart_47 rfl rfl rfl ?_
    refine aj_getR (q := 51) fl_X7_43 dX7_beginLastPart_48 rfl lR_0 rfl ?_
    refine aj_iload_n (q := 52) (i := 1) dX7_beginLastPart_51 rfl rfl rfl ?_
    refine aj_callV (q := 55) (As := [_]) cl_X7_132 mk_X5_secondOf dX7_beginLastPart_52 rfl lR_17 rfl rfl (Nat.le_of_ble_eq_true rfl) (sp_X5_secondOf hw4 ?_)
    refine aj_callV (q := 58) (As := [_, _]) cl_X7_141 mk_X7_doPart dX7_beginLastPart_55 rfl lR_0 rfl rfl (Nat.le_of_ble_eq_true rfl) (sp_X7_doPart hw4 (fun hw5 => ?_))
    refine aj_return dX7_beginLastPart_58 rfl ?_
    skip
    first | contradiction | with_reducible exact hQ hw5 | (simp (decide := true) only [rBeginLast, rLastK, ↓reduceIte, sw_eq, sw_ne, ne_eq, Nat.reduceEqDiff, not_false_eq_true, Bool.false_eq_true, bi_t, bi_f, c7_2] at hQ; with_reducible exact hQ hw5) | (simp (decide := true) only [rBeginLast, rLastK, ↓reduceIte, sw_eq, sw_ne, ne_eq, Nat.reduceEqDiff, not_false_eq_true, Bool.false_eq_true, bi_t, bi_f, c7_2] at hQ hw5 ⊢; with_reducible exact hQ hw5) | exact absurd (by assumption) (by decide : ¬ (1 : Int32) = 0)
  · refine aj_aload_n (q := 11) (i := 0) dX7_beginLastPart_10 rfl rfl rfl ?_
    refine aj_iconst (q := 12) (v := 3) dX7_beginLastPart_11 rfl (by decide) ?_
    refine aj_callV (q := 15) (As := [_]) cl_X7_166 mk_X7_end dX7_beginLastPart_12 rfl lR_0 rfl rfl (Nat.le_of_ble_eq_true rfl) (sp_X7_end hw1 (fun hw6 => ?_))
    refine aj_goto (tgt := 58) dX7_beginLastPart_15 (by decide) ?_
    refine aj_return dX7_beginLastPart_58 rfl ?_
    skip
    first | contradiction | with_reducible exact hQ hw6 | (simp (decide := true) only [rBeginLast, rLastK, ↓reduceIte, sw_eq, sw_ne, ne_eq, Nat.reduceEqDiff, not_false_eq_true, Bool.false_eq_true, bi_t, bi_f, c7_2] at hQ; with_reducible exact hQ hw6) | (simp (decide := true) only [rBeginLast, rLastK, ↓reduceIte, sw_eq, sw_ne, ne_eq, Nat.reduceEqDiff, not_false_eq_true, Bool.false_eq_true, bi_t, bi_f, c7_2] at hQ hw6 ⊢; with_reducible exact hQ hw6) | exact absurd (by assumption) (by decide : ¬ (1 : Int32) = 0)
set_option maxRecDepth 2000 in
theorem sp_X7_endLastPart {d : Nat} {S : Sx} {Q : Option Value → Sx → Prop} (hw : wfR S) (hQ : wfR (rEndLast S) → Q none (rEndLast S)) : CC (d + 1) kX7_endLastPart layR [.ref 0] S Q := by
  refine cc_intro [some _] (by decide) (cc_cat (by rfl)) (Nat.le_of_ble_eq_true rfl) (cc_ls (by rfl)) ?_
  refine aj_aload_n (q := 1) (i := 0) dX7_endLastPart_0 rfl rfl rfl ?_
  refine aj_getR (q := 4) fl_X7_35 dX7_endLastPart_1 rfl lR_0 rfl ?_
  refine aj_callV (q := 7) (As := []) cl_X7_73 mk_X0_stage dX7_endLastPart_4 rfl lR_11 rfl rfl (Nat.le_of_ble_eq_true rfl) (sp_X0_stage hw ?_)
  refine aj_iconst (q := 8) (v := 3) dX7_endLastPart_7 rfl (by decide) ?_
  refine aj_icmp_ne (q := 11) (tgt := 27) dX7_endLastPart_8 rfl (by decide) (fun c8_1 => ?_) (fun c8_1 => ?_)
  · refine aj_aload_n (q := 28) (i := 0) dX7_endLastPart_27 rfl rfl rfl ?_
    refine aj_getI (q := 31) (f := 8) fl_X7_61 dX7_endLastPart_28 rfl lR_0 rfl rfl ?_
    try simp only [sw_eq, sw_ne, ne_eq, Nat.reduceEqDiff, not_false_eq_true]
    refine aj_if_ne (q := 34) (tgt := 67) dX7_endLastPart_31 rfl (by decide) (fun c31_2 => ?_) (fun c31_2 => ?_)
    · refine aj_aload_n (q := 68) (i := 0) dX7_endLastPart_67 rfl rfl rfl ?_
      refine aj_getR (q := 71) fl_X7_35 dX7_endLastPart_68 rfl lR_0 rfl ?_
      refine aj_callV (q := 74) (As := []) cl_X7_181 mk_X0_close dX7_endLastPart_71 rfl lR_11 rfl rfl (Nat.le_of_ble_eq_true rfl) (sp_X0_close hw (fun hw3 => ?_))
      refine aj_return dX7_endLastPart_74 rfl ?_
      skip
      first | contradiction | with_reducible exact hQ hw3 | (simp (decide := true) only [rEndLast, rLastE3, rLastE2, rLastE1, ↓reduceIte, sw_eq, sw_ne, ne_eq, Nat.reduceEqDiff, not_false_eq_true, Bool.false_eq_true, bi_t, bi_f, c8_1, c31_2] at hQ; with_reducible exact hQ hw3) | (simp (decide := true) only [rEndLast, rLastE3, rLastE2, rLastE1, ↓reduceIte, sw_eq, sw_ne, ne_eq, Nat.reduceEqDiff, not_false_eq_true, Bool.false_eq_true, bi_t, bi_f, c8_1, c31_2] at hQ hw3 ⊢; with_reducible exact hQ hw3) | exact absurd (by assumption) (by decide : ¬ (1 : Int32) = 0)
    · refine aj_aload_n (q := 35) (i := 0) dX7_endLastPart_34 rfl rfl rfl ?_
      refine aj_aload_n (q := 36) (i := 0) dX7_endLastPart_35 rfl rfl rfl ?_
      refine aj_getR (q := 39) fl_X7_35 dX7_endLastPart_36 rfl lR_0 rfl ?_
      refine aj_callV (q := 42) (As := []) cl_X7_203 mk_X0_keptEnding dX7_endLastPart_39 rfl lR_11 rfl rfl (Nat.le_of_ble_eq_true rfl) (sp_X0_keptEnding hw ?_)
      refine aj_putIw (q := 45) (f := 8) hw rfl okR fp_X7_61 dX7_endLastPart_42 rfl lR_0 rfl rfl (fun hw4 => ?_)
      refine aj_aload_n (q := 46) (i := 0) dX7_endLastPart_45 rfl rfl rfl ?_
      refine aj_aload_n (q := 47) (i := 0) dX7_endLastPart_46 rfl rfl rfl ?_
      refine aj_getR (q := 50) fl_X7_35 dX7_endLastPart_47 rfl lR_0 rfl ?_
      refine aj_callV (q := 53) (As := []) cl_X7_206 mk_X0_keptKind dX7_endLastPart_50 rfl lR_11 rfl rfl (Nat.le_of_ble_eq_true rfl) (sp_X0_keptKind hw4 ?_)
      refine aj_putIw (q := 56) (f := 9) hw4 rfl okR fp_X7_82 dX7_endLastPart_53 rfl lR_0 rfl rfl (fun hw5 => ?_)
      refine aj_aload_n (q := 57) (i := 0) dX7_endLastPart_56 rfl rfl rfl ?_
      refine aj_aload_n (q := 58) (i := 0) dX7_endLastPart_57 rfl rfl rfl ?_
      refine aj_getR (q := 61) fl_X7_35 dX7_endLastPart_58 rfl lR_0 rfl ?_
      refine aj_callV (q := 64) (As := []) cl_X7_209 mk_X0_keptNumber dX7_endLastPart_61 rfl lR_11 rfl rfl (Nat.le_of_ble_eq_true rfl) (sp_X0_keptNumber hw5 ?_)
      refine aj_putIw (q := 67) (f := 10) hw5 rfl okR fp_X7_85 dX7_endLastPart_64 rfl lR_0 rfl rfl (fun hw6 => ?_)
      refine aj_aload_n (q := 68) (i := 0) dX7_endLastPart_67 rfl rfl rfl ?_
      refine aj_getR (q := 71) fl_X7_35 dX7_endLastPart_68 rfl lR_0 rfl ?_
      refine aj_callV (q := 74) (As := []) cl_X7_181 mk_X0_close dX7_endLastPart_71 rfl lR_11 rfl rfl (Nat.le_of_ble_eq_true rfl) (sp_X0_close hw6 (fun hw7 => ?_))
      refine aj_return dX7_endLastPart_74 rfl ?_
      skip
      first | contradiction | with_reducible exact hQ hw7 | (simp (decide := true) only [rEndLast, rLastE3, rLastE2, rLastE1, ↓reduceIte, sw_eq, sw_ne, ne_eq, Nat.reduceEqDiff, not_false_eq_true, Bool.false_eq_true, bi_t, bi_f, c8_1, c31_2] at hQ; with_reducible exact hQ hw7) | (simp (decide := true) only [rEndLast, rLastE3, rLastE2, rLastE1, ↓reduceIte, sw_eq, sw_ne, ne_eq, Nat.reduceEqDiff, not_false_eq_true, Bool.false_eq_true, bi_t, bi_f, c8_1, c31_2] at hQ hw7 ⊢; with_reducible exact hQ hw7) | exact absurd (by assumption) (by decide : ¬ (1 : Int32) = 0)
  · refine aj_aload_n (q := 12) (i := 0) dX7_endLastPart_11 rfl rfl rfl ?_
    refine aj_getR (q := 15) fl_X7_21 dX7_endLastPart_12 rfl lR_0 rfl ?_
    refine aj_iconst (q := 16) (v := 0) dX7_endLastPart_15 rfl (by decide) ?_
    refine aj_callV (q := 19) (As := [_]) cl_X7_199 mk_X6_setByReserve dX7_endLastPart_16 rfl lR_6 rfl rfl (Nat.le_of_ble_eq_true rfl) (sp_X6_setByReserve (by decide) hw (fun hw8 => ?_))
    refine aj_aload_n (q := 20) (i := 0) dX7_endLastPart_19 rfl rfl rfl ?_
    refine aj_iconst (q := 21) (v := 3) dX7_endLastPart_20 rfl (by decide) ?_
    refine aj_putIw (q := 24) (f := 8) hw8 rfl okR fp_X7_61 dX7_endLastPart_21 rfl lR_0 rfl rfl (fun hw9 => ?_)
    refine aj_goto (tgt := 67) dX7_endLastPart_24 (by decide) ?_
    refine aj_aload_n (q := 68) (i := 0) dX7_endLastPart_67 rfl rfl rfl ?_
    refine aj_getR (q := 71) fl_X7_35 dX7_endLastPart_68 rfl lR_0 rfl ?_
    refine aj_callV (q := 74) (As := []) cl_X7_181 mk_X0_close dX7_endLastPart_71 rfl lR_11 rfl rfl (Nat.le_of_ble_eq_true rfl) (sp_X0_close hw9 (fun hw10 => ?_))
    refine aj_return dX7_endLastPart_74 rfl ?_
    skip
    first | contradiction | with_reducible exact hQ hw10 | (simp (decide := true) only [rEndLast, rLastE3, rLastE2, rLastE1, ↓reduceIte, sw_eq, sw_ne, ne_eq, Nat.reduceEqDiff, not_false_eq_true, Bool.false_eq_true, bi_t, bi_f, c8_1] at hQ; with_reducible exact hQ hw10) | (simp (decide := true) only [rEndLast, rLastE3, rLastE2, rLastE1, ↓reduceIte, sw_eq, sw_ne, ne_eq, Nat.reduceEqDiff, not_false_eq_true, Bool.false_eq_true, bi_t, bi_f, c8_1] at hQ hw10 ⊢; with_reducible exact hQ hw10) | exact absurd (by assumption) (by decide : ¬ (1 : Int32) = 0)
set_option maxRecDepth 2000 in
theorem sp_X7_goOn {d : Nat} {S : Sx} {Q : Option Value → Sx → Prop} {s : Int32} (hw : wfR S) (hQ : wfR (rGoOn S s) → Q none (rGoOn S s)) : CC (d + 4) kX7_goOn layR [.ref 0, .int s] S Q := by
  refine cc_intro [some _, some _] (by decide) (cc_cat (by rfl)) (Nat.le_of_ble_eq_true rfl) (cc_ls (by rfl)) ?_
  refine aj_aload_n (q := 1) (i := 0) dX7_goOn_0 rfl rfl rfl ?_
  refine aj_getR (q := 4) fl_X7_43 dX7_goOn_1 rfl lR_0 rfl ?_
  refine aj_iload_n (q := 5) (i := 1) dX7_goOn_4 rfl rfl rfl ?_
  refine aj_callV (q := 8) (As := [_]) cl_X7_138 mk_X5_sortOf dX7_goOn_5 rfl lR_17 rfl rfl (Nat.le_of_ble_eq_true rfl) (sp_X5_sortOf hw ?_)
  refine aj_tsn (fun x1 ex1 => ?_)
  by_cases e1_12 : x1 = 12
  · refine aj_tsIn (tgt := 60) (off := 52) dX7_goOn_8 (by rw [e1_12]; decide) (by rw [e1_12]; decide) (by rw [e1_12]; rfl) (by decide) ?_
    refine aj_aload_n (q := 61) (i := 0) dX7_goOn_60 rfl rfl rfl ?_
    refine aj_iload_n (q := 62) (i := 1) dX7_goOn_61 rfl rfl rfl ?_
    refine aj_callV (q := 65) (As := [_]) cl_X7_160 mk_X7_goOnWithBoth dX7_goOn_62 rfl lR_0 rfl rfl (Nat.le_of_ble_eq_true rfl) (sp_X7_goOnWithBoth hw (fun hw2 => ?_))
    refine aj_goto (tgt := 175) dX7_goOn_65 (by decide) ?_
    refine aj_return dX7_goOn_175 rfl ?_
    skip; subst ex1
    first | contradiction | with_reducible exact hQ hw2 | (simp (decide := true) only [rGoOn, ↓reduceIte, sw_eq, sw_ne, ne_eq, Nat.reduceEqDiff, not_false_eq_true, Bool.false_eq_true, bi_t, bi_f, e1_12] at hQ; with_reducible exact hQ hw2) | (simp (decide := true) only [rGoOn, ↓reduceIte, sw_eq, sw_ne, ne_eq, Nat.reduceEqDiff, not_false_eq_true, Bool.false_eq_true, bi_t, bi_f, e1_12] at hQ hw2 ⊢; with_reducible exact hQ hw2) | exact absurd (by assumption) (by decide : ¬ (1 : Int32) = 0)
  by_cases e1_14 : x1 = 14
  · refine aj_tsIn (tgt := 68) (off := 60) dX7_goOn_8 (by rw [e1_14]; decide) (by rw [e1_14]; decide) (by rw [e1_14]; rfl) (by decide) ?_
    refine aj_aload_n (q := 69) (i := 0) dX7_goOn_68 rfl rfl rfl ?_
    refine aj_iload_n (q := 70) (i := 1) dX7_goOn_69 rfl rfl rfl ?_
    refine aj_callV (q := 73) (As := [_]) cl_X7_163 mk_X7_goOnWithLoop dX7_goOn_70 rfl lR_0 rfl rfl (Nat.le_of_ble_eq_true rfl) (sp_X7_goOnWithLoop hw (fun hw3 => ?_))
    refine aj_goto (tgt := 175) dX7_goOn_73 (by decide) ?_
    refine aj_return dX7_goOn_175 rfl ?_
    skip; subst ex1
    first | contradiction | with_reducible exact hQ hw3 | (simp (decide := true) only [rGoOn, ↓reduceIte, sw_eq, sw_ne, ne_eq, Nat.reduceEqDiff, not_false_eq_true, Bool.false_eq_true, bi_t, bi_f, e1_14] at hQ; with_reducible exact hQ hw3) | (simp (decide := true) only [rGoOn, ↓reduceIte, sw_eq, sw_ne, ne_eq, Nat.reduceEqDiff, not_false_eq_true, Bool.false_eq_true, bi_t, bi_f, e1_14] at hQ hw3 ⊢; with_reducible exact hQ hw3) | exact absurd (by assumption) (by decide : ¬ (1 : Int32) = 0)
  by_cases e1_15 : x1 = 15
  · refine aj_tsIn (tgt := 76) (off := 68) dX7_goOn_8 (by rw [e1_15]; decide) (by rw [e1_15]; decide) (by rw [e1_15]; rfl) (by decide) ?_
    refine aj_aload_n (q := 77) (i := 0) dX7_goOn_76 rfl rfl rfl ?_
    refine aj_dup (q := 78) dX7_goOn_77 rfl rfl ?_
    refine aj_getI (q := 81) (f := 6) fl_X7_124 dX7_goOn_78 rfl lR_0 rfl rfl ?_
    try simp only [sw_eq, sw_ne, ne_eq, Nat.reduceEqDiff, not_false_eq_true]
    refine aj_iconst (q := 82) (v := 1) dX7_goOn_81 rfl (by decide) ?_
    refine aj_isub (q := 83) dX7_goOn_82 rfl ?_
    refine aj_putIw (q := 86) (f := 6) hw rfl okR fp_X7_124 dX7_goOn_83 rfl lR_0 rfl rfl (fun hw4 => ?_)
    refine aj_aload_n (q := 87) (i := 0) dX7_goOn_86 rfl rfl rfl ?_
    refine aj_aload_n (q := 88) (i := 0) dX7_goOn_87 rfl rfl rfl ?_
    refine aj_getI (q := 91) (f := 8) fl_X7_61 dX7_goOn_88 rfl lR_0 rfl rfl ?_
    try simp only [sw_eq, sw_ne, ne_eq, Nat.reduceEqDiff, not_false_eq_true]
    refine aj_iconst (q := 92) (v := 1) dX7_goOn_91 rfl (by decide) ?_
    refine aj_icmp_ne (q := 95) (tgt := 99) dX7_goOn_92 rfl (by decide) (fun c92_5 => ?_) (fun c92_5 => ?_)
    · refine aj_aload_n (q := 100) (i := 0) dX7_goOn_99 rfl rfl rfl ?_
      refine aj_getI (q := 103) (f := 8) fl_X7_61 dX7_goOn_100 rfl lR_0 rfl rfl ?_
      try simp only [sw_eq, sw_ne, ne_eq, Nat.reduceEqDiff, not_false_eq_true]
      refine aj_callV (q := 106) (As := [_]) cl_X7_166 mk_X7_end dX7_goOn_103 rfl lR_0 rfl rfl (Nat.le_of_ble_eq_true rfl) (sp_X7_end hw4 (fun hw6 => ?_))
      refine aj_goto (tgt := 175) dX7_goOn_106 (by decide) ?_
      refine aj_return dX7_goOn_175 rfl ?_
      skip; subst ex1
      first | contradiction | with_reducible exact hQ hw6 | (simp (decide := true) only [rGoOn, ↓reduceIte, sw_eq, sw_ne, ne_eq, Nat.reduceEqDiff, not_false_eq_true, Bool.false_eq_true, bi_t, bi_f, e1_15, c92_5] at hQ; with_reducible exact hQ hw6) | (simp (decide := true) only [rGoOn, ↓reduceIte, sw_eq, sw_ne, ne_eq, Nat.reduceEqDiff, not_false_eq_true, Bool.false_eq_true, bi_t, bi_f, e1_15, c92_5] at hQ hw6 ⊢; with_reducible exact hQ hw6) | exact absurd (by assumption) (by decide : ¬ (1 : Int32) = 0)
    · refine aj_iconst (q := 96) (v := 0) dX7_goOn_95 rfl (by decide) ?_
      refine aj_goto (tgt := 103) dX7_goOn_96 (by decide) ?_
      refine aj_callV (q := 106) (As := [_]) cl_X7_166 mk_X7_end dX7_goOn_103 rfl lR_0 rfl rfl (Nat.le_of_ble_eq_true rfl) (sp_X7_end hw4 (fun hw7 => ?_))
      refine aj_goto (tgt := 175) dX7_goOn_106 (by decide) ?_
      refine aj_return dX7_goOn_175 rfl ?_
      skip; subst ex1
      first | contradiction | with_reducible exact hQ hw7 | (simp (decide := true) only [rGoOn, ↓reduceIte, sw_eq, sw_ne, ne_eq, Nat.reduceEqDiff, not_false_eq_true, Bool.false_eq_true, bi_t, bi_f, e1_15, c92_5] at hQ; with_reducible exact hQ hw7) | (simp (decide := true) only [rGoOn, ↓reduceIte, sw_eq, sw_ne, ne_eq, Nat.reduceEqDiff, not_false_eq_true, Bool.false_eq_true, bi_t, bi_f, e1_15, c92_5] at hQ hw7 ⊢; with_reducible exact hQ hw7) | exact absurd (by assumption) (by decide : ¬ (1 : Int32) = 0)
  by_cases e1_18 : x1 = 18
  · refine aj_tsIn (tgt := 109) (off := 101) dX7_goOn_8 (by rw [e1_18]; decide) (by rw [e1_18]; decide) (by rw [e1_18]; rfl) (by decide) ?_
    refine aj_aload_n (q := 110) (i := 0) dX7_goOn_109 rfl rfl rfl ?_
    refine aj_iload_n (q := 111) (i := 1) dX7_goOn_110 rfl rfl rfl ?_
    refine aj_callV (q := 114) (As := [_]) cl_X7_169 mk_X7_goOnWithTry dX7_goOn_111 rfl lR_0 rfl rfl (Nat.le_of_ble_eq_true rfl) (sp_X7_goOnWithTry hw (fun hw8 => ?_))
    refine aj_goto (tgt := 175) dX7_goOn_114 (by decide) ?_
    refine aj_return dX7_goOn_175 rfl ?_
    skip; subst ex1
    first | contradiction | with_reducible exact hQ hw8 | (simp (decide := true) only [rGoOn, ↓reduceIte, sw_eq, sw_ne, ne_eq, Nat.reduceEqDiff, not_false_eq_true, Bool.false_eq_true, bi_t, bi_f, e1_18] at hQ; with_reducible exact hQ hw8) | (simp (decide := true) only [rGoOn, ↓reduceIte, sw_eq, sw_ne, ne_eq, Nat.reduceEqDiff, not_false_eq_true, Bool.false_eq_true, bi_t, bi_f, e1_18] at hQ hw8 ⊢; with_reducible exact hQ hw8) | exact absurd (by assumption) (by decide : ¬ (1 : Int32) = 0)
  by_cases e1_19 : x1 = 19
  · refine aj_tsIn (tgt := 117) (off := 109) dX7_goOn_8 (by rw [e1_19]; decide) (by rw [e1_19]; decide) (by rw [e1_19]; rfl) (by decide) ?_
    refine aj_aload_n (q := 118) (i := 0) dX7_goOn_117 rfl rfl rfl ?_
    refine aj_getR (q := 121) fl_X7_35 dX7_goOn_118 rfl lR_0 rfl ?_
    refine aj_callV (q := 124) (As := []) cl_X7_73 mk_X0_stage dX7_goOn_121 rfl lR_11 rfl rfl (Nat.le_of_ble_eq_true rfl) (sp_X0_stage hw ?_)
    refine aj_iconst (q := 125) (v := 1) dX7_goOn_124 rfl (by decide) ?_
    refine aj_icmp_ne (q := 128) (tgt := 136) dX7_goOn_125 rfl (by decide) (fun c125_9 => ?_) (fun c125_9 => ?_)
    · refine aj_aload_n (q := 137) (i := 0) dX7_goOn_136 rfl rfl rfl ?_
      refine aj_callV (q := 140) (As := []) cl_X7_175 mk_X7_endLastPart dX7_goOn_137 rfl lR_0 rfl rfl (Nat.le_of_ble_eq_true rfl) (sp_X7_endLastPart hw (fun hw10 => ?_))
      refine aj_goto (tgt := 175) dX7_goOn_140 (by decide) ?_
      refine aj_return dX7_goOn_175 rfl ?_
      skip; subst ex1
      first | contradiction | with_reducible exact hQ hw10 | (simp (decide := true) only [rGoOn, ↓reduceIte, sw_eq, sw_ne, ne_eq, Nat.reduceEqDiff, not_false_eq_true, Bool.false_eq_true, bi_t, bi_f, e1_19, c125_9] at hQ; with_reducible exact hQ hw10) | (simp (decide := true) only [rGoOn, ↓reduceIte, sw_eq, sw_ne, ne_eq, Nat.reduceEqDiff, not_false_eq_true, Bool.false_eq_true, bi_t, bi_f, e1_19, c125_9] at hQ hw10 ⊢; with_reducible exact hQ hw10) | exact absurd (by assumption) (by decide : ¬ (1 : Int32) = 0)
    · refine aj_aload_n (q := 129) (i := 0) dX7_goOn_128 rfl rfl rfl ?_
      refine aj_iload_n (q := 130) (i := 1) dX7_goOn_129 rfl rfl rfl ?_
      refine aj_callV (q := 133) (As := [_]) cl_X7_172 mk_X7_beginLastPart dX7_goOn_130 rfl lR_0 rfl rfl (Nat.le_of_ble_eq_true rfl) (sp_X7_beginLastPart hw (fun hw11 => ?_))
      refine aj_goto (tgt := 175) dX7_goOn_133 (by decide) ?_
      refine aj_return dX7_goOn_175 rfl ?_
      skip; subst ex1
      first | contradiction | with_reducible exact hQ hw11 | (simp (decide := true) only [rGoOn, ↓reduceIte, sw_eq, sw_ne, ne_eq, Nat.reduceEqDiff, not_false_eq_true, Bool.false_eq_true, bi_t, bi_f, e1_19, c125_9] at hQ; with_reducible exact hQ hw11) | (simp (decide := true) only [rGoOn, ↓reduceIte, sw_eq, sw_ne, ne_eq, Nat.reduceEqDiff, not_false_eq_true, Bool.false_eq_true, bi_t, bi_f, e1_19, c125_9] at hQ hw11 ⊢; with_reducible exact hQ hw11) | exact absurd (by assumption) (by decide : ¬ (1 : Int32) = 0)
  by_cases e1_20 : x1 = 20
  · refine aj_tsIn (tgt := 143) (off := 135) dX7_goOn_8 (by rw [e1_20]; decide) (by rw [e1_20]; decide) (by rw [e1_20]; rfl) (by decide) ?_
    refine aj_aload_n (q := 144) (i := 0) dX7_goOn_143 rfl rfl rfl ?_
    refine aj_getR (q := 147) fl_X7_28 dX7_goOn_144 rfl lR_0 rfl ?_
    refine aj_aload_n (q := 148) (i := 0) dX7_goOn_147 rfl rfl rfl ?_
    refine aj_getR (q := 151) fl_X7_43 dX7_goOn_148 rfl lR_0 rfl ?_
    refine aj_iload_n (q := 152) (i := 1) dX7_goOn_151 rfl rfl rfl ?_
    refine aj_callV (q := 155) (As := [_]) cl_X7_127 mk_X5_firstOf dX7_goOn_152 rfl lR_17 rfl rfl (Nat.le_of_ble_eq_true rfl) (sp_X5_firstOf hw ?_)
    refine aj_callV (q := 158) (As := [_]) cl_X7_178 mk_X2_free dX7_goOn_155 rfl lR_9 rfl rfl (Nat.le_of_ble_eq_true rfl) (sp_X2_free hw (fun hw12 => ?_))
    refine aj_aload_n (q := 159) (i := 0) dX7_goOn_158 rfl rfl rfl ?_
    refine aj_getR (q := 162) fl_X7_35 dX7_goOn_159 rfl lR_0 rfl ?_
    refine aj_callV (q := 165) (As := []) cl_X7_181 mk_X0_close dX7_goOn_162 rfl lR_11 rfl rfl (Nat.le_of_ble_eq_true rfl) (sp_X0_close hw12 (fun hw13 => ?_))
    refine aj_goto (tgt := 175) dX7_goOn_165 (by decide) ?_
    refine aj_return dX7_goOn_175 rfl ?_
    skip; subst ex1
    first | contradiction | with_reducible exact hQ hw13 | (simp (decide := true) only [rGoOn, ↓reduceIte, sw_eq, sw_ne, ne_eq, Nat.reduceEqDiff, not_false_eq_true, Bool.false_eq_true, bi_t, bi_f, e1_20] at hQ; with_reducible exact hQ hw13) | (simp (decide := true) only [rGoOn, ↓reduceIte, sw_eq, sw_ne, ne_eq, Nat.reduceEqDiff, not_false_eq_true, Bool.false_eq_true, bi_t, bi_f, e1_20] at hQ hw13 ⊢; with_reducible exact hQ hw13) | exact absurd (by assumption) (by decide : ¬ (1 : Int32) = 0)
  by_cases e1_13 : x1 = 13
  · refine aj_tsIn (tgt := 168) (off := 160) dX7_goOn_8 (by rw [e1_13]; decide) (by rw [e1_13]; decide) (by rw [e1_13]; rfl) (by decide) ?_
    refine aj_aload_n (q := 169) (i := 0) dX7_goOn_168 rfl rfl rfl ?_
    refine aj_getR (q := 172) fl_X7_35 dX7_goOn_169 rfl lR_0 rfl ?_
    refine aj_callV (q := 175) (As := []) cl_X7_181 mk_X0_close dX7_goOn_172 rfl lR_11 rfl rfl (Nat.le_of_ble_eq_true rfl) (sp_X0_close hw (fun hw14 => ?_))
    refine aj_return dX7_goOn_175 rfl ?_
    skip; subst ex1
    first | contradiction | with_reducible exact hQ hw14 | (simp (decide := true) only [rGoOn, ↓reduceIte, sw_eq, sw_ne, ne_eq, Nat.reduceEqDiff, not_false_eq_true, Bool.false_eq_true, bi_t, bi_f, e1_13] at hQ; with_reducible exact hQ hw14) | (simp (decide := true) only [rGoOn, ↓reduceIte, sw_eq, sw_ne, ne_eq, Nat.reduceEqDiff, not_false_eq_true, Bool.false_eq_true, bi_t, bi_f, e1_13] at hQ hw14 ⊢; with_reducible exact hQ hw14) | exact absurd (by assumption) (by decide : ¬ (1 : Int32) = 0)
  by_cases e1_16 : x1 = 16
  · refine aj_tsIn (tgt := 168) (off := 160) dX7_goOn_8 (by rw [e1_16]; decide) (by rw [e1_16]; decide) (by rw [e1_16]; rfl) (by decide) ?_
    refine aj_aload_n (q := 169) (i := 0) dX7_goOn_168 rfl rfl rfl ?_
    refine aj_getR (q := 172) fl_X7_35 dX7_goOn_169 rfl lR_0 rfl ?_
    refine aj_callV (q := 175) (As := []) cl_X7_181 mk_X0_close dX7_goOn_172 rfl lR_11 rfl rfl (Nat.le_of_ble_eq_true rfl) (sp_X0_close hw (fun hw15 => ?_))
    refine aj_return dX7_goOn_175 rfl ?_
    skip; subst ex1
    first | contradiction | with_reducible exact hQ hw15 | (simp (decide := true) only [rGoOn, ↓reduceIte, sw_eq, sw_ne, ne_eq, Nat.reduceEqDiff, not_false_eq_true, Bool.false_eq_true, bi_t, bi_f, e1_16] at hQ; with_reducible exact hQ hw15) | (simp (decide := true) only [rGoOn, ↓reduceIte, sw_eq, sw_ne, ne_eq, Nat.reduceEqDiff, not_false_eq_true, Bool.false_eq_true, bi_t, bi_f, e1_16] at hQ hw15 ⊢; with_reducible exact hQ hw15) | exact absurd (by assumption) (by decide : ¬ (1 : Int32) = 0)
  by_cases e1_17 : x1 = 17
  · refine aj_tsIn (tgt := 168) (off := 160) dX7_goOn_8 (by rw [e1_17]; decide) (by rw [e1_17]; decide) (by rw [e1_17]; rfl) (by decide) ?_
    refine aj_aload_n (q := 169) (i := 0) dX7_goOn_168 rfl rfl rfl ?_
    refine aj_getR (q := 172) fl_X7_35 dX7_goOn_169 rfl lR_0 rfl ?_
    refine aj_callV (q := 175) (As := []) cl_X7_181 mk_X0_close dX7_goOn_172 rfl lR_11 rfl rfl (Nat.le_of_ble_eq_true rfl) (sp_X0_close hw (fun hw16 => ?_))
    refine aj_return dX7_goOn_175 rfl ?_
    skip; subst ex1
    first | contradiction | with_reducible exact hQ hw16 | (simp (decide := true) only [rGoOn, ↓reduceIte, sw_eq, sw_ne, ne_eq, Nat.reduceEqDiff, not_false_eq_true, Bool.false_eq_true, bi_t, bi_f, e1_17] at hQ; with_reducible exact hQ hw16) | (simp (decide := true) only [rGoOn, ↓reduceIte, sw_eq, sw_ne, ne_eq, Nat.reduceEqDiff, not_false_eq_true, Bool.false_eq_true, bi_t, bi_f, e1_17] at hQ hw16 ⊢; with_reducible exact hQ hw16) | exact absurd (by assumption) (by decide : ¬ (1 : Int32) = 0)
  refine aj_tsOut (tgt := 168) dX7_goOn_8 (by have := And.intro trivial trivial; have z0 := lv_neT (a := 12) e1_12 rfl; have z1 := lv_neT (a := 13) e1_13 rfl; have z2 := lv_neT (a := 14) e1_14 rfl; have z3 := lv_neT (a := 15) e1_15 rfl; have z4 := lv_neT (a := 16) e1_16 rfl; have z5 := lv_neT (a := 17) e1_17 rfl; have z6 := lv_neT (a := 18) e1_18 rfl; have z7 := lv_neT (a := 19) e1_19 rfl; have z8 := lv_neT (a := 20) e1_20 rfl; omega) (by decide) ?_
  refine aj_aload_n (q := 169) (i := 0) dX7_goOn_168 rfl rfl rfl ?_
  refine aj_getR (q := 172) fl_X7_35 dX7_goOn_169 rfl lR_0 rfl ?_
  refine aj_callV (q := 175) (As := []) cl_X7_181 mk_X0_close dX7_goOn_172 rfl lR_11 rfl rfl (Nat.le_of_ble_eq_true rfl) (sp_X0_close hw (fun hw17 => ?_))
  refine aj_return dX7_goOn_175 rfl ?_
  skip; subst ex1
  first | contradiction | with_reducible exact hQ hw17 | (simp (decide := true) only [rGoOn, ↓reduceIte, sw_eq, sw_ne, ne_eq, Nat.reduceEqDiff, not_false_eq_true, Bool.false_eq_true, bi_t, bi_f, e1_12, e1_13, e1_14, e1_15, e1_16, e1_17, e1_18, e1_19, e1_20] at hQ; with_reducible exact hQ hw17) | (simp (decide := true) only [rGoOn, ↓reduceIte, sw_eq, sw_ne, ne_eq, Nat.reduceEqDiff, not_false_eq_true, Bool.false_eq_true, bi_t, bi_f, e1_12, e1_13, e1_14, e1_15, e1_16, e1_17, e1_18, e1_19, e1_20] at hQ hw17 ⊢; with_reducible exact hQ hw17) | exact absurd (by assumption) (by decide : ¬ (1 : Int32) = 0)
set_option maxRecDepth 2000 in
theorem sp_X7_clear {d : Nat} {S : Sx} {Q : Option Value → Sx → Prop} {x b : Int32} (hw : wfR S) (hQ : wfR (rClear S x b) → Q none (rClear S x b)) : CC (d + 2) kX7_clear layR [.ref 0, .int x, .int b] S Q := by
  refine cc_intro [some _, some _, some _] (by decide) (cc_cat (by rfl)) (Nat.le_of_ble_eq_true rfl) (cc_ls (by rfl)) ?_
  refine aj_aload_n (q := 1) (i := 0) dX7_clear_0 rfl rfl rfl ?_
  refine aj_getR (q := 4) fl_X7_12 dX7_clear_1 rfl lR_0 rfl ?_
  refine aj_callV (q := 7) (As := []) cl_X7_114 mk_X4_clear dX7_clear_4 rfl lR_1 rfl rfl (Nat.le_of_ble_eq_true rfl) (sp_X4_clear hw (fun hw1 => ?_))
  refine aj_aload_n (q := 8) (i := 0) dX7_clear_7 rfl rfl rfl ?_
  refine aj_getR (q := 11) fl_X7_12 dX7_clear_8 rfl lR_0 rfl ?_
  refine aj_iconst (q := 12) (v := 0) dX7_clear_11 rfl (by decide) ?_
  refine aj_iload_n (q := 13) (i := 1) dX7_clear_12 rfl rfl rfl ?_
  refine aj_callV (q := 16) (As := [_, _]) cl_X7_116 mk_X4_write dX7_clear_13 rfl lR_1 rfl rfl (Nat.le_of_ble_eq_true rfl) (sp_X4_write hw1 (fun hw2 => ?_))
  refine aj_aload_n (q := 17) (i := 0) dX7_clear_16 rfl rfl rfl ?_
  refine aj_getR (q := 20) fl_X7_21 dX7_clear_17 rfl lR_0 rfl ?_
  refine aj_iload_n (q := 21) (i := 2) dX7_clear_20 rfl rfl rfl ?_
  refine aj_callV (q := 24) (As := [_]) cl_X7_119 mk_X6_fill dX7_clear_21 rfl lR_6 rfl rfl (Nat.le_of_ble_eq_true rfl) (sp_X6_fill hw2 (fun hw3 => ?_))
  refine aj_aload_n (q := 25) (i := 0) dX7_clear_24 rfl rfl rfl ?_
  refine aj_getR (q := 28) fl_X7_28 dX7_clear_25 rfl lR_0 rfl ?_
  refine aj_callV (q := 31) (As := []) cl_X7_122 mk_X2_clear dX7_clear_28 rfl lR_9 rfl rfl (Nat.le_of_ble_eq_true rfl) (sp_X2_clear hw3 (fun hw4 => ?_))
  refine aj_aload_n (q := 32) (i := 0) dX7_clear_31 rfl rfl rfl ?_
  refine aj_getR (q := 35) fl_X7_35 dX7_clear_32 rfl lR_0 rfl ?_
  refine aj_callV (q := 38) (As := []) cl_X7_123 mk_X0_clear dX7_clear_35 rfl lR_11 rfl rfl (Nat.le_of_ble_eq_true rfl) (sp_X0_clear hw4 (fun hw5 => ?_))
  refine aj_aload_n (q := 39) (i := 0) dX7_clear_38 rfl rfl rfl ?_
  refine aj_iconst (q := 40) (v := 0) dX7_clear_39 rfl (by decide) ?_
  refine aj_putIw (q := 43) (f := 6) hw5 rfl okR fp_X7_124 dX7_clear_40 rfl lR_0 rfl rfl (fun hw6 => ?_)
  refine aj_aload_n (q := 44) (i := 0) dX7_clear_43 rfl rfl rfl ?_
  refine aj_iconst (q := 45) (v := 0) dX7_clear_44 rfl (by decide) ?_
  refine aj_putIw (q := 48) (f := 7) hw6 rfl okR fp_X7_97 dX7_clear_45 rfl lR_0 rfl rfl (fun hw7 => ?_)
  refine aj_aload_n (q := 49) (i := 0) dX7_clear_48 rfl rfl rfl ?_
  refine aj_iconst (q := 50) (v := 0) dX7_clear_49 rfl (by decide) ?_
  refine aj_putIw (q := 53) (f := 8) hw7 rfl okR fp_X7_61 dX7_clear_50 rfl lR_0 rfl rfl (fun hw8 => ?_)
  refine aj_aload_n (q := 54) (i := 0) dX7_clear_53 rfl rfl rfl ?_
  refine aj_iconst (q := 55) (v := 0) dX7_clear_54 rfl (by decide) ?_
  refine aj_putIw (q := 58) (f := 9) hw8 rfl okR fp_X7_82 dX7_clear_55 rfl lR_0 rfl rfl (fun hw9 => ?_)
  refine aj_aload_n (q := 59) (i := 0) dX7_clear_58 rfl rfl rfl ?_
  refine aj_iconst (q := 60) (v := 0) dX7_clear_59 rfl (by decide) ?_
  refine aj_putIw (q := 63) (f := 10) hw9 rfl okR fp_X7_85 dX7_clear_60 rfl lR_0 rfl rfl (fun hw10 => ?_)
  refine aj_return dX7_clear_63 rfl ?_
  skip
  first | contradiction | with_reducible exact hQ hw10 | (simp (decide := true) only [rClear, ↓reduceIte, sw_eq, sw_ne, ne_eq, Nat.reduceEqDiff, not_false_eq_true, Bool.false_eq_true, bi_t, bi_f, ] at hQ; with_reducible exact hQ hw10) | (simp (decide := true) only [rClear, ↓reduceIte, sw_eq, sw_ne, ne_eq, Nat.reduceEqDiff, not_false_eq_true, Bool.false_eq_true, bi_t, bi_f, ] at hQ hw10 ⊢; with_reducible exact hQ hw10) | exact absurd (by assumption) (by decide : ¬ (1 : Int32) = 0)
end
section
/-- n turns of the run's loop -/
def rIt : Nat → Sx → Sx
  | 0, S => S
  | n + 1, S => rIt n (rStep S)
def rStart (S : Sx) (body x b : Int32) : Sx := if pOk (rClear S x b) 1 2 then rEnter (pPay (rClear S x b) 1 2) body else sw (pPay (rClear S x b) 1 2) 8 0 3
def rFin (S : Sx) : Sx := sw S 5 0 (S 8 0)
theorem perf_end {d : Nat} {S : Sx} {Q : Option Value → Sx → Prop} {ls : AL} (hl : ls[0]? = some (some (.ref 0))) (hw : wfR S) (hQ : wfR (rFin S) → Q (some (.int (S 8 0))) (rFin S)) : AJ (d + 6) kX7_perform layR 91 ls [] S Q := by
  refine aj_aload_n (q := 92) (i := 0) dX7_perform_91 rfl rfl hl ?_
  refine aj_aload_n (q := 93) (i := 0) dX7_perform_92 rfl rfl hl ?_
  refine aj_getI (q := 96) (f := 8) fl_X7_61 dX7_perform_93 rfl lR_0 rfl rfl ?_
  refine aj_putIw (q := 99) (f := 5) hw rfl okR fp_X7_39 dX7_perform_96 rfl lR_0 rfl rfl (fun hw1 => ?_)
  refine aj_aload_n (q := 100) (i := 0) dX7_perform_99 rfl rfl hl ?_
  refine aj_getI (q := 103) (f := 5) fl_X7_39 dX7_perform_100 rfl lR_0 rfl rfl ?_
  simp only [sw_eq]
  refine aj_ireturn dX7_perform_103 rfl ?_
  exact hQ hw1
theorem perf_loop {d : Nat} {Q : Option Value → Sx → Prop} {a b c : Value} : ∀ (j t : Nat) (z : Option Value) (S : Sx), t + j ≤ 1000000000 → (∀ i, i < j → fEmpty (rIt i S) = false) → fEmpty (rIt j S) = true → wfR S → (wfR (rFin (rIt j S)) → Q (some (.int (rIt j S 8 0))) (rFin (rIt j S))) → AJ (d + 6) kX7_perform layR 34 [some (.ref 0), some a, some b, some c, some (.int (nI t)), z] [] S Q := by
  intro j
  induction j with
  | zero =>
    intro t z S ht h0 h1 hw hQ
    have h1 : fEmpty S = true := h1
    refine aj_iload (q := 36) (i := 4) dX7_perform_34 rfl rfl ?_
    refine aj_ldc (q := 38) dX7_perform_36 rfl cn_X7_64 ?_
    refine aj_icmp_ge (q := 41) (tgt := 91) dX7_perform_38 rfl (by decide) (fun c38 => ?_) (fun c38 => ?_)
    · exact perf_end rfl hw hQ
    · refine aj_aload_n (q := 42) (i := 0) dX7_perform_41 rfl rfl rfl ?_
      refine aj_getR (q := 45) fl_X7_35 dX7_perform_42 rfl lR_0 rfl ?_
      refine aj_callV (q := 48) (As := []) cl_X7_65 mk_X0_isEmpty dX7_perform_45 rfl lR_11 rfl rfl (Nat.le_of_ble_eq_true rfl) (sp_X0_isEmpty hw ?_)
      refine aj_ifB_ne (q := 51) (tgt := 91) dX7_perform_48 rfl (by decide) (fun c48 => ?_) (fun c48 => ?_)
      · exact perf_end rfl hw hQ
      · rw [h1] at c48; cases c48
  | succ j ih =>
    intro t z S ht h0 h1 hw hQ
    have h00 : fEmpty S = false := h0 0 (by omega)
    refine aj_iload (q := 36) (i := 4) dX7_perform_34 rfl rfl ?_
    refine aj_ldc (q := 38) dX7_perform_36 rfl cn_X7_64 ?_
    refine aj_icmp_ge (q := 41) (tgt := 91) dX7_perform_38 rfl (by decide) (fun c38 => absurd (show nI 1000000000 ≤ nI t from c38) (nI_ge (by omega) (by omega))) (fun c38 => ?_)
    refine aj_aload_n (q := 42) (i := 0) dX7_perform_41 rfl rfl rfl ?_
    refine aj_getR (q := 45) fl_X7_35 dX7_perform_42 rfl lR_0 rfl ?_
    refine aj_callV (q := 48) (As := []) cl_X7_65 mk_X0_isEmpty dX7_perform_45 rfl lR_11 rfl rfl (Nat.le_of_ble_eq_true rfl) (sp_X0_isEmpty hw ?_)
    refine aj_ifB_ne (q := 51) (tgt := 91) dX7_perform_48 rfl (by decide) (fun c48 => ?_) (fun c48 => ?_)
    · rw [h00] at c48; cases c48
    refine aj_aload_n (q := 52) (i := 0) dX7_perform_51 rfl rfl rfl ?_
    refine aj_getR (q := 55) fl_X7_35 dX7_perform_52 rfl lR_0 rfl ?_
    refine aj_callV (q := 58) (As := []) cl_X7_69 mk_X0_statement dX7_perform_55 rfl lR_11 rfl rfl (Nat.le_of_ble_eq_true rfl) (sp_X0_statement hw ?_)
    refine aj_istore (q := 60) (i := 5) (ls' := [_, _, _, _, _, _]) dX7_perform_58 rfl (by decide) rfl ?_
    refine aj_aload_n (q := 61) (i := 0) dX7_perform_60 rfl rfl rfl ?_
    refine aj_getR (q := 64) fl_X7_35 dX7_perform_61 rfl lR_0 rfl ?_
    refine aj_callV (q := 67) (As := []) cl_X7_73 mk_X0_stage dX7_perform_64 rfl lR_11 rfl rfl (Nat.le_of_ble_eq_true rfl) (sp_X0_stage hw ?_)
    refine aj_if_ne (q := 70) (tgt := 79) dX7_perform_67 rfl (by decide) (fun c67_1 => ?_) (fun c67_1 => ?_)
    · refine aj_aload_n (q := 80) (i := 0) dX7_perform_79 rfl rfl rfl ?_
      refine aj_iload (q := 82) (i := 5) dX7_perform_80 rfl rfl ?_
      refine aj_callV (q := 85) (As := [_]) cl_X7_79 mk_X7_goOn dX7_perform_82 rfl lR_0 rfl rfl (Nat.le_of_ble_eq_true rfl) (sp_X7_goOn hw (fun hw2 => ?_))
      refine aj_iinc (q := 88) (i := 4) (ls' := [_, _, _, _, _, _]) dX7_perform_85 rfl rfl (nI_1 t) (by decide) rfl ?_
      refine aj_goto (tgt := 34) dX7_perform_88 (by decide) ?_
      refine ih (t + 1) _ _ (by omega) (fun i hi => ?_) ?_ hw2 ?_
      · have := h0 (i + 1) (by omega)
        rwa [rIt, (show rStep S = rGoOn S (fGet S 1200 (-1)) by rw [rStep, if_neg c67_1])] at this
      · rwa [rIt, (show rStep S = rGoOn S (fGet S 1200 (-1)) by rw [rStep, if_neg c67_1])] at h1
      · rwa [rIt, (show rStep S = rGoOn S (fGet S 1200 (-1)) by rw [rStep, if_neg c67_1])] at hQ
    · refine aj_aload_n (q := 71) (i := 0) dX7_perform_70 rfl rfl rfl ?_
      refine aj_iload (q := 73) (i := 5) dX7_perform_71 rfl rfl ?_
      refine aj_callV (q := 76) (As := [_]) cl_X7_76 mk_X7_begin dX7_perform_73 rfl lR_0 rfl rfl (Nat.le_of_ble_eq_true rfl) (sp_X7_begin hw (fun hw3 => ?_))
      refine aj_goto (tgt := 85) dX7_perform_76 (by decide) ?_
      refine aj_iinc (q := 88) (i := 4) (ls' := [_, _, _, _, _, _]) dX7_perform_85 rfl rfl (nI_1 t) (by decide) rfl ?_
      refine aj_goto (tgt := 34) dX7_perform_88 (by decide) ?_
      refine ih (t + 1) _ _ (by omega) (fun i hi => ?_) ?_ hw3 ?_
      · have := h0 (i + 1) (by omega)
        rwa [rIt, (show rStep S = rBegin S (fGet S 1200 (-1)) by rw [rStep, if_pos c67_1])] at this
      · rwa [rIt, (show rStep S = rBegin S (fGet S 1200 (-1)) by rw [rStep, if_pos c67_1])] at h1
      · rwa [rIt, (show rStep S = rBegin S (fGet S 1200 (-1)) by rw [rStep, if_pos c67_1])] at hQ
theorem sp_X7_perform {d : Nat} {S : Sx} {Q : Option Value → Sx → Prop} {body x b : Int32} (j : Nat) (hj : j ≤ 1000000000) (h0 : ∀ i, i < j → fEmpty (rIt i (rStart S body x b)) = false) (h1 : fEmpty (rIt j (rStart S body x b)) = true) (hw : wfR S) (hQ : wfR (rFin (rIt j (rStart S body x b))) → Q (some (.int (rIt j (rStart S body x b) 8 0))) (rFin (rIt j (rStart S body x b)))) : CC (d + 6) kX7_perform layR [.ref 0, .int body, .int x, .int b] S Q := by
  refine cc_intro [some _, some _, some _, some _, none, none] (by decide) (cc_cat (by rfl)) (Nat.le_of_ble_eq_true rfl) (cc_ls (by rfl)) ?_
  refine aj_aload_n (q := 1) (i := 0) dX7_perform_0 rfl rfl rfl ?_
  refine aj_iload_n (q := 2) (i := 2) dX7_perform_1 rfl rfl rfl ?_
  refine aj_iload_n (q := 3) (i := 3) dX7_perform_2 rfl rfl rfl ?_
  refine aj_callV (q := 6) (As := [_, _]) cl_X7_47 mk_X7_clear dX7_perform_3 rfl lR_0 rfl rfl (Nat.le_of_ble_eq_true rfl) (sp_X7_clear hw (fun hw1 => ?_))
  refine aj_aload_n (q := 7) (i := 0) dX7_perform_6 rfl rfl rfl ?_
  refine aj_getR (q := 10) fl_X7_21 dX7_perform_7 rfl lR_0 rfl ?_
  refine aj_iconst (q := 11) (v := 1) dX7_perform_10 rfl (by decide) ?_
  refine aj_iconst (q := 12) (v := 2) dX7_perform_11 rfl (by decide) ?_
  refine aj_callV (q := 15) (As := [_, _]) cl_X7_53 mk_X6_pays dX7_perform_12 rfl lR_6 rfl rfl (Nat.le_of_ble_eq_true rfl) (sp_X6_pays hw1 (fun hw2 => ?_))
  refine aj_ifB_eq (q := 18) (tgt := 26) dX7_perform_15 rfl (by decide) (fun c15_3 => ?_) (fun c15_3 => ?_)
  · refine aj_aload_n (q := 27) (i := 0) dX7_perform_26 rfl rfl rfl ?_
    refine aj_iconst (q := 28) (v := 3) dX7_perform_27 rfl (by decide) ?_
    refine aj_putIw (q := 31) (f := 8) hw2 rfl okR fp_X7_61 dX7_perform_28 rfl lR_0 rfl rfl (fun hw4 => ?_)
    refine aj_iconst (q := 32) (v := 0) dX7_perform_31 rfl (by decide) ?_
    refine aj_istore (q := 34) (i := 4) (ls' := [_, _, _, _, _, _]) dX7_perform_32 rfl (by decide) rfl ?_
    first | (rw [rStart, if_pos (by assumption)] at h0 h1 hQ; exact perf_loop j 0 none _ (by omega) h0 h1 hw4 hQ) | (rw [rStart, if_neg (by simpa using by assumption)] at h0 h1 hQ; exact perf_loop j 0 none _ (by omega) h0 h1 hw4 hQ)
  · refine aj_aload_n (q := 19) (i := 0) dX7_perform_18 rfl rfl rfl ?_
    refine aj_iload_n (q := 20) (i := 1) dX7_perform_19 rfl rfl rfl ?_
    refine aj_callV (q := 23) (As := [_]) cl_X7_57 mk_X7_enter dX7_perform_20 rfl lR_0 rfl rfl (Nat.le_of_ble_eq_true rfl) (sp_X7_enter hw2 (fun hw5 => ?_))
    refine aj_goto (tgt := 31) dX7_perform_23 (by decide) ?_
    refine aj_iconst (q := 32) (v := 0) dX7_perform_31 rfl (by decide) ?_
    refine aj_istore (q := 34) (i := 4) (ls' := [_, _, _, _, _, _]) dX7_perform_32 rfl (by decide) rfl ?_
    first | (rw [rStart, if_pos (by assumption)] at h0 h1 hQ; exact perf_loop j 0 none _ (by omega) h0 h1 hw5 hQ) | (rw [rStart, if_neg (by simpa using by assumption)] at h0 h1 hQ; exact perf_loop j 0 none _ (by omega) h0 h1 hw5 hQ)
end
section
theorem cl (n : Nat) (h : n < 2000000000 := by omega) : (nI n).toNatClampNeg = n := nI_clamp (by omega)
def gPush (S : Sx) (n : Nat) (s : Int32) : Sx := sw (sw (sw (sw S 1600 n s) 1700 n 0) 30 0 (nI (n + 1))) 37 0 (-1)
def gComes (S : Sx) (n : Nat) (t : Int32) : Sx := sw (sw S 30 0 (nI n)) 37 0 t
def gThrow (S : Sx) (n : Nat) (k x : Int32) : Sx := gComes (sw (sw S 27 0 k) 28 0 x) n 2
def gNote (S : Sx) (s : Int32) : Sx := if S 21 0 = 30 then S else sw (sw S 1400 (S 21 0).toNatClampNeg s) 21 0 (S 21 0 + 1)
/-- a frame i is left -/
def gLv1 (S : Sx) (i s : Nat) : Sx := if S 100 s = 20 then (if S 1700 i = 1 then sw S 900 (S 200 s).toNatClampNeg (S 900 (S 200 s).toNatClampNeg - 1) else S) else S
def gLv2 (S : Sx) (i s : Nat) : Sx := if S 100 s = 15 then (if S 1700 i = 1 then sw S 36 0 (S 36 0 - 1) else S) else S
def gLeave (S : Sx) (i s : Nat) : Sx := gLv2 (gLv1 S i s) i s
theorem sp_X10_isIn {d : Nat} {S : Sx} {Q : Option Value → Sx → Prop} {x y : Int32}   (hQ : Q (some (.int (bi (inb x y)))) (S)) : CC d kX10_isIn layM [.int x, .int y] S Q := by
  refine cc_intro [some _, some _] (by decide) (cc_cat (by rfl)) (Nat.le_of_ble_eq_true rfl) (cc_ls (by rfl)) ?_
  refine aj_iload_n (q := 1) (i := 0) dX10_isIn_0 rfl rfl rfl ?_
  refine aj_if_lt (q := 4) (tgt := 13) dX10_isIn_1 rfl (by decide) (fun c1_1 => ?_) (fun c1_1 => ?_)
  · refine aj_iconst (q := 14) (v := 0) dX10_isIn_13 rfl (by decide) ?_
    refine aj_zreturn dX10_isIn_14 rfl (by decide) ?_
    first | (rw [inb_neg (by assumption)] at hQ; exact hQ) | (rw [inb_ge (by assumption)] at hQ; exact hQ) | (rw [inb_in (by assumption) (by assumption)] at hQ; exact hQ)
  · refine aj_iload_n (q := 5) (i := 0) dX10_isIn_4 rfl rfl rfl ?_
    refine aj_iload_n (q := 6) (i := 1) dX10_isIn_5 rfl rfl rfl ?_
    refine aj_icmp_ge (q := 9) (tgt := 13) dX10_isIn_6 rfl (by decide) (fun c6_2 => ?_) (fun c6_2 => ?_)
    · refine aj_iconst (q := 14) (v := 0) dX10_isIn_13 rfl (by decide) ?_
      refine aj_zreturn dX10_isIn_14 rfl (by decide) ?_
      first | (rw [inb_neg (by assumption)] at hQ; exact hQ) | (rw [inb_ge (by assumption)] at hQ; exact hQ) | (rw [inb_in (by assumption) (by assumption)] at hQ; exact hQ)
    · refine aj_iconst (q := 10) (v := 1) dX10_isIn_9 rfl (by decide) ?_
      refine aj_goto (tgt := 14) dX10_isIn_10 (by decide) ?_
      refine aj_zreturn dX10_isIn_14 rfl (by decide) ?_
      first | (rw [inb_neg (by assumption)] at hQ; exact hQ) | (rw [inb_ge (by assumption)] at hQ; exact hQ) | (rw [inb_in (by assumption) (by assumption)] at hQ; exact hQ)
theorem sp_X10_isStatement {d : Nat} {S : Sx} {Q : Option Value → Sx → Prop} {x : Int32}   (hQ : Q (some (.int (bi (inb x (S 1 0))))) (S)) : CC (d + 1) kX10_isStatement layM [.ref 0, .int x] S Q := by
  refine cc_intro [some _, some _] (by decide) (cc_cat (by rfl)) (Nat.le_of_ble_eq_true rfl) (cc_ls (by rfl)) ?_
  refine aj_iload_n (q := 1) (i := 1) dX10_isStatement_0 rfl rfl rfl ?_
  refine aj_aload_n (q := 2) (i := 0) dX10_isStatement_1 rfl rfl rfl ?_
  refine aj_getI (q := 5) (f := 1) fl_X10_83 dX10_isStatement_2 rfl lM_0 rfl rfl ?_
  try simp only [sw_eq, sw_ne, ne_eq, Nat.reduceEqDiff, not_false_eq_true, nI_pred, nI_1]
  refine aj_callS (q := 8) (As := [_, _]) cl_X10_86 mk_X10_isIn dX10_isStatement_5 rfl rfl (Nat.le_of_ble_eq_true rfl) (sp_X10_isIn ?_)
  refine aj_zreturn dX10_isStatement_8 rfl (bi_nar _) ?_
  first | with_reducible exact hQ | (simp (decide := true) only [↓reduceIte, sw_eq, sw_ne, ne_eq, Nat.reduceEqDiff, not_false_eq_true, Bool.false_eq_true, bi_t, bi_f, nI_1, nI_pred, ] at hQ ⊢; with_reducible exact hQ)
theorem sp_X10_thrown {d : Nat} {S : Sx} {Q : Option Value → Sx → Prop}   (hQ : Q (some (.int (S 0 0))) (S)) : CC d kX10_thrown layM [.ref 0] S Q := by
  refine cc_intro [some _] (by decide) (cc_cat (by rfl)) (Nat.le_of_ble_eq_true rfl) (cc_ls (by rfl)) ?_
  refine aj_aload_n (q := 1) (i := 0) dX10_thrown_0 rfl rfl rfl ?_
  refine aj_getI (q := 4) (f := 0) fl_X10_1 dX10_thrown_1 rfl lM_0 rfl rfl ?_
  try simp only [sw_eq, sw_ne, ne_eq, Nat.reduceEqDiff, not_false_eq_true, nI_pred, nI_1]
  refine aj_ireturn dX10_thrown_4 rfl ?_
  first | with_reducible exact hQ | (simp (decide := true) only [↓reduceIte, sw_eq, sw_ne, ne_eq, Nat.reduceEqDiff, not_false_eq_true, Bool.false_eq_true, bi_t, bi_f, nI_1, nI_pred, ] at hQ ⊢; with_reducible exact hQ)
theorem sp_X10_fail {d : Nat} {S : Sx} {Q : Option Value → Sx → Prop} {x : Int32}   (hQ : Q (some (.int (0))) (sw S 0 0 x)) : CC d kX10_fail layM [.ref 0, .int x] S Q := by
  refine cc_intro [some _, some _] (by decide) (cc_cat (by rfl)) (Nat.le_of_ble_eq_true rfl) (cc_ls (by rfl)) ?_
  refine aj_aload_n (q := 1) (i := 0) dX10_fail_0 rfl rfl rfl ?_
  refine aj_iload_n (q := 2) (i := 1) dX10_fail_1 rfl rfl rfl ?_
  refine aj_putI (q := 5) (f := 0) okM fp_X10_1 dX10_fail_2 rfl lM_0 rfl rfl ?_
  refine aj_iconst (q := 6) (v := 0) dX10_fail_5 rfl (by decide) ?_
  refine aj_ireturn dX10_fail_6 rfl ?_
  first | with_reducible exact hQ | (simp (decide := true) only [↓reduceIte, sw_eq, sw_ne, ne_eq, Nat.reduceEqDiff, not_false_eq_true, Bool.false_eq_true, bi_t, bi_f, nI_1, nI_pred, ] at hQ ⊢; with_reducible exact hQ)
theorem sp_X10_push {d : Nat} {S : Sx} {Q : Option Value → Sx → Prop} {s : Int32} {n : Nat} (hn : S 30 0 = nI n) (hb : n < 180) (hQ : Q none (gPush S n s)) : CC d kX10_push layM [.ref 0, .int s] S Q := by
  refine cc_intro [some _, some _] (by decide) (cc_cat (by rfl)) (Nat.le_of_ble_eq_true rfl) (cc_ls (by rfl)) ?_
  refine aj_aload_n (q := 1) (i := 0) dX10_push_0 rfl rfl rfl ?_
  refine aj_getR (q := 4) fl_X10_62 dX10_push_1 rfl lM_0 rfl ?_
  refine aj_aload_n (q := 5) (i := 0) dX10_push_4 rfl rfl rfl ?_
  refine aj_getI (q := 8) (f := 30) fl_X10_106 dX10_push_5 rfl lM_0 rfl rfl ?_
  try simp only [sw_eq, sw_ne, ne_eq, Nat.reduceEqDiff, not_false_eq_true, nI_pred, nI_1, hn, cl n, gPush]
  refine aj_iload_n (q := 9) (i := 1) dX10_push_8 rfl rfl rfl ?_
  refine aj_iastore (q := 10) (f := 1600) okM dX10_push_9 rfl lM_16 rfl (vp_in_nI (by omega) (by omega)) ?_
  refine aj_aload_n (q := 11) (i := 0) dX10_push_10 rfl rfl rfl ?_
  refine aj_getR (q := 14) fl_X10_65 dX10_push_11 rfl lM_0 rfl ?_
  refine aj_aload_n (q := 15) (i := 0) dX10_push_14 rfl rfl rfl ?_
  refine aj_getI (q := 18) (f := 30) fl_X10_106 dX10_push_15 rfl lM_0 rfl rfl ?_
  try simp only [sw_eq, sw_ne, ne_eq, Nat.reduceEqDiff, not_false_eq_true, nI_pred, nI_1, hn, cl n, gPush]
  refine aj_iconst (q := 19) (v := 0) dX10_push_18 rfl (by decide) ?_
  refine aj_iastore (q := 20) (f := 1700) okM dX10_push_19 rfl lM_17 rfl (vp_in_nI (by omega) (by omega)) ?_
  refine aj_aload_n (q := 21) (i := 0) dX10_push_20 rfl rfl rfl ?_
  refine aj_dup (q := 22) dX10_push_21 rfl rfl ?_
  refine aj_getI (q := 25) (f := 30) fl_X10_106 dX10_push_22 rfl lM_0 rfl rfl ?_
  try simp only [sw_eq, sw_ne, ne_eq, Nat.reduceEqDiff, not_false_eq_true, nI_pred, nI_1, hn, cl n, gPush]
  refine aj_iconst (q := 26) (v := 1) dX10_push_25 rfl (by decide) ?_
  refine aj_iadd (q := 27) dX10_push_26 rfl ?_
  refine aj_putI (q := 30) (f := 30) okM fp_X10_106 dX10_push_27 rfl lM_0 rfl rfl ?_
  refine aj_aload_n (q := 31) (i := 0) dX10_push_30 rfl rfl rfl ?_
  refine aj_iconst (q := 32) (v := (-1)) dX10_push_31 rfl (by decide) ?_
  refine aj_putI (q := 35) (f := 37) okM fp_X10_109 dX10_push_32 rfl lM_0 rfl rfl ?_
  refine aj_return dX10_push_35 rfl ?_
  first | with_reducible exact hQ | (simp (decide := true) only [↓reduceIte, sw_eq, sw_ne, ne_eq, Nat.reduceEqDiff, not_false_eq_true, Bool.false_eq_true, bi_t, bi_f, nI_1, nI_pred, hn, cl n, gPush, ] at hQ ⊢; with_reducible exact hQ)
theorem sp_X10_comes {d : Nat} {S : Sx} {Q : Option Value → Sx → Prop} {t : Int32} {n : Nat} (hn : S 30 0 = nI (n + 1)) (hQ : Q none (gComes S n t)) : CC d kX10_comes layM [.ref 0, .int t] S Q := by
  refine cc_intro [some _, some _] (by decide) (cc_cat (by rfl)) (Nat.le_of_ble_eq_true rfl) (cc_ls (by rfl)) ?_
  refine aj_aload_n (q := 1) (i := 0) dX10_comes_0 rfl rfl rfl ?_
  refine aj_dup (q := 2) dX10_comes_1 rfl rfl ?_
  refine aj_getI (q := 5) (f := 30) fl_X10_106 dX10_comes_2 rfl lM_0 rfl rfl ?_
  try simp only [sw_eq, sw_ne, ne_eq, Nat.reduceEqDiff, not_false_eq_true, nI_pred, nI_1, hn, gComes]
  refine aj_iconst (q := 6) (v := 1) dX10_comes_5 rfl (by decide) ?_
  refine aj_isub (q := 7) dX10_comes_6 rfl ?_
  refine aj_putI (q := 10) (f := 30) okM fp_X10_106 dX10_comes_7 rfl lM_0 rfl rfl ?_
  refine aj_aload_n (q := 11) (i := 0) dX10_comes_10 rfl rfl rfl ?_
  refine aj_iload_n (q := 12) (i := 1) dX10_comes_11 rfl rfl rfl ?_
  refine aj_putI (q := 15) (f := 37) okM fp_X10_109 dX10_comes_12 rfl lM_0 rfl rfl ?_
  refine aj_return dX10_comes_15 rfl ?_
  first | with_reducible exact hQ | (simp (decide := true) only [↓reduceIte, sw_eq, sw_ne, ne_eq, Nat.reduceEqDiff, not_false_eq_true, Bool.false_eq_true, bi_t, bi_f, nI_1, nI_pred, hn, gComes, ] at hQ ⊢; with_reducible exact hQ)
theorem sp_X10_throwing {d : Nat} {S : Sx} {Q : Option Value → Sx → Prop} {k x : Int32} {n : Nat} (hn : S 30 0 = nI (n + 1)) (hQ : Q none (gThrow S n k x)) : CC (d + 1) kX10_throwing layM [.ref 0, .int k, .int x] S Q := by
  refine cc_intro [some _, some _, some _] (by decide) (cc_cat (by rfl)) (Nat.le_of_ble_eq_true rfl) (cc_ls (by rfl)) ?_
  refine aj_aload_n (q := 1) (i := 0) dX10_throwing_0 rfl rfl rfl ?_
  refine aj_iload_n (q := 2) (i := 1) dX10_throwing_1 rfl rfl rfl ?_
  refine aj_putI (q := 5) (f := 27) okM fp_X10_112 dX10_throwing_2 rfl lM_0 rfl rfl ?_
  refine aj_aload_n (q := 6) (i := 0) dX10_throwing_5 rfl rfl rfl ?_
  refine aj_iload_n (q := 7) (i := 2) dX10_throwing_6 rfl rfl rfl ?_
  refine aj_putI (q := 10) (f := 28) okM fp_X10_115 dX10_throwing_7 rfl lM_0 rfl rfl ?_
  refine aj_aload_n (q := 11) (i := 0) dX10_throwing_10 rfl rfl rfl ?_
  refine aj_iconst (q := 12) (v := 2) dX10_throwing_11 rfl (by decide) ?_
  refine aj_callV (q := 15) (As := [_]) cl_X10_118 mk_X10_comes dX10_throwing_12 rfl lM_0 rfl rfl (Nat.le_of_ble_eq_true rfl) (sp_X10_comes (n := n) (by simp only [sw_eq, sw_ne, ne_eq, Nat.reduceEqDiff, not_false_eq_true, hn]) ?_)
  refine aj_return dX10_throwing_15 rfl ?_
  first | with_reducible exact hQ | (simp (decide := true) only [↓reduceIte, sw_eq, sw_ne, ne_eq, Nat.reduceEqDiff, not_false_eq_true, Bool.false_eq_true, bi_t, bi_f, nI_1, nI_pred, hn, gThrow, ] at hQ ⊢; with_reducible exact hQ)
theorem sp_X10_note {d : Nat} {S : Sx} {Q : Option Value → Sx → Prop} {s : Int32}  (hl : ¬ S 21 0 = 30 → vp_in (S 21 0) 30) (hQ : Q none (gNote S s)) : CC d kX10_note layM [.ref 0, .int s] S Q := by
  refine cc_intro [some _, some _] (by decide) (cc_cat (by rfl)) (Nat.le_of_ble_eq_true rfl) (cc_ls (by rfl)) ?_
  refine aj_aload_n (q := 1) (i := 0) dX10_note_0 rfl rfl rfl ?_
  refine aj_getI (q := 4) (f := 21) fl_X10_146 dX10_note_1 rfl lM_0 rfl rfl ?_
  try simp only [sw_eq, sw_ne, ne_eq, Nat.reduceEqDiff, not_false_eq_true, nI_pred, nI_1, gNote]
  refine aj_bipush (q := 6) (v := 30) dX10_note_4 rfl (by decide) ?_
  refine aj_icmp_ne (q := 9) (tgt := 10) dX10_note_6 rfl (by decide) (fun c6_1 => ?_) (fun c6_1 => ?_)
  · refine aj_aload_n (q := 11) (i := 0) dX10_note_10 rfl rfl rfl ?_
    refine aj_getR (q := 14) fl_X10_53 dX10_note_11 rfl lM_0 rfl ?_
    refine aj_aload_n (q := 15) (i := 0) dX10_note_14 rfl rfl rfl ?_
    refine aj_getI (q := 18) (f := 21) fl_X10_146 dX10_note_15 rfl lM_0 rfl rfl ?_
    try simp only [sw_eq, sw_ne, ne_eq, Nat.reduceEqDiff, not_false_eq_true, nI_pred, nI_1, gNote]
    refine aj_iload_n (q := 19) (i := 1) dX10_note_18 rfl rfl rfl ?_
    refine aj_iastore (q := 20) (f := 1400) okM dX10_note_19 rfl lM_14 rfl (hl (by assumption)) ?_
    refine aj_aload_n (q := 21) (i := 0) dX10_note_20 rfl rfl rfl ?_
    refine aj_dup (q := 22) dX10_note_21 rfl rfl ?_
    refine aj_getI (q := 25) (f := 21) fl_X10_146 dX10_note_22 rfl lM_0 rfl rfl ?_
    try simp only [sw_eq, sw_ne, ne_eq, Nat.reduceEqDiff, not_false_eq_true, nI_pred, nI_1, gNote]
    refine aj_iconst (q := 26) (v := 1) dX10_note_25 rfl (by decide) ?_
    refine aj_iadd (q := 27) dX10_note_26 rfl ?_
    refine aj_putI (q := 30) (f := 21) okM fp_X10_146 dX10_note_27 rfl lM_0 rfl rfl ?_
    refine aj_return dX10_note_30 rfl ?_
    first | with_reducible exact hQ | (simp (decide := true) only [↓reduceIte, sw_eq, sw_ne, ne_eq, Nat.reduceEqDiff, not_false_eq_true, Bool.false_eq_true, bi_t, bi_f, nI_1, nI_pred, gNote, c6_1] at hQ ⊢; with_reducible exact hQ)
  · refine aj_return dX10_note_9 rfl ?_
    first | with_reducible exact hQ | (simp (decide := true) only [↓reduceIte, sw_eq, sw_ne, ne_eq, Nat.reduceEqDiff, not_false_eq_true, Bool.false_eq_true, bi_t, bi_f, nI_1, nI_pred, gNote, c6_1] at hQ ⊢; with_reducible exact hQ)
theorem sp_X10_leave {d : Nat} {S : Sx} {Q : Option Value → Sx → Prop} {i s : Nat} (hi : i < 180) (hs : S 1600 i = nI s) (hb : s < 120) (hl : S 100 s = 20 → vp_in (S 200 s) 4) (hQ : Q none (gLeave S i s)) : CC d kX10_leave layM [.ref 0, .int (nI i)] S Q := by
  refine cc_intro [some _, some _, none] (by decide) (cc_cat (by rfl)) (Nat.le_of_ble_eq_true rfl) (cc_ls (by rfl)) ?_
  refine aj_aload_n (q := 1) (i := 0) dX10_leave_0 rfl rfl rfl ?_
  refine aj_getR (q := 4) fl_X10_62 dX10_leave_1 rfl lM_0 rfl ?_
  refine aj_iload_n (q := 5) (i := 1) dX10_leave_4 rfl rfl rfl ?_
  refine aj_iaload (q := 6) (f := 1600) dX10_leave_5 rfl lM_16 rfl (vp_in_nI (by omega) (by omega)) ?_
  try simp only [sw_eq, sw_ne, ne_eq, Nat.reduceEqDiff, not_false_eq_true, nI_pred, nI_1, hs, cl i, cl s, gLeave, gLv1, gLv2]
  refine aj_istore_n (q := 7) (i := 2) (ls' := [_, _, _]) dX10_leave_6 rfl rfl (by decide) rfl ?_
  refine aj_aload_n (q := 8) (i := 0) dX10_leave_7 rfl rfl rfl ?_
  refine aj_getR (q := 11) fl_X10_13 dX10_leave_8 rfl lM_0 rfl ?_
  refine aj_iload_n (q := 12) (i := 2) dX10_leave_11 rfl rfl rfl ?_
  refine aj_iaload (q := 13) (f := 100) dX10_leave_12 rfl lM_1 rfl (vp_in_nI (by omega) (by omega)) ?_
  try simp only [sw_eq, sw_ne, ne_eq, Nat.reduceEqDiff, not_false_eq_true, nI_pred, nI_1, hs, cl i, cl s, gLeave, gLv1, gLv2]
  refine aj_bipush (q := 15) (v := 20) dX10_leave_13 rfl (by decide) ?_
  refine aj_icmp_ne (q := 18) (tgt := 43) dX10_leave_15 rfl (by decide) (fun c15_1 => ?_) (fun c15_1 => ?_)
  · refine aj_aload_n (q := 44) (i := 0) dX10_leave_43 rfl rfl rfl ?_
    refine aj_getR (q := 47) fl_X10_13 dX10_leave_44 rfl lM_0 rfl ?_
    refine aj_iload_n (q := 48) (i := 2) dX10_leave_47 rfl rfl rfl ?_
    refine aj_iaload (q := 49) (f := 100) dX10_leave_48 rfl lM_1 rfl (vp_in_nI (by omega) (by omega)) ?_
    try simp only [sw_eq, sw_ne, ne_eq, Nat.reduceEqDiff, not_false_eq_true, nI_pred, nI_1, hs, cl i, cl s, gLeave, gLv1, gLv2]
    refine aj_bipush (q := 51) (v := 15) dX10_leave_49 rfl (by decide) ?_
    refine aj_icmp_ne (q := 54) (tgt := 74) dX10_leave_51 rfl (by decide) (fun c51_2 => ?_) (fun c51_2 => ?_)
    · refine aj_return dX10_leave_74 rfl ?_
      first | exact absurd (c15_1.symm.trans c51_2) (by decide) | with_reducible exact hQ | (simp (decide := true) only [↓reduceIte, sw_eq, sw_ne, ne_eq, Nat.reduceEqDiff, not_false_eq_true, Bool.false_eq_true, bi_t, bi_f, nI_1, nI_pred, hs, cl i, cl s, gLeave, gLv1, gLv2, c15_1, c51_2] at hQ ⊢; with_reducible exact hQ)
    · refine aj_aload_n (q := 55) (i := 0) dX10_leave_54 rfl rfl rfl ?_
      refine aj_getR (q := 58) fl_X10_65 dX10_leave_55 rfl lM_0 rfl ?_
      refine aj_iload_n (q := 59) (i := 1) dX10_leave_58 rfl rfl rfl ?_
      refine aj_iaload (q := 60) (f := 1700) dX10_leave_59 rfl lM_17 rfl (vp_in_nI (by omega) (by omega)) ?_
      try simp only [sw_eq, sw_ne, ne_eq, Nat.reduceEqDiff, not_false_eq_true, nI_pred, nI_1, hs, cl i, cl s, gLeave, gLv1, gLv2]
      refine aj_iconst (q := 61) (v := 1) dX10_leave_60 rfl (by decide) ?_
      refine aj_icmp_ne (q := 64) (tgt := 74) dX10_leave_61 rfl (by decide) (fun c61_3 => ?_) (fun c61_3 => ?_)
      · refine aj_return dX10_leave_74 rfl ?_
        first | exact absurd (c15_1.symm.trans c51_2) (by decide) | with_reducible exact hQ | (simp (decide := true) only [↓reduceIte, sw_eq, sw_ne, ne_eq, Nat.reduceEqDiff, not_false_eq_true, Bool.false_eq_true, bi_t, bi_f, nI_1, nI_pred, hs, cl i, cl s, gLeave, gLv1, gLv2, c15_1, c51_2, c61_3] at hQ ⊢; with_reducible exact hQ)
      · refine aj_aload_n (q := 65) (i := 0) dX10_leave_64 rfl rfl rfl ?_
        refine aj_dup (q := 66) dX10_leave_65 rfl rfl ?_
        refine aj_getI (q := 69) (f := 36) fl_X10_143 dX10_leave_66 rfl lM_0 rfl rfl ?_
        try simp only [sw_eq, sw_ne, ne_eq, Nat.reduceEqDiff, not_false_eq_true, nI_pred, nI_1, hs, cl i, cl s, gLeave, gLv1, gLv2]
        refine aj_iconst (q := 70) (v := 1) dX10_leave_69 rfl (by decide) ?_
        refine aj_isub (q := 71) dX10_leave_70 rfl ?_
        refine aj_putI (q := 74) (f := 36) okM fp_X10_143 dX10_leave_71 rfl lM_0 rfl rfl ?_
        refine aj_return dX10_leave_74 rfl ?_
        first | exact absurd (c15_1.symm.trans c51_2) (by decide) | with_reducible exact hQ | (simp (decide := true) only [↓reduceIte, sw_eq, sw_ne, ne_eq, Nat.reduceEqDiff, not_false_eq_true, Bool.false_eq_true, bi_t, bi_f, nI_1, nI_pred, hs, cl i, cl s, gLeave, gLv1, gLv2, c15_1, c51_2, c61_3] at hQ ⊢; with_reducible exact hQ)
  · refine aj_aload_n (q := 19) (i := 0) dX10_leave_18 rfl rfl rfl ?_
    refine aj_getR (q := 22) fl_X10_65 dX10_leave_19 rfl lM_0 rfl ?_
    refine aj_iload_n (q := 23) (i := 1) dX10_leave_22 rfl rfl rfl ?_
    refine aj_iaload (q := 24) (f := 1700) dX10_leave_23 rfl lM_17 rfl (vp_in_nI (by omega) (by omega)) ?_
    try simp only [sw_eq, sw_ne, ne_eq, Nat.reduceEqDiff, not_false_eq_true, nI_pred, nI_1, hs, cl i, cl s, gLeave, gLv1, gLv2]
    refine aj_iconst (q := 25) (v := 1) dX10_leave_24 rfl (by decide) ?_
    refine aj_icmp_ne (q := 28) (tgt := 43) dX10_leave_25 rfl (by decide) (fun c25_4 => ?_) (fun c25_4 => ?_)
    · refine aj_aload_n (q := 44) (i := 0) dX10_leave_43 rfl rfl rfl ?_
      refine aj_getR (q := 47) fl_X10_13 dX10_leave_44 rfl lM_0 rfl ?_
      refine aj_iload_n (q := 48) (i := 2) dX10_leave_47 rfl rfl rfl ?_
      refine aj_iaload (q := 49) (f := 100) dX10_leave_48 rfl lM_1 rfl (vp_in_nI (by omega) (by omega)) ?_
      try simp only [sw_eq, sw_ne, ne_eq, Nat.reduceEqDiff, not_false_eq_true, nI_pred, nI_1, hs, cl i, cl s, gLeave, gLv1, gLv2]
      refine aj_bipush (q := 51) (v := 15) dX10_leave_49 rfl (by decide) ?_
      refine aj_icmp_ne (q := 54) (tgt := 74) dX10_leave_51 rfl (by decide) (fun c51_5 => ?_) (fun c51_5 => ?_)
      · refine aj_return dX10_leave_74 rfl ?_
        first | exact absurd (c15_1.symm.trans c51_5) (by decide) | with_reducible exact hQ | (simp (decide := true) only [↓reduceIte, sw_eq, sw_ne, ne_eq, Nat.reduceEqDiff, not_false_eq_true, Bool.false_eq_true, bi_t, bi_f, nI_1, nI_pred, hs, cl i, cl s, gLeave, gLv1, gLv2, c15_1, c25_4, c51_5] at hQ ⊢; with_reducible exact hQ)
      · refine aj_aload_n (q := 55) (i := 0) dX10_leave_54 rfl rfl rfl ?_
        refine aj_getR (q := 58) fl_X10_65 dX10_leave_55 rfl lM_0 rfl ?_
        refine aj_iload_n (q := 59) (i := 1) dX10_leave_58 rfl rfl rfl ?_
        refine aj_iaload (q := 60) (f := 1700) dX10_leave_59 rfl lM_17 rfl (vp_in_nI (by omega) (by omega)) ?_
        try simp only [sw_eq, sw_ne, ne_eq, Nat.reduceEqDiff, not_false_eq_true, nI_pred, nI_1, hs, cl i, cl s, gLeave, gLv1, gLv2]
        refine aj_iconst (q := 61) (v := 1) dX10_leave_60 rfl (by decide) ?_
        refine aj_icmp_ne (q := 64) (tgt := 74) dX10_leave_61 rfl (by decide) (fun c61_6 => ?_) (fun c61_6 => ?_)
        · refine aj_return dX10_leave_74 rfl ?_
          first | exact absurd (c15_1.symm.trans c51_5) (by decide) | with_reducible exact hQ | (simp (decide := true) only [↓reduceIte, sw_eq, sw_ne, ne_eq, Nat.reduceEqDiff, not_false_eq_true, Bool.false_eq_true, bi_t, bi_f, nI_1, nI_pred, hs, cl i, cl s, gLeave, gLv1, gLv2, c15_1, c25_4, c51_5, c61_6] at hQ ⊢; with_reducible exact hQ)
        · refine aj_aload_n (q := 65) (i := 0) dX10_leave_64 rfl rfl rfl ?_
          refine aj_dup (q := 66) dX10_leave_65 rfl rfl ?_
          refine aj_getI (q := 69) (f := 36) fl_X10_143 dX10_leave_66 rfl lM_0 rfl rfl ?_
          try simp only [sw_eq, sw_ne, ne_eq, Nat.reduceEqDiff, not_false_eq_true, nI_pred, nI_1, hs, cl i, cl s, gLeave, gLv1, gLv2]
          refine aj_iconst (q := 70) (v := 1) dX10_leave_69 rfl (by decide) ?_
          refine aj_isub (q := 71) dX10_leave_70 rfl ?_
          refine aj_putI (q := 74) (f := 36) okM fp_X10_143 dX10_leave_71 rfl lM_0 rfl rfl ?_
          refine aj_return dX10_leave_74 rfl ?_
          first | exact absurd (c15_1.symm.trans c51_5) (by decide) | with_reducible exact hQ | (simp (decide := true) only [↓reduceIte, sw_eq, sw_ne, ne_eq, Nat.reduceEqDiff, not_false_eq_true, Bool.false_eq_true, bi_t, bi_f, nI_1, nI_pred, hs, cl i, cl s, gLeave, gLv1, gLv2, c15_1, c25_4, c51_5, c61_6] at hQ ⊢; with_reducible exact hQ)
    · refine aj_aload_n (q := 29) (i := 0) dX10_leave_28 rfl rfl rfl ?_
      refine aj_getR (q := 32) fl_X10_38 dX10_leave_29 rfl lM_0 rfl ?_
      refine aj_aload_n (q := 33) (i := 0) dX10_leave_32 rfl rfl rfl ?_
      refine aj_getR (q := 36) fl_X10_17 dX10_leave_33 rfl lM_0 rfl ?_
      refine aj_iload_n (q := 37) (i := 2) dX10_leave_36 rfl rfl rfl ?_
      refine aj_iaload (q := 38) (f := 200) dX10_leave_37 rfl lM_2 rfl (vp_in_nI (by omega) (by omega)) ?_
      try simp only [sw_eq, sw_ne, ne_eq, Nat.reduceEqDiff, not_false_eq_true, nI_pred, nI_1, hs, cl i, cl s, gLeave, gLv1, gLv2]
      refine aj_dup2 (q := 39) dX10_leave_38 rfl rfl rfl ?_
      refine aj_iaload (q := 40) (f := 900) dX10_leave_39 rfl lM_9 rfl (hl (by assumption)) ?_
      try simp only [sw_eq, sw_ne, ne_eq, Nat.reduceEqDiff, not_false_eq_true, nI_pred, nI_1, hs, cl i, cl s, gLeave, gLv1, gLv2]
      refine aj_iconst (q := 41) (v := 1) dX10_leave_40 rfl (by decide) ?_
      refine aj_isub (q := 42) dX10_leave_41 rfl ?_
      refine aj_iastore (q := 43) (f := 900) okM dX10_leave_42 rfl lM_9 rfl (hl (by assumption)) ?_
      refine aj_aload_n (q := 44) (i := 0) dX10_leave_43 rfl rfl rfl ?_
      refine aj_getR (q := 47) fl_X10_13 dX10_leave_44 rfl lM_0 rfl ?_
      refine aj_iload_n (q := 48) (i := 2) dX10_leave_47 rfl rfl rfl ?_
      refine aj_iaload (q := 49) (f := 100) dX10_leave_48 rfl lM_1 rfl (vp_in_nI (by omega) (by omega)) ?_
      try simp only [sw_eq, sw_ne, ne_eq, Nat.reduceEqDiff, not_false_eq_true, nI_pred, nI_1, hs, cl i, cl s, gLeave, gLv1, gLv2]
      refine aj_bipush (q := 51) (v := 15) dX10_leave_49 rfl (by decide) ?_
      refine aj_icmp_ne (q := 54) (tgt := 74) dX10_leave_51 rfl (by decide) (fun c51_7 => ?_) (fun c51_7 => ?_)
      · refine aj_return dX10_leave_74 rfl ?_
        first | exact absurd (c15_1.symm.trans c51_7) (by decide) | with_reducible exact hQ | (simp (decide := true) only [↓reduceIte, sw_eq, sw_ne, ne_eq, Nat.reduceEqDiff, not_false_eq_true, Bool.false_eq_true, bi_t, bi_f, nI_1, nI_pred, hs, cl i, cl s, gLeave, gLv1, gLv2, c15_1, c25_4, c51_7] at hQ ⊢; with_reducible exact hQ)
      · refine aj_aload_n (q := 55) (i := 0) dX10_leave_54 rfl rfl rfl ?_
        refine aj_getR (q := 58) fl_X10_65 dX10_leave_55 rfl lM_0 rfl ?_
        refine aj_iload_n (q := 59) (i := 1) dX10_leave_58 rfl rfl rfl ?_
        refine aj_iaload (q := 60) (f := 1700) dX10_leave_59 rfl lM_17 rfl (vp_in_nI (by omega) (by omega)) ?_
        try simp only [sw_eq, sw_ne, ne_eq, Nat.reduceEqDiff, not_false_eq_true, nI_pred, nI_1, hs, cl i, cl s, gLeave, gLv1, gLv2]
        refine aj_iconst (q := 61) (v := 1) dX10_leave_60 rfl (by decide) ?_
        refine aj_icmp_ne (q := 64) (tgt := 74) dX10_leave_61 rfl (by decide) (fun c61_8 => ?_) (fun c61_8 => ?_)
        · refine aj_return dX10_leave_74 rfl ?_
          first | exact absurd (c15_1.symm.trans c51_7) (by decide) | with_reducible exact hQ | (simp (decide := true) only [↓reduceIte, sw_eq, sw_ne, ne_eq, Nat.reduceEqDiff, not_false_eq_true, Bool.false_eq_true, bi_t, bi_f, nI_1, nI_pred, hs, cl i, cl s, gLeave, gLv1, gLv2, c15_1, c25_4, c51_7, c61_8] at hQ ⊢; with_reducible exact hQ)
        · refine aj_aload_n (q := 65) (i := 0) dX10_leave_64 rfl rfl rfl ?_
          refine aj_dup (q := 66) dX10_leave_65 rfl rfl ?_
          refine aj_getI (q := 69) (f := 36) fl_X10_143 dX10_leave_66 rfl lM_0 rfl rfl ?_
          try simp only [sw_eq, sw_ne, ne_eq, Nat.reduceEqDiff, not_false_eq_true, nI_pred, nI_1, hs, cl i, cl s, gLeave, gLv1, gLv2]
          refine aj_iconst (q := 70) (v := 1) dX10_leave_69 rfl (by decide) ?_
          refine aj_isub (q := 71) dX10_leave_70 rfl ?_
          refine aj_putI (q := 74) (f := 36) okM fp_X10_143 dX10_leave_71 rfl lM_0 rfl rfl ?_
          refine aj_return dX10_leave_74 rfl ?_
          first | exact absurd (c15_1.symm.trans c51_7) (by decide) | with_reducible exact hQ | (simp (decide := true) only [↓reduceIte, sw_eq, sw_ne, ne_eq, Nat.reduceEqDiff, not_false_eq_true, Bool.false_eq_true, bi_t, bi_f, nI_1, nI_pred, hs, cl i, cl s, gLeave, gLv1, gLv2, c15_1, c25_4, c51_7, c61_8] at hQ ⊢; with_reducible exact hQ)
end
section
def FrOk (S : Sx) (i : Nat) : Prop := ∃ s : Nat, S 1600 i = nI s ∧ s < 120 ∧ (S 100 s = 20 → vp_in (S 200 s) 4)
def gDrain (r : Nat) : Nat → Sx → Sx
  | 0, S => S
  | n + 1, S => gDrain r n (gLeave (sw S 30 0 (nI (r + n))) (r + n) (S 1600 (r + n)).toNatClampNeg)
theorem gLv1_ne {S : Sx} {i s f j : Nat} (h : f ≠ 900) : gLv1 S i s f j = S f j := by
  unfold gLv1
  split
  · split
    · exact sw_ne h
    · rfl
  · rfl
theorem gLv2_ne {S : Sx} {i s f j : Nat} (h : f ≠ 36) : gLv2 S i s f j = S f j := by
  unfold gLv2
  split
  · split
    · exact sw_ne h
    · rfl
  · rfl
theorem gLeave_ne {S : Sx} {i s f j : Nat} (h : f ≠ 900) (h2 : f ≠ 36) : gLeave S i s f j = S f j := by
  unfold gLeave
  rw [gLv2_ne h2, gLv1_ne h]
theorem drain_loop {d r : Nat} {Q : Option Value → Sx → Prop} : ∀ (n : Nat) (S : Sx), r + n ≤ 180 → S 30 0 = nI (r + n) → S 38 0 = nI r → (∀ i, r ≤ i → i < r + n → FrOk S i) → Q none (sw (sw (gDrain r n S) 38 0 (-1)) 37 0 3) → AJ (d + 1) kX10_endReserve layM 0 [some (.ref 0)] [] S Q := by
  intro n
  induction n with
  | zero =>
    intro S hb hn hr hf hQ
    refine aj_aload_n (q := 1) (i := 0) dX10_endReserve_0 rfl rfl rfl ?_
    refine aj_getI (q := 4) (f := 30) fl_X10_106 dX10_endReserve_1 rfl lM_0 rfl rfl ?_
    try simp only [hn, hr]
    refine aj_aload_n (q := 5) (i := 0) dX10_endReserve_4 rfl rfl rfl ?_
    refine aj_getI (q := 8) (f := 38) fl_X10_122 dX10_endReserve_5 rfl lM_0 rfl rfl ?_
    try simp only [hn, hr]
    refine aj_icmp_le (q := 11) (tgt := 32) dX10_endReserve_8 rfl (by decide) (fun c8_1 => ?_) (fun c8_1 => ?_)
    · refine aj_aload_n (q := 33) (i := 0) dX10_endReserve_32 rfl rfl rfl ?_
      refine aj_iconst (q := 34) (v := (-1)) dX10_endReserve_33 rfl (by decide) ?_
      refine aj_putI (q := 37) (f := 38) okM fp_X10_122 dX10_endReserve_34 rfl lM_0 rfl rfl ?_
      refine aj_aload_n (q := 38) (i := 0) dX10_endReserve_37 rfl rfl rfl ?_
      refine aj_iconst (q := 39) (v := 3) dX10_endReserve_38 rfl (by decide) ?_
      refine aj_putI (q := 42) (f := 37) okM fp_X10_109 dX10_endReserve_39 rfl lM_0 rfl rfl ?_
      refine aj_return dX10_endReserve_42 rfl ?_
      exact hQ
    · exact absurd (nI_le (by omega) (by omega)) c8_1
  | succ n ih =>
    intro S hb hn hr hf hQ
    have hn : S 30 0 = nI (r + n + 1) := hn
    obtain ⟨s, h1, h2, h3⟩ := hf (r + n) (by omega) (by omega)
    refine aj_aload_n (q := 1) (i := 0) dX10_endReserve_0 rfl rfl rfl ?_
    refine aj_getI (q := 4) (f := 30) fl_X10_106 dX10_endReserve_1 rfl lM_0 rfl rfl ?_
    try simp only [sw_eq, sw_ne, ne_eq, Nat.reduceEqDiff, not_false_eq_true, nI_pred, hn, hr, (nI_pred (r + n) : nI (r + n + 1) - 1 = nI (r + n))]
    refine aj_aload_n (q := 5) (i := 0) dX10_endReserve_4 rfl rfl rfl ?_
    refine aj_getI (q := 8) (f := 38) fl_X10_122 dX10_endReserve_5 rfl lM_0 rfl rfl ?_
    try simp only [sw_eq, sw_ne, ne_eq, Nat.reduceEqDiff, not_false_eq_true, nI_pred, hn, hr, (nI_pred (r + n) : nI (r + n + 1) - 1 = nI (r + n))]
    refine aj_icmp_le (q := 11) (tgt := 32) dX10_endReserve_8 rfl (by decide) (fun c8_1 => ?_) (fun c8_1 => ?_)
    · exact absurd c8_1 (nI_ge (by omega) (by omega))
    · refine aj_aload_n (q := 12) (i := 0) dX10_endReserve_11 rfl rfl rfl ?_
      refine aj_dup (q := 13) dX10_endReserve_12 rfl rfl ?_
      refine aj_getI (q := 16) (f := 30) fl_X10_106 dX10_endReserve_13 rfl lM_0 rfl rfl ?_
      try simp only [sw_eq, sw_ne, ne_eq, Nat.reduceEqDiff, not_false_eq_true, nI_pred, hn, hr, (nI_pred (r + n) : nI (r + n + 1) - 1 = nI (r + n))]
      refine aj_iconst (q := 17) (v := 1) dX10_endReserve_16 rfl (by decide) ?_
      refine aj_isub (q := 18) dX10_endReserve_17 rfl ?_
      refine aj_putI (q := 21) (f := 30) okM fp_X10_106 dX10_endReserve_18 rfl lM_0 rfl rfl ?_
      refine aj_aload_n (q := 22) (i := 0) dX10_endReserve_21 rfl rfl rfl ?_
      refine aj_aload_n (q := 23) (i := 0) dX10_endReserve_22 rfl rfl rfl ?_
      refine aj_getI (q := 26) (f := 30) fl_X10_106 dX10_endReserve_23 rfl lM_0 rfl rfl ?_
      try simp only [sw_eq, sw_ne, ne_eq, Nat.reduceEqDiff, not_false_eq_true, nI_pred, hn, hr, (nI_pred (r + n) : nI (r + n + 1) - 1 = nI (r + n))]
      refine aj_callV (q := 29) (As := [_]) cl_X10_140 mk_X10_leave dX10_endReserve_26 rfl lM_0 rfl rfl (Nat.le_of_ble_eq_true rfl) (sp_X10_leave (i := r + n) (s := s) (by omega) (by rw [sw_ne (by decide)]; exact h1) h2 (by rw [sw_ne (by decide), sw_ne (by decide)]; exact h3) ?_)
      refine aj_goto (tgt := 0) dX10_endReserve_29 (by decide) ?_
      refine ih _ (by omega) ?_ ?_ ?_ ?_
      · rw [gLeave_ne (by decide) (by decide), sw_eq]
      · rw [gLeave_ne (by decide) (by decide), sw_ne (by decide)]; exact hr
      · intro i hi1 hi2
        obtain ⟨s', g1, g2, g3⟩ := hf i hi1 (by omega)
        refine ⟨s', ?_, g2, ?_⟩
        · rw [gLeave_ne (by decide) (by decide), sw_ne (by decide)]; exact g1
        · rw [gLeave_ne (by decide) (by decide), sw_ne (by decide), gLeave_ne (by decide) (by decide), sw_ne (by decide)]; exact g3
      · rw [gDrain, h1, cl s] at hQ
        exact hQ
def DrOk (S : Sx) : Prop := S 38 0 = -1 ∨ ∃ r n : Nat, S 38 0 = nI r ∧ S 30 0 = nI (r + n) ∧ r + n ≤ 180 ∧ ∀ i, r ≤ i → i < r + n → FrOk S i
def drFree (f : Nat) : Bool := !([38, 30, 1600, 100, 200].contains f)
theorem DrOk.sw {S : Sx} {f i : Nat} {v : Int32} (h : DrOk S) (hf : drFree f = true) : DrOk (sw S f i v) := by
  have hne : 38 ≠ f ∧ 30 ≠ f ∧ 1600 ≠ f ∧ 100 ≠ f ∧ 200 ≠ f := by
    simp [drFree] at hf
    omega
  obtain ⟨n1, n2, n3, n4, n5⟩ := hne
  simpa only [DrOk, FrOk, sw_ne n1, sw_ne n2, sw_ne n3, sw_ne n4, sw_ne n5] using h
def gEnd (S : Sx) : Sx := sw (sw (gDrain (S 38 0).toNatClampNeg ((S 30 0).toNatClampNeg - (S 38 0).toNatClampNeg) S) 38 0 (-1)) 37 0 3
theorem sp_X10_endReserve {d : Nat} {S : Sx} {Q : Option Value → Sx → Prop} (h : DrOk S) (h2 : ¬ S 38 0 = -1) (hQ : Q none (gEnd S)) : CC (d + 1) kX10_endReserve layM [.ref 0] S Q := by
  refine cc_intro [some _] (by decide) (cc_cat (by rfl)) (Nat.le_of_ble_eq_true rfl) (cc_ls (by rfl)) ?_
  rcases h with h | ⟨r, n, e1, e2, e3, e4⟩
  · exact absurd h h2
  · refine drain_loop n S e3 e2 e1 e4 ?_
    rw [gEnd, e1, e2, cl r, cl (r + n), show r + n - r = n by omega] at hQ
    exact hQ
def gPayB (S : Sx) (p : Int32) : Bool := if S 38 0 = -1 then decide (p ≤ S 16 0) else decide (p ≤ S 17 0)
def gPayS (S : Sx) (k p : Int32) : Sx := if S 38 0 = -1 then (if p ≤ S 16 0 then sw (sw (sw S 1300 k.toNatClampNeg (S 1300 k.toNatClampNeg + 1)) 16 0 (S 16 0 - p)) 18 0 (S 18 0 + p) else sw S 37 0 3) else (if p ≤ S 17 0 then sw (sw (sw S 1300 k.toNatClampNeg (S 1300 k.toNatClampNeg + 1)) 17 0 (S 17 0 - p)) 19 0 (S 19 0 + p) else gEnd S)
def payFree (f : Nat) : Bool := !([1300, 16, 17, 18, 19].contains f)
theorem gPay_ne {S : Sx} {k p : Int32} {f j : Nat} (h : gPayB S p = true) (hf : payFree f = true) : gPayS S k p f j = S f j := by
  have hne : f ≠ 1300 ∧ f ≠ 16 ∧ f ≠ 17 ∧ f ≠ 18 ∧ f ≠ 19 := by
    simp [payFree] at hf
    omega
  obtain ⟨n1, n2, n3, n4, n5⟩ := hne
  unfold gPayB at h
  unfold gPayS
  split
  · rename_i e
    rw [if_pos e] at h
    rw [if_pos (by simpa using h), sw_ne n4, sw_ne n2, sw_ne n1]
  · rename_i e
    rw [if_neg e] at h
    rw [if_pos (by simpa using h), sw_ne n5, sw_ne n3, sw_ne n1]
theorem sp_X10_pays {d : Nat} {S : Sx} {Q : Option Value → Sx → Prop} {k p : Int32}  (hk : vp_in k 5) (hD : DrOk S) (hQ : Q (some (.int (bi (gPayB S p)))) (gPayS S k p)) : CC (d + 2) kX10_pays layM [.ref 0, .int k, .int p] S Q := by
  refine cc_intro [some _, some _, some _, none] (by decide) (cc_cat (by rfl)) (Nat.le_of_ble_eq_true rfl) (cc_ls (by rfl)) ?_
  refine aj_aload_n (q := 1) (i := 0) dX10_pays_0 rfl rfl rfl ?_
  refine aj_getI (q := 4) (f := 38) fl_X10_122 dX10_pays_1 rfl lM_0 rfl rfl ?_
  try simp (decide := true) only [sw_eq, sw_ne, ne_eq, Nat.reduceEqDiff, not_false_eq_true, nI_pred, nI_1, gPay_ne]
  refine aj_iconst (q := 5) (v := (-1)) dX10_pays_4 rfl (by decide) ?_
  refine aj_icmp_ne (q := 8) (tgt := 15) dX10_pays_5 rfl (by decide) (fun c5_1 => ?_) (fun c5_1 => ?_)
  · refine aj_aload_n (q := 16) (i := 0) dX10_pays_15 rfl rfl rfl ?_
    refine aj_getI (q := 19) (f := 17) fl_X10_128 dX10_pays_16 rfl lM_0 rfl rfl ?_
    try simp (decide := true) only [sw_eq, sw_ne, ne_eq, Nat.reduceEqDiff, not_false_eq_true, nI_pred, nI_1, gPay_ne, c5_1]
    refine aj_istore_n (q := 20) (i := 3) (ls' := [_, _, _, _]) dX10_pays_19 rfl rfl (by decide) rfl ?_
    refine aj_iload_n (q := 21) (i := 3) dX10_pays_20 rfl rfl rfl ?_
    refine aj_iload_n (q := 22) (i := 2) dX10_pays_21 rfl rfl rfl ?_
    refine aj_icmp_ge (q := 25) (tgt := 47) dX10_pays_22 rfl (by decide) (fun c22_2 => ?_) (fun c22_2 => ?_)
    · refine aj_aload_n (q := 48) (i := 0) dX10_pays_47 rfl rfl rfl ?_
      refine aj_getR (q := 51) fl_X10_50 dX10_pays_48 rfl lM_0 rfl ?_
      refine aj_iload_n (q := 52) (i := 1) dX10_pays_51 rfl rfl rfl ?_
      refine aj_dup2 (q := 53) dX10_pays_52 rfl rfl rfl ?_
      refine aj_iaload (q := 54) (f := 1300) dX10_pays_53 rfl lM_13 rfl hk ?_
      try simp (decide := true) only [sw_eq, sw_ne, ne_eq, Nat.reduceEqDiff, not_false_eq_true, nI_pred, nI_1, gPay_ne, c5_1, c22_2]
      refine aj_iconst (q := 55) (v := 1) dX10_pays_54 rfl (by decide) ?_
      refine aj_iadd (q := 56) dX10_pays_55 rfl ?_
      refine aj_iastore (q := 57) (f := 1300) okM dX10_pays_56 rfl lM_13 rfl hk ?_
      refine aj_aload_n (q := 58) (i := 0) dX10_pays_57 rfl rfl rfl ?_
      refine aj_getI (q := 61) (f := 38) fl_X10_122 dX10_pays_58 rfl lM_0 rfl rfl ?_
      try simp (decide := true) only [sw_eq, sw_ne, ne_eq, Nat.reduceEqDiff, not_false_eq_true, nI_pred, nI_1, gPay_ne, c5_1, c22_2]
      refine aj_iconst (q := 62) (v := (-1)) dX10_pays_61 rfl (by decide) ?_
      refine aj_icmp_ne (q := 65) (tgt := 88) dX10_pays_62 rfl (by decide) (fun c62_3 => ?_) (fun c62_3 => ?_)
      · refine aj_aload_n (q := 89) (i := 0) dX10_pays_88 rfl rfl rfl ?_
        refine aj_dup (q := 90) dX10_pays_89 rfl rfl ?_
        refine aj_getI (q := 93) (f := 17) fl_X10_128 dX10_pays_90 rfl lM_0 rfl rfl ?_
        try simp (decide := true) only [sw_eq, sw_ne, ne_eq, Nat.reduceEqDiff, not_false_eq_true, nI_pred, nI_1, gPay_ne, c5_1, c22_2, c62_3]
        refine aj_iload_n (q := 94) (i := 2) dX10_pays_93 rfl rfl rfl ?_
        refine aj_isub (q := 95) dX10_pays_94 rfl ?_
        refine aj_putI (q := 98) (f := 17) okM fp_X10_128 dX10_pays_95 rfl lM_0 rfl rfl ?_
        refine aj_aload_n (q := 99) (i := 0) dX10_pays_98 rfl rfl rfl ?_
        refine aj_dup (q := 100) dX10_pays_99 rfl rfl ?_
        refine aj_getI (q := 103) (f := 19) fl_X10_137 dX10_pays_100 rfl lM_0 rfl rfl ?_
        try simp (decide := true) only [sw_eq, sw_ne, ne_eq, Nat.reduceEqDiff, not_false_eq_true, nI_pred, nI_1, gPay_ne, c5_1, c22_2, c62_3]
        refine aj_iload_n (q := 104) (i := 2) dX10_pays_103 rfl rfl rfl ?_
        refine aj_iadd (q := 105) dX10_pays_104 rfl ?_
        refine aj_putI (q := 108) (f := 19) okM fp_X10_137 dX10_pays_105 rfl lM_0 rfl rfl ?_
        refine aj_iconst (q := 109) (v := 1) dX10_pays_108 rfl (by decide) ?_
        refine aj_zreturn dX10_pays_109 rfl (by decide) ?_
        first | contradiction | with_reducible exact hQ | (simp (decide := true) only [gPayS, gPayB, decide_true, decide_false, ↓reduceIte, Bool.false_eq_true, bi_t, bi_f, sw_eq, sw_ne, ne_eq, Nat.reduceEqDiff, not_false_eq_true, c5_1, c22_2, c62_3] at hQ ⊢; with_reducible exact hQ)
      · refine aj_aload_n (q := 66) (i := 0) dX10_pays_65 rfl rfl rfl ?_
        refine aj_dup (q := 67) dX10_pays_66 rfl rfl ?_
        refine aj_getI (q := 70) (f := 16) fl_X10_125 dX10_pays_67 rfl lM_0 rfl rfl ?_
        try simp (decide := true) only [sw_eq, sw_ne, ne_eq, Nat.reduceEqDiff, not_false_eq_true, nI_pred, nI_1, gPay_ne, c5_1, c22_2, c62_3]
        refine aj_iload_n (q := 71) (i := 2) dX10_pays_70 rfl rfl rfl ?_
        refine aj_isub (q := 72) dX10_pays_71 rfl ?_
        refine aj_putI (q := 75) (f := 16) okM fp_X10_125 dX10_pays_72 rfl lM_0 rfl rfl ?_
        refine aj_aload_n (q := 76) (i := 0) dX10_pays_75 rfl rfl rfl ?_
        refine aj_dup (q := 77) dX10_pays_76 rfl rfl ?_
        refine aj_getI (q := 80) (f := 18) fl_X10_134 dX10_pays_77 rfl lM_0 rfl rfl ?_
        try simp (decide := true) only [sw_eq, sw_ne, ne_eq, Nat.reduceEqDiff, not_false_eq_true, nI_pred, nI_1, gPay_ne, c5_1, c22_2, c62_3]
        refine aj_iload_n (q := 81) (i := 2) dX10_pays_80 rfl rfl rfl ?_
        refine aj_iadd (q := 82) dX10_pays_81 rfl ?_
        refine aj_putI (q := 85) (f := 18) okM fp_X10_134 dX10_pays_82 rfl lM_0 rfl rfl ?_
        refine aj_goto (tgt := 108) dX10_pays_85 (by decide) ?_
        refine aj_iconst (q := 109) (v := 1) dX10_pays_108 rfl (by decide) ?_
        refine aj_zreturn dX10_pays_109 rfl (by decide) ?_
        first | contradiction | with_reducible exact hQ | (simp (decide := true) only [gPayS, gPayB, decide_true, decide_false, ↓reduceIte, Bool.false_eq_true, bi_t, bi_f, sw_eq, sw_ne, ne_eq, Nat.reduceEqDiff, not_false_eq_true, c5_1, c22_2, c62_3] at hQ ⊢; with_reducible exact hQ)
    · refine aj_aload_n (q := 26) (i := 0) dX10_pays_25 rfl rfl rfl ?_
      refine aj_getI (q := 29) (f := 38) fl_X10_122 dX10_pays_26 rfl lM_0 rfl rfl ?_
      try simp (decide := true) only [sw_eq, sw_ne, ne_eq, Nat.reduceEqDiff, not_false_eq_true, nI_pred, nI_1, gPay_ne, c5_1, c22_2]
      refine aj_iconst (q := 30) (v := (-1)) dX10_pays_29 rfl (by decide) ?_
      refine aj_icmp_ne (q := 33) (tgt := 41) dX10_pays_30 rfl (by decide) (fun c30_4 => ?_) (fun c30_4 => ?_)
      · refine aj_aload_n (q := 42) (i := 0) dX10_pays_41 rfl rfl rfl ?_
        refine aj_callV (q := 45) (As := []) cl_X10_131 mk_X10_endReserve dX10_pays_42 rfl lM_0 rfl rfl (Nat.le_of_ble_eq_true rfl) (sp_X10_endReserve hD (by first | assumption | exact absurd rfl (by assumption)) ?_)
        refine aj_iconst (q := 46) (v := 0) dX10_pays_45 rfl (by decide) ?_
        refine aj_zreturn dX10_pays_46 rfl (by decide) ?_
        first | contradiction | with_reducible exact hQ | (simp (decide := true) only [gPayS, gPayB, decide_true, decide_false, ↓reduceIte, Bool.false_eq_true, bi_t, bi_f, sw_eq, sw_ne, ne_eq, Nat.reduceEqDiff, not_false_eq_true, c5_1, c22_2, c30_4] at hQ ⊢; with_reducible exact hQ)
      · refine aj_aload_n (q := 34) (i := 0) dX10_pays_33 rfl rfl rfl ?_
        refine aj_iconst (q := 35) (v := 3) dX10_pays_34 rfl (by decide) ?_
        refine aj_putI (q := 38) (f := 37) okM fp_X10_109 dX10_pays_35 rfl lM_0 rfl rfl ?_
        refine aj_goto (tgt := 45) dX10_pays_38 (by decide) ?_
        refine aj_iconst (q := 46) (v := 0) dX10_pays_45 rfl (by decide) ?_
        refine aj_zreturn dX10_pays_46 rfl (by decide) ?_
        first | contradiction | with_reducible exact hQ | (simp (decide := true) only [gPayS, gPayB, decide_true, decide_false, ↓reduceIte, Bool.false_eq_true, bi_t, bi_f, sw_eq, sw_ne, ne_eq, Nat.reduceEqDiff, not_false_eq_true, c5_1, c22_2, c30_4] at hQ ⊢; with_reducible exact hQ)
  · refine aj_aload_n (q := 9) (i := 0) dX10_pays_8 rfl rfl rfl ?_
    refine aj_getI (q := 12) (f := 16) fl_X10_125 dX10_pays_9 rfl lM_0 rfl rfl ?_
    try simp (decide := true) only [sw_eq, sw_ne, ne_eq, Nat.reduceEqDiff, not_false_eq_true, nI_pred, nI_1, gPay_ne, c5_1]
    refine aj_goto (tgt := 19) dX10_pays_12 (by decide) ?_
    refine aj_istore_n (q := 20) (i := 3) (ls' := [_, _, _, _]) dX10_pays_19 rfl rfl (by decide) rfl ?_
    refine aj_iload_n (q := 21) (i := 3) dX10_pays_20 rfl rfl rfl ?_
    refine aj_iload_n (q := 22) (i := 2) dX10_pays_21 rfl rfl rfl ?_
    refine aj_icmp_ge (q := 25) (tgt := 47) dX10_pays_22 rfl (by decide) (fun c22_5 => ?_) (fun c22_5 => ?_)
    · refine aj_aload_n (q := 48) (i := 0) dX10_pays_47 rfl rfl rfl ?_
      refine aj_getR (q := 51) fl_X10_50 dX10_pays_48 rfl lM_0 rfl ?_
      refine aj_iload_n (q := 52) (i := 1) dX10_pays_51 rfl rfl rfl ?_
      refine aj_dup2 (q := 53) dX10_pays_52 rfl rfl rfl ?_
      refine aj_iaload (q := 54) (f := 1300) dX10_pays_53 rfl lM_13 rfl hk ?_
      try simp (decide := true) only [sw_eq, sw_ne, ne_eq, Nat.reduceEqDiff, not_false_eq_true, nI_pred, nI_1, gPay_ne, c5_1, c22_5]
      refine aj_iconst (q := 55) (v := 1) dX10_pays_54 rfl (by decide) ?_
      refine aj_iadd (q := 56) dX10_pays_55 rfl ?_
      refine aj_iastore (q := 57) (f := 1300) okM dX10_pays_56 rfl lM_13 rfl hk ?_
      refine aj_aload_n (q := 58) (i := 0) dX10_pays_57 rfl rfl rfl ?_
      refine aj_getI (q := 61) (f := 38) fl_X10_122 dX10_pays_58 rfl lM_0 rfl rfl ?_
      try simp (decide := true) only [sw_eq, sw_ne, ne_eq, Nat.reduceEqDiff, not_false_eq_true, nI_pred, nI_1, gPay_ne, c5_1, c22_5]
      refine aj_iconst (q := 62) (v := (-1)) dX10_pays_61 rfl (by decide) ?_
      refine aj_icmp_ne (q := 65) (tgt := 88) dX10_pays_62 rfl (by decide) (fun c62_6 => ?_) (fun c62_6 => ?_)
      · refine aj_aload_n (q := 89) (i := 0) dX10_pays_88 rfl rfl rfl ?_
        refine aj_dup (q := 90) dX10_pays_89 rfl rfl ?_
        refine aj_getI (q := 93) (f := 17) fl_X10_128 dX10_pays_90 rfl lM_0 rfl rfl ?_
        try simp (decide := true) only [sw_eq, sw_ne, ne_eq, Nat.reduceEqDiff, not_false_eq_true, nI_pred, nI_1, gPay_ne, c5_1, c22_5, c62_6]
        refine aj_iload_n (q := 94) (i := 2) dX10_pays_93 rfl rfl rfl ?_
        refine aj_isub (q := 95) dX10_pays_94 rfl ?_
        refine aj_putI (q := 98) (f := 17) okM fp_X10_128 dX10_pays_95 rfl lM_0 rfl rfl ?_
        refine aj_aload_n (q := 99) (i := 0) dX10_pays_98 rfl rfl rfl ?_
        refine aj_dup (q := 100) dX10_pays_99 rfl rfl ?_
        refine aj_getI (q := 103) (f := 19) fl_X10_137 dX10_pays_100 rfl lM_0 rfl rfl ?_
        try simp (decide := true) only [sw_eq, sw_ne, ne_eq, Nat.reduceEqDiff, not_false_eq_true, nI_pred, nI_1, gPay_ne, c5_1, c22_5, c62_6]
        refine aj_iload_n (q := 104) (i := 2) dX10_pays_103 rfl rfl rfl ?_
        refine aj_iadd (q := 105) dX10_pays_104 rfl ?_
        refine aj_putI (q := 108) (f := 19) okM fp_X10_137 dX10_pays_105 rfl lM_0 rfl rfl ?_
        refine aj_iconst (q := 109) (v := 1) dX10_pays_108 rfl (by decide) ?_
        refine aj_zreturn dX10_pays_109 rfl (by decide) ?_
        first | contradiction | with_reducible exact hQ | (simp (decide := true) only [gPayS, gPayB, decide_true, decide_false, ↓reduceIte, Bool.false_eq_true, bi_t, bi_f, sw_eq, sw_ne, ne_eq, Nat.reduceEqDiff, not_false_eq_true, c5_1, c22_5, c62_6] at hQ ⊢; with_reducible exact hQ)
      · refine aj_aload_n (q := 66) (i := 0) dX10_pays_65 rfl rfl rfl ?_
        refine aj_dup (q := 67) dX10_pays_66 rfl rfl ?_
        refine aj_getI (q := 70) (f := 16) fl_X10_125 dX10_pays_67 rfl lM_0 rfl rfl ?_
        try simp (decide := true) only [sw_eq, sw_ne, ne_eq, Nat.reduceEqDiff, not_false_eq_true, nI_pred, nI_1, gPay_ne, c5_1, c22_5, c62_6]
        refine aj_iload_n (q := 71) (i := 2) dX10_pays_70 rfl rfl rfl ?_
        refine aj_isub (q := 72) dX10_pays_71 rfl ?_
        refine aj_putI (q := 75) (f := 16) okM fp_X10_125 dX10_pays_72 rfl lM_0 rfl rfl ?_
        refine aj_aload_n (q := 76) (i := 0) dX10_pays_75 rfl rfl rfl ?_
        refine aj_dup (q := 77) dX10_pays_76 rfl rfl ?_
        refine aj_getI (q := 80) (f := 18) fl_X10_134 dX10_pays_77 rfl lM_0 rfl rfl ?_
        try simp (decide := true) only [sw_eq, sw_ne, ne_eq, Nat.reduceEqDiff, not_false_eq_true, nI_pred, nI_1, gPay_ne, c5_1, c22_5, c62_6]
        refine aj_iload_n (q := 81) (i := 2) dX10_pays_80 rfl rfl rfl ?_
        refine aj_iadd (q := 82) dX10_pays_81 rfl ?_
        refine aj_putI (q := 85) (f := 18) okM fp_X10_134 dX10_pays_82 rfl lM_0 rfl rfl ?_
        refine aj_goto (tgt := 108) dX10_pays_85 (by decide) ?_
        refine aj_iconst (q := 109) (v := 1) dX10_pays_108 rfl (by decide) ?_
        refine aj_zreturn dX10_pays_109 rfl (by decide) ?_
        first | contradiction | with_reducible exact hQ | (simp (decide := true) only [gPayS, gPayB, decide_true, decide_false, ↓reduceIte, Bool.false_eq_true, bi_t, bi_f, sw_eq, sw_ne, ne_eq, Nat.reduceEqDiff, not_false_eq_true, c5_1, c22_5, c62_6] at hQ ⊢; with_reducible exact hQ)
    · refine aj_aload_n (q := 26) (i := 0) dX10_pays_25 rfl rfl rfl ?_
      refine aj_getI (q := 29) (f := 38) fl_X10_122 dX10_pays_26 rfl lM_0 rfl rfl ?_
      try simp (decide := true) only [sw_eq, sw_ne, ne_eq, Nat.reduceEqDiff, not_false_eq_true, nI_pred, nI_1, gPay_ne, c5_1, c22_5]
      refine aj_iconst (q := 30) (v := (-1)) dX10_pays_29 rfl (by decide) ?_
      refine aj_icmp_ne (q := 33) (tgt := 41) dX10_pays_30 rfl (by decide) (fun c30_7 => ?_) (fun c30_7 => ?_)
      · refine aj_aload_n (q := 42) (i := 0) dX10_pays_41 rfl rfl rfl ?_
        refine aj_callV (q := 45) (As := []) cl_X10_131 mk_X10_endReserve dX10_pays_42 rfl lM_0 rfl rfl (Nat.le_of_ble_eq_true rfl) (sp_X10_endReserve hD (by first | assumption | exact absurd rfl (by assumption)) ?_)
        refine aj_iconst (q := 46) (v := 0) dX10_pays_45 rfl (by decide) ?_
        refine aj_zreturn dX10_pays_46 rfl (by decide) ?_
        first | contradiction | with_reducible exact hQ | (simp (decide := true) only [gPayS, gPayB, decide_true, decide_false, ↓reduceIte, Bool.false_eq_true, bi_t, bi_f, sw_eq, sw_ne, ne_eq, Nat.reduceEqDiff, not_false_eq_true, c5_1, c22_5, c30_7] at hQ ⊢; with_reducible exact hQ)
      · refine aj_aload_n (q := 34) (i := 0) dX10_pays_33 rfl rfl rfl ?_
        refine aj_iconst (q := 35) (v := 3) dX10_pays_34 rfl (by decide) ?_
        refine aj_putI (q := 38) (f := 37) okM fp_X10_109 dX10_pays_35 rfl lM_0 rfl rfl ?_
        refine aj_goto (tgt := 45) dX10_pays_38 (by decide) ?_
        refine aj_iconst (q := 46) (v := 0) dX10_pays_45 rfl (by decide) ?_
        refine aj_zreturn dX10_pays_46 rfl (by decide) ?_
        first | contradiction | with_reducible exact hQ | (simp (decide := true) only [gPayS, gPayB, decide_true, decide_false, ↓reduceIte, Bool.false_eq_true, bi_t, bi_f, sw_eq, sw_ne, ne_eq, Nat.reduceEqDiff, not_false_eq_true, c5_1, c22_5, c30_7] at hQ ⊢; with_reducible exact hQ)
end
