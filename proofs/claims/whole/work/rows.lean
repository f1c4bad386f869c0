section
-- ===== PART A: goes FIRST, ahead of the names: the tables' words, and 'selects' of the private methods out of them =====
/-- a private method of a class that the tables say can be made, by its rows of tables_1 -/
def lw_okq (q : MethodName × Nat) : Prop := (q.1.cls ≠ "java/lang/invoke/MethodHandle" ∧ q.1.cls ≠ "java/lang/invoke/VarHandle") ∧ Cond.instantiable q.1.cls q.2 ∈ tables_1 ∧ Cond.privateMethod q.1 ∈ tables_1 ∧ Cond.instanceMethod q.1 ∈ tables_1
theorem lw_p0 : lw_okq (⟨"FourWayKernel", "addOrder", "(IIIII)I"⟩, 10) := ⟨⟨by decide +kernel, by decide +kernel⟩, List.mem_of_getElem? (i := 9) (by decide +kernel), List.mem_of_getElem? (i := 187) (by decide +kernel), List.mem_of_getElem? (i := 188) (by decide +kernel)⟩
theorem lw_p1 : lw_okq (⟨"FourWayKernel", "findTask", "(I)LFourWayKernel$Task;"⟩, 10) := ⟨⟨by decide +kernel, by decide +kernel⟩, List.mem_of_getElem? (i := 9) (by decide +kernel), List.mem_of_getElem? (i := 191) (by decide +kernel), List.mem_of_getElem? (i := 192) (by decide +kernel)⟩
theorem lw_p2 : lw_okq (⟨"FourWayKernel", "microStep", "(LFourWayKernel$Processor;)I"⟩, 10) := ⟨⟨by decide +kernel, by decide +kernel⟩, List.mem_of_getElem? (i := 9) (by decide +kernel), List.mem_of_getElem? (i := 268) (by decide +kernel), List.mem_of_getElem? (i := 269) (by decide +kernel)⟩
theorem lw_p3 : lw_okq (⟨"FourWayKernel", "answerRequest", "(LFourWayKernel$Processor;)V"⟩, 10) := ⟨⟨by decide +kernel, by decide +kernel⟩, List.mem_of_getElem? (i := 9) (by decide +kernel), List.mem_of_getElem? (i := 272) (by decide +kernel), List.mem_of_getElem? (i := 273) (by decide +kernel)⟩
theorem lw_p4 : lw_okq (⟨"FourWayKernel", "takeThread", "(LFourWayKernel$Processor;)I"⟩, 10) := ⟨⟨by decide +kernel, by decide +kernel⟩, List.mem_of_getElem? (i := 9) (by decide +kernel), List.mem_of_getElem? (i := 284) (by decide +kernel), List.mem_of_getElem? (i := 285) (by decide +kernel)⟩
theorem lw_p5 : lw_okq (⟨"FourWayKernel", "longestQueue", "()LFourWayKernel$Line;"⟩, 10) := ⟨⟨by decide +kernel, by decide +kernel⟩, List.mem_of_getElem? (i := 9) (by decide +kernel), List.mem_of_getElem? (i := 288) (by decide +kernel), List.mem_of_getElem? (i := 289) (by decide +kernel)⟩
theorem lw_p6 : lw_okq (⟨"FourWayKernel", "makePhase", "(LFourWayKernel$Task;LFourWayKernel$Order;LFourWayKernel$Processor;)Z"⟩, 10) := ⟨⟨by decide +kernel, by decide +kernel⟩, List.mem_of_getElem? (i := 9) (by decide +kernel), List.mem_of_getElem? (i := 296) (by decide +kernel), List.mem_of_getElem? (i := 297) (by decide +kernel)⟩
theorem lw_p7 : lw_okq (⟨"FourWayKernel", "lookIntoBuffer", "(LFourWayKernel$Task;LFourWayKernel$Order;LFourWayKernel$Processor;)Z"⟩, 10) := ⟨⟨by decide +kernel, by decide +kernel⟩, List.mem_of_getElem? (i := 9) (by decide +kernel), List.mem_of_getElem? (i := 300) (by decide +kernel), List.mem_of_getElem? (i := 301) (by decide +kernel)⟩
theorem lw_p8 : lw_okq (⟨"FourWayKernel", "lookIntoTop", "(LFourWayKernel$Task;LFourWayKernel$Order;)Z"⟩, 10) := ⟨⟨by decide +kernel, by decide +kernel⟩, List.mem_of_getElem? (i := 9) (by decide +kernel), List.mem_of_getElem? (i := 314) (by decide +kernel), List.mem_of_getElem? (i := 315) (by decide +kernel)⟩
theorem lw_p9 : lw_okq (⟨"FourWayKernel", "lookIntoLeaf", "(LFourWayKernel$Task;LFourWayKernel$Order;LFourWayKernel$Processor;)Z"⟩, 10) := ⟨⟨by decide +kernel, by decide +kernel⟩, List.mem_of_getElem? (i := 9) (by decide +kernel), List.mem_of_getElem? (i := 318) (by decide +kernel), List.mem_of_getElem? (i := 319) (by decide +kernel)⟩
theorem lw_p10 : lw_okq (⟨"FourWayKernel", "drawTicket", "(LFourWayKernel$Task;)V"⟩, 10) := ⟨⟨by decide +kernel, by decide +kernel⟩, List.mem_of_getElem? (i := 9) (by decide +kernel), List.mem_of_getElem? (i := 327) (by decide +kernel), List.mem_of_getElem? (i := 328) (by decide +kernel)⟩
theorem lw_p11 : lw_okq (⟨"FourWayKernel", "waitForLock", "(LFourWayKernel$Task;LFourWayKernel$Order;)V"⟩, 10) := ⟨⟨by decide +kernel, by decide +kernel⟩, List.mem_of_getElem? (i := 9) (by decide +kernel), List.mem_of_getElem? (i := 331) (by decide +kernel), List.mem_of_getElem? (i := 332) (by decide +kernel)⟩
theorem lw_p12 : lw_okq (⟨"FourWayKernel", "checkMap", "(LFourWayKernel$Task;LFourWayKernel$Order;LFourWayKernel$Processor;)V"⟩, 10) := ⟨⟨by decide +kernel, by decide +kernel⟩, List.mem_of_getElem? (i := 9) (by decide +kernel), List.mem_of_getElem? (i := 335) (by decide +kernel), List.mem_of_getElem? (i := 336) (by decide +kernel)⟩
theorem lw_p13 : lw_okq (⟨"FourWayKernel", "isUnmapped", "(II)Z"⟩, 10) := ⟨⟨by decide +kernel, by decide +kernel⟩, List.mem_of_getElem? (i := 9) (by decide +kernel), List.mem_of_getElem? (i := 339) (by decide +kernel), List.mem_of_getElem? (i := 340) (by decide +kernel)⟩
theorem lw_p14 : lw_okq (⟨"FourWayKernel", "changePage", "(LFourWayKernel$Task;LFourWayKernel$Order;LFourWayKernel$Processor;)V"⟩, 10) := ⟨⟨by decide +kernel, by decide +kernel⟩, List.mem_of_getElem? (i := 9) (by decide +kernel), List.mem_of_getElem? (i := 343) (by decide +kernel), List.mem_of_getElem? (i := 344) (by decide +kernel)⟩
theorem lw_p15 : lw_okq (⟨"FourWayKernel", "mapPage", "(IILFourWayKernel$Processor;)Z"⟩, 10) := ⟨⟨by decide +kernel, by decide +kernel⟩, List.mem_of_getElem? (i := 9) (by decide +kernel), List.mem_of_getElem? (i := 347) (by decide +kernel), List.mem_of_getElem? (i := 348) (by decide +kernel)⟩
def lw_privs_1 : List (MethodName × Nat) := [(⟨"FourWayKernel", "addOrder", "(IIIII)I"⟩, 10), (⟨"FourWayKernel", "findTask", "(I)LFourWayKernel$Task;"⟩, 10), (⟨"FourWayKernel", "microStep", "(LFourWayKernel$Processor;)I"⟩, 10), (⟨"FourWayKernel", "answerRequest", "(LFourWayKernel$Processor;)V"⟩, 10), (⟨"FourWayKernel", "takeThread", "(LFourWayKernel$Processor;)I"⟩, 10), (⟨"FourWayKernel", "longestQueue", "()LFourWayKernel$Line;"⟩, 10), (⟨"FourWayKernel", "makePhase", "(LFourWayKernel$Task;LFourWayKernel$Order;LFourWayKernel$Processor;)Z"⟩, 10), (⟨"FourWayKernel", "lookIntoBuffer", "(LFourWayKernel$Task;LFourWayKernel$Order;LFourWayKernel$Processor;)Z"⟩, 10), (⟨"FourWayKernel", "lookIntoTop", "(LFourWayKernel$Task;LFourWayKernel$Order;)Z"⟩, 10), (⟨"FourWayKernel", "lookIntoLeaf", "(LFourWayKernel$Task;LFourWayKernel$Order;LFourWayKernel$Processor;)Z"⟩, 10), (⟨"FourWayKernel", "drawTicket", "(LFourWayKernel$Task;)V"⟩, 10), (⟨"FourWayKernel", "waitForLock", "(LFourWayKernel$Task;LFourWayKernel$Order;)V"⟩, 10), (⟨"FourWayKernel", "checkMap", "(LFourWayKernel$Task;LFourWayKernel$Order;LFourWayKernel$Processor;)V"⟩, 10), (⟨"FourWayKernel", "isUnmapped", "(II)Z"⟩, 10), (⟨"FourWayKernel", "changePage", "(LFourWayKernel$Task;LFourWayKernel$Order;LFourWayKernel$Processor;)V"⟩, 10), (⟨"FourWayKernel", "mapPage", "(IILFourWayKernel$Processor;)Z"⟩, 10)]
theorem lw_r1 : ∀ q ∈ lw_privs_1, lw_okq q := List.forall_mem_cons.mpr ⟨lw_p0, List.forall_mem_cons.mpr ⟨lw_p1, List.forall_mem_cons.mpr ⟨lw_p2, List.forall_mem_cons.mpr ⟨lw_p3, List.forall_mem_cons.mpr ⟨lw_p4, List.forall_mem_cons.mpr ⟨lw_p5, List.forall_mem_cons.mpr ⟨lw_p6, List.forall_mem_cons.mpr ⟨lw_p7, List.forall_mem_cons.mpr ⟨lw_p8, List.forall_mem_cons.mpr ⟨lw_p9, List.forall_mem_cons.mpr ⟨lw_p10, List.forall_mem_cons.mpr ⟨lw_p11, List.forall_mem_cons.mpr ⟨lw_p12, List.forall_mem_cons.mpr ⟨lw_p13, List.forall_mem_cons.mpr ⟨lw_p14, List.forall_mem_cons.mpr ⟨lw_p15, fun _ h => absurd h List.not_mem_nil⟩⟩⟩⟩⟩⟩⟩⟩⟩⟩⟩⟩⟩⟩⟩⟩
theorem lw_p16 : lw_okq (⟨"FourWayKernel", "unmapPage", "(ILFourWayKernel$Task;)Z"⟩, 10) := ⟨⟨by decide +kernel, by decide +kernel⟩, List.mem_of_getElem? (i := 9) (by decide +kernel), List.mem_of_getElem? (i := 351) (by decide +kernel), List.mem_of_getElem? (i := 352) (by decide +kernel)⟩
theorem lw_p17 : lw_okq (⟨"FourWayKernel", "protectPage", "(I)Z"⟩, 10) := ⟨⟨by decide +kernel, by decide +kernel⟩, List.mem_of_getElem? (i := 9) (by decide +kernel), List.mem_of_getElem? (i := 355) (by decide +kernel), List.mem_of_getElem? (i := 356) (by decide +kernel)⟩
theorem lw_p18 : lw_okq (⟨"FourWayKernel", "sendRequest", "(LFourWayKernel$Task;LFourWayKernel$Order;LFourWayKernel$Processor;)V"⟩, 10) := ⟨⟨by decide +kernel, by decide +kernel⟩, List.mem_of_getElem? (i := 9) (by decide +kernel), List.mem_of_getElem? (i := 360) (by decide +kernel), List.mem_of_getElem? (i := 361) (by decide +kernel)⟩
theorem lw_p19 : lw_okq (⟨"FourWayKernel", "awaitAnswers", "(LFourWayKernel$Task;LFourWayKernel$Order;)V"⟩, 10) := ⟨⟨by decide +kernel, by decide +kernel⟩, List.mem_of_getElem? (i := 9) (by decide +kernel), List.mem_of_getElem? (i := 364) (by decide +kernel), List.mem_of_getElem? (i := 365) (by decide +kernel)⟩
theorem lw_p20 : lw_okq (⟨"FourWayKernel", "releaseFrame", "(LFourWayKernel$Task;LFourWayKernel$Processor;)V"⟩, 10) := ⟨⟨by decide +kernel, by decide +kernel⟩, List.mem_of_getElem? (i := 9) (by decide +kernel), List.mem_of_getElem? (i := 368) (by decide +kernel), List.mem_of_getElem? (i := 369) (by decide +kernel)⟩
theorem lw_p21 : lw_okq (⟨"FourWayKernel", "finishOrder", "(LFourWayKernel$Task;LFourWayKernel$Order;LFourWayKernel$Processor;)V"⟩, 10) := ⟨⟨by decide +kernel, by decide +kernel⟩, List.mem_of_getElem? (i := 9) (by decide +kernel), List.mem_of_getElem? (i := 372) (by decide +kernel), List.mem_of_getElem? (i := 373) (by decide +kernel)⟩
theorem lw_p22 : lw_okq (⟨"FourWayKernelModel", "order", "(IIIII)I"⟩, 34) := ⟨⟨by decide +kernel, by decide +kernel⟩, List.mem_of_getElem? (i := 433) (by decide +kernel), List.mem_of_getElem? (i := 556) (by decide +kernel), List.mem_of_getElem? (i := 557) (by decide +kernel)⟩
theorem lw_p23 : lw_okq (⟨"FourWayKernelModel", "tick", "()I"⟩, 34) := ⟨⟨by decide +kernel, by decide +kernel⟩, List.mem_of_getElem? (i := 433) (by decide +kernel), List.mem_of_getElem? (i := 560) (by decide +kernel), List.mem_of_getElem? (i := 561) (by decide +kernel)⟩
theorem lw_p24 : lw_okq (⟨"FourWayKernelModel", "begin", "(I)V"⟩, 34) := ⟨⟨by decide +kernel, by decide +kernel⟩, List.mem_of_getElem? (i := 433) (by decide +kernel), List.mem_of_getElem? (i := 564) (by decide +kernel), List.mem_of_getElem? (i := 565) (by decide +kernel)⟩
theorem lw_p25 : lw_okq (⟨"FourWayKernelModel", "forget", "(II)V"⟩, 34) := ⟨⟨by decide +kernel, by decide +kernel⟩, List.mem_of_getElem? (i := 433) (by decide +kernel), List.mem_of_getElem? (i := 595) (by decide +kernel), List.mem_of_getElem? (i := 596) (by decide +kernel)⟩
theorem lw_p26 : lw_okq (⟨"FourWayKernelModel", "currentOf", "(I)I"⟩, 34) := ⟨⟨by decide +kernel, by decide +kernel⟩, List.mem_of_getElem? (i := 433) (by decide +kernel), List.mem_of_getElem? (i := 599) (by decide +kernel), List.mem_of_getElem? (i := 600) (by decide +kernel)⟩
theorem lw_p27 : lw_okq (⟨"FourWayKernelModel", "act", "(II)I"⟩, 34) := ⟨⟨by decide +kernel, by decide +kernel⟩, List.mem_of_getElem? (i := 433) (by decide +kernel), List.mem_of_getElem? (i := 603) (by decide +kernel), List.mem_of_getElem? (i := 604) (by decide +kernel)⟩
theorem lw_p28 : lw_okq (⟨"FourWayKernelModel", "access", "(III)Z"⟩, 34) := ⟨⟨by decide +kernel, by decide +kernel⟩, List.mem_of_getElem? (i := 433) (by decide +kernel), List.mem_of_getElem? (i := 607) (by decide +kernel), List.mem_of_getElem? (i := 608) (by decide +kernel)⟩
theorem lw_p29 : lw_okq (⟨"FourWayKernelModel", "end", "(II)Z"⟩, 34) := ⟨⟨by decide +kernel, by decide +kernel⟩, List.mem_of_getElem? (i := 433) (by decide +kernel), List.mem_of_getElem? (i := 611) (by decide +kernel), List.mem_of_getElem? (i := 612) (by decide +kernel)⟩
theorem lw_p30 : lw_okq (⟨"FourWayKernelModel", "know", "(II)V"⟩, 34) := ⟨⟨by decide +kernel, by decide +kernel⟩, List.mem_of_getElem? (i := 433) (by decide +kernel), List.mem_of_getElem? (i := 615) (by decide +kernel), List.mem_of_getElem? (i := 616) (by decide +kernel)⟩
theorem lw_p31 : lw_okq (⟨"FourWayKernelModel", "change", "(III)Z"⟩, 34) := ⟨⟨by decide +kernel, by decide +kernel⟩, List.mem_of_getElem? (i := 433) (by decide +kernel), List.mem_of_getElem? (i := 619) (by decide +kernel), List.mem_of_getElem? (i := 620) (by decide +kernel)⟩
def lw_privs_2 : List (MethodName × Nat) := [(⟨"FourWayKernel", "unmapPage", "(ILFourWayKernel$Task;)Z"⟩, 10), (⟨"FourWayKernel", "protectPage", "(I)Z"⟩, 10), (⟨"FourWayKernel", "sendRequest", "(LFourWayKernel$Task;LFourWayKernel$Order;LFourWayKernel$Processor;)V"⟩, 10), (⟨"FourWayKernel", "awaitAnswers", "(LFourWayKernel$Task;LFourWayKernel$Order;)V"⟩, 10), (⟨"FourWayKernel", "releaseFrame", "(LFourWayKernel$Task;LFourWayKernel$Processor;)V"⟩, 10), (⟨"FourWayKernel", "finishOrder", "(LFourWayKernel$Task;LFourWayKernel$Order;LFourWayKernel$Processor;)V"⟩, 10), (⟨"FourWayKernelModel", "order", "(IIIII)I"⟩, 34), (⟨"FourWayKernelModel", "tick", "()I"⟩, 34), (⟨"FourWayKernelModel", "begin", "(I)V"⟩, 34), (⟨"FourWayKernelModel", "forget", "(II)V"⟩, 34), (⟨"FourWayKernelModel", "currentOf", "(I)I"⟩, 34), (⟨"FourWayKernelModel", "act", "(II)I"⟩, 34), (⟨"FourWayKernelModel", "access", "(III)Z"⟩, 34), (⟨"FourWayKernelModel", "end", "(II)Z"⟩, 34), (⟨"FourWayKernelModel", "know", "(II)V"⟩, 34), (⟨"FourWayKernelModel", "change", "(III)Z"⟩, 34)]
theorem lw_r2 : ∀ q ∈ lw_privs_2, lw_okq q := List.forall_mem_cons.mpr ⟨lw_p16, List.forall_mem_cons.mpr ⟨lw_p17, List.forall_mem_cons.mpr ⟨lw_p18, List.forall_mem_cons.mpr ⟨lw_p19, List.forall_mem_cons.mpr ⟨lw_p20, List.forall_mem_cons.mpr ⟨lw_p21, List.forall_mem_cons.mpr ⟨lw_p22, List.forall_mem_cons.mpr ⟨lw_p23, List.forall_mem_cons.mpr ⟨lw_p24, List.forall_mem_cons.mpr ⟨lw_p25, List.forall_mem_cons.mpr ⟨lw_p26, List.forall_mem_cons.mpr ⟨lw_p27, List.forall_mem_cons.mpr ⟨lw_p28, List.forall_mem_cons.mpr ⟨lw_p29, List.forall_mem_cons.mpr ⟨lw_p30, List.forall_mem_cons.mpr ⟨lw_p31, fun _ h => absurd h List.not_mem_nil⟩⟩⟩⟩⟩⟩⟩⟩⟩⟩⟩⟩⟩⟩⟩⟩
theorem lw_p32 : lw_okq (⟨"FourWayKernelModel", "some", "(I)Z"⟩, 34) := ⟨⟨by decide +kernel, by decide +kernel⟩, List.mem_of_getElem? (i := 433) (by decide +kernel), List.mem_of_getElem? (i := 623) (by decide +kernel), List.mem_of_getElem? (i := 624) (by decide +kernel)⟩
theorem lw_p33 : lw_okq (⟨"FourWayKernelModel", "framesAt", "(I)I"⟩, 34) := ⟨⟨by decide +kernel, by decide +kernel⟩, List.mem_of_getElem? (i := 433) (by decide +kernel), List.mem_of_getElem? (i := 627) (by decide +kernel), List.mem_of_getElem? (i := 628) (by decide +kernel)⟩
theorem lw_p34 : lw_okq (⟨"FourWayKernelModel", "changed", "(IIII)Z"⟩, 34) := ⟨⟨by decide +kernel, by decide +kernel⟩, List.mem_of_getElem? (i := 433) (by decide +kernel), List.mem_of_getElem? (i := 631) (by decide +kernel), List.mem_of_getElem? (i := 632) (by decide +kernel)⟩
theorem lw_p35 : lw_okq (⟨"FourWayKernelModel", "frameFor", "(I)I"⟩, 34) := ⟨⟨by decide +kernel, by decide +kernel⟩, List.mem_of_getElem? (i := 433) (by decide +kernel), List.mem_of_getElem? (i := 635) (by decide +kernel), List.mem_of_getElem? (i := 636) (by decide +kernel)⟩
theorem lw_p36 : lw_okq (⟨"FourWayKernelModel", "shoot", "(III)Z"⟩, 34) := ⟨⟨by decide +kernel, by decide +kernel⟩, List.mem_of_getElem? (i := 433) (by decide +kernel), List.mem_of_getElem? (i := 639) (by decide +kernel), List.mem_of_getElem? (i := 640) (by decide +kernel)⟩
theorem lw_p37 : lw_okq (⟨"FourWayKernelModel", "lengthOf", "(I)I"⟩, 34) := ⟨⟨by decide +kernel, by decide +kernel⟩, List.mem_of_getElem? (i := 433) (by decide +kernel), List.mem_of_getElem? (i := 643) (by decide +kernel), List.mem_of_getElem? (i := 644) (by decide +kernel)⟩
theorem lw_p38 : lw_okq (⟨"FourWayKernelModel", "at", "(II)I"⟩, 34) := ⟨⟨by decide +kernel, by decide +kernel⟩, List.mem_of_getElem? (i := 433) (by decide +kernel), List.mem_of_getElem? (i := 647) (by decide +kernel), List.mem_of_getElem? (i := 648) (by decide +kernel)⟩
theorem lw_p39 : lw_okq (⟨"FourWayKernelModel", "ahead", "(II)I"⟩, 34) := ⟨⟨by decide +kernel, by decide +kernel⟩, List.mem_of_getElem? (i := 433) (by decide +kernel), List.mem_of_getElem? (i := 651) (by decide +kernel), List.mem_of_getElem? (i := 652) (by decide +kernel)⟩
theorem lw_p40 : lw_okq (⟨"FourWayKernelModel", "run1", "(II)V"⟩, 34) := ⟨⟨by decide +kernel, by decide +kernel⟩, List.mem_of_getElem? (i := 433) (by decide +kernel), List.mem_of_getElem? (i := 655) (by decide +kernel), List.mem_of_getElem? (i := 656) (by decide +kernel)⟩
theorem lw_p41 : lw_okq (⟨"FourWayKernelModel", "longest", "()I"⟩, 34) := ⟨⟨by decide +kernel, by decide +kernel⟩, List.mem_of_getElem? (i := 433) (by decide +kernel), List.mem_of_getElem? (i := 659) (by decide +kernel), List.mem_of_getElem? (i := 660) (by decide +kernel)⟩
def lw_privs_3 : List (MethodName × Nat) := [(⟨"FourWayKernelModel", "some", "(I)Z"⟩, 34), (⟨"FourWayKernelModel", "framesAt", "(I)I"⟩, 34), (⟨"FourWayKernelModel", "changed", "(IIII)Z"⟩, 34), (⟨"FourWayKernelModel", "frameFor", "(I)I"⟩, 34), (⟨"FourWayKernelModel", "shoot", "(III)Z"⟩, 34), (⟨"FourWayKernelModel", "lengthOf", "(I)I"⟩, 34), (⟨"FourWayKernelModel", "at", "(II)I"⟩, 34), (⟨"FourWayKernelModel", "ahead", "(II)I"⟩, 34), (⟨"FourWayKernelModel", "run1", "(II)V"⟩, 34), (⟨"FourWayKernelModel", "longest", "()I"⟩, 34)]
theorem lw_r3 : ∀ q ∈ lw_privs_3, lw_okq q := List.forall_mem_cons.mpr ⟨lw_p32, List.forall_mem_cons.mpr ⟨lw_p33, List.forall_mem_cons.mpr ⟨lw_p34, List.forall_mem_cons.mpr ⟨lw_p35, List.forall_mem_cons.mpr ⟨lw_p36, List.forall_mem_cons.mpr ⟨lw_p37, List.forall_mem_cons.mpr ⟨lw_p38, List.forall_mem_cons.mpr ⟨lw_p39, List.forall_mem_cons.mpr ⟨lw_p40, List.forall_mem_cons.mpr ⟨lw_p41, fun _ h => absurd h List.not_mem_nil⟩⟩⟩⟩⟩⟩⟩⟩⟩⟩
def lw_privs : List (MethodName × Nat) := lw_privs_1 ++ (lw_privs_2 ++ (lw_privs_3))
def lw_tbl : List Cond := k2_sels lw_privs ++ tables_1
theorem lw_privs_ok : ∀ q ∈ lw_privs, lw_okq q := by
  show ∀ q ∈ lw_privs_1 ++ (lw_privs_2 ++ (lw_privs_3)), lw_okq q
  exact List.forall_mem_append.mpr ⟨lw_r1, List.forall_mem_append.mpr ⟨lw_r2, lw_r3⟩⟩
end
section
/-! A small machine of its own: values, heap, instructions by number, runs with fuel and depth.
Addresses are counted from the law's start: 0 is the script, 1, 2 .. are the cells in the order in which they are made. -/
abbrev ZV : Type := Int32 ⊕ Option Nat
abbrev ZK : Type := Nat ⊕ (Nat × Nat)
abbrev ZH : Type := (Nat → Option ZK) × (Nat → Nat → Int32) × (Nat → Nat → Option Nat) × Nat × Nat
abbrev ZL : Type := List (Nat × ZV)
abbrev ZI : Type := Nat × Nat × Nat × Int × List Nat
/-- one place of a two-place store -/
def zU {α : Type} (I : Nat → Nat → α) (a k : Nat) (x : α) : Nat → Nat → α := fun b j => if b = a then (if j = k then x else I a j) else I b j
theorem zU_s {α : Type} (I : Nat → Nat → α) (a k : Nat) (x : α) : zU I a k x a k = x := by simp [zU]
theorem zU_k {α : Type} (I : Nat → Nat → α) (a : Nat) {k j : Nat} (x : α) (h : j ≠ k) : zU I a k x a j = I a j := by simp [zU, h]
theorem zU_ab {α : Type} (I : Nat → Nat → α) {a b : Nat} (k : Nat) (x : α) (h : b ≠ a) : zU I a k x b = I b := by funext j; simp [zU, h]
theorem zU_aa (I : Nat → Nat → Int32) (a k : Nat) (x : Int32) : zU I a k x a = upd (I a) k x := by funext j; simp [zU, upd]
theorem zU_ao {α : Type} (I : Nat → Nat → α) (a k : Nat) (x : α) : zU I a k x a = va_up (I a) k x := by funext j; simp [zU, va_up]
def zget (L : ZL) (i : Nat) : Option ZV := (L.find? (fun q => q.1 == i)).map (fun q => q.2)
def zset : ZL → Nat → ZV → ZL
  | [], i, v => [(i, v)]
  | (j, u) :: L, i, v => if j = i then (i, v) :: L else (j, u) :: zset L i v
def zen : Nat → List ZV → ZL
  | _, [] => []
  | k, v :: r => (k, v) :: zen (k + 1) r
def zar (b : Nat) (x y : Int32) : Option Int32 :=
  if b = 0 then some (x + y) else if b = 1 then some (x - y) else if b = 2 then some (x * y)
  else if b = 3 then (if y = 0 then none else some (x / y)) else if b = 4 then some (x &&& y)
  else if b = 5 then some (x >>> (y &&& 31)) else if b = 6 then some ((x.toUInt32 >>> (y.toUInt32 &&& Int32.toUInt32 31)).toInt32) else none
/-- the compares: eq ne lt ge gt le -/
def zcp (b : Nat) (x y : Int32) : Bool :=
  if b = 0 then decide (x = y) else if b = 1 then decide (¬ x = y) else if b = 2 then decide (x < y) else if b = 3 then decide (y ≤ x) else if b = 4 then decide (y < x) else decide (x ≤ y)
def zin (i : Int32) (n : Nat) : Bool := decide (¬ (i < 0 ∨ n ≤ i.toNatClampNeg))
/-- one instruction that is no call and no return: (number, a, b, c, list), the pc behind it, locals, stack, heap -/
def zst (N : Nat → Nat) (i : ZI) (nx : Nat) (L : ZL) (st : List ZV) (h : ZH) : Option (Nat × ZL × List ZV × ZH) :=
  if i.1 = 0 then some (nx, L, .inl (Int32.ofInt i.2.2.2.1) :: st, h)
  else if i.1 = 1 then (match zget L i.2.1 with | some (.inl x) => some (nx, L, .inl x :: st, h) | _ => none)
  else if i.1 = 2 then (match zget L i.2.1 with | some (.inr x) => some (nx, L, .inr x :: st, h) | _ => none)
  else if i.1 = 3 then (match st with | .inl x :: r => some (nx, zset L i.2.1 (.inl x), r, h) | _ => none)
  else if i.1 = 4 then (match st with | .inr x :: r => some (nx, zset L i.2.1 (.inr x), r, h) | _ => none)
  else if i.1 = 5 then (match zget L i.2.1 with | some (.inl x) => some (nx, zset L i.2.1 (.inl (x + Int32.ofInt i.2.2.2.1)), st, h) | _ => none)
  else if i.1 = 6 then (match st with | .inl y :: .inl x :: r => (match zar i.2.2.1 x y with | some v => some (nx, L, .inl v :: r, h) | none => none) | _ => none)
  else if i.1 = 7 then (match st with | v :: r => some (nx, L, v :: v :: r, h) | _ => none)
  else if i.1 = 8 then (match st with | v :: w :: r => some (nx, L, v :: w :: v :: w :: r, h) | _ => none)
  else if i.1 = 9 then (match st with | v :: w :: r => some (nx, L, v :: w :: v :: r, h) | _ => none)
  else if i.1 = 10 then (match st with | _ :: r => some (nx, L, r, h) | _ => none)
  else if i.1 = 11 then (match st with | .inl y :: .inl x :: r => some (if zcp i.2.2.1 x y = true then i.2.1 else nx, L, r, h) | _ => none)
  else if i.1 = 12 then (match st with | .inl x :: r => some (if zcp i.2.2.1 x 0 = true then i.2.1 else nx, L, r, h) | _ => none)
  else if i.1 = 13 then some (i.2.1, L, st, h)
  else if i.1 = 14 then (match st with | .inr none :: r => some (i.2.1, L, r, h) | .inr (some _) :: r => some (nx, L, r, h) | _ => none)
  else if i.1 = 15 then (match st with | .inr none :: r => some (nx, L, r, h) | .inr (some _) :: r => some (i.2.1, L, r, h) | _ => none)
  else if i.1 = 16 then (match st with | .inl x :: r => (if x.toInt < i.2.2.2.1 then some (i.2.1, L, r, h) else match i.2.2.2.2[(x.toInt - i.2.2.2.1).toNat]? with | some t => some (t, L, r, h) | none => some (i.2.1, L, r, h)) | _ => none)
  else if i.1 = 17 then some (nx, L, .inr none :: st, h)
  else if i.1 = 20 then (match st with | .inr (some o) :: r => (if h.1 o = some (.inl i.2.1) then some (nx, L, .inl (h.2.1 o i.2.2.1) :: r, h) else none) | _ => none)
  else if i.1 = 21 then (match st with | .inr (some o) :: r => (if h.1 o = some (.inl i.2.1) then some (nx, L, .inr (h.2.2.1 o i.2.2.1) :: r, h) else none) | _ => none)
  else if i.1 = 22 then (match st with | .inl x :: .inr (some o) :: r => (if h.1 o = some (.inl i.2.1) then some (nx, L, r, (h.1, zU h.2.1 o i.2.2.1 x, h.2.2)) else none) | _ => none)
  else if i.1 = 23 then (match st with | .inr x :: .inr (some o) :: r => (if h.1 o = some (.inl i.2.1) then some (nx, L, r, (h.1, h.2.1, zU h.2.2.1 o i.2.2.1 x, h.2.2.2)) else none) | _ => none)
  else if i.1 = 24 then (match st with | .inl j :: .inr (some o) :: r => (match h.1 o with | some (.inr (t, n)) => (if (t = 0 ∨ (t = 9 ∧ o = 0)) ∧ zin j n = true then some (nx, L, .inl (h.2.1 o j.toNatClampNeg) :: r, h) else none) | _ => none) | _ => none)
  else if i.1 = 25 then (match st with | .inl x :: .inl j :: .inr (some o) :: r => (match h.1 o with | some (.inr (t, n)) => (if t = 0 ∧ zin j n = true then some (nx, L, r, (h.1, zU h.2.1 o j.toNatClampNeg x, h.2.2)) else none) | _ => none) | _ => none)
  else if i.1 = 26 then (match st with | .inl j :: .inr (some o) :: r => (match h.1 o with | some (.inr (t, n)) => (if t = 1 ∧ zin j n = true then some (nx, L, .inl (h.2.1 o j.toNatClampNeg) :: r, h) else none) | _ => none) | _ => none)
  else if i.1 = 27 then (match st with | .inl x :: .inl j :: .inr (some o) :: r => (match h.1 o with | some (.inr (t, n)) => (if t = 1 ∧ zin j n = true ∧ (x = 0 ∨ x = 1) then some (nx, L, r, (h.1, zU h.2.1 o j.toNatClampNeg x, h.2.2)) else none) | _ => none) | _ => none)
  else if i.1 = 28 then (match st with | .inl j :: .inr (some o) :: r => (match h.1 o with | some (.inr (t, n)) => (if t = i.2.1 ∧ zin j n = true then some (nx, L, .inr (h.2.2.1 o j.toNatClampNeg) :: r, h) else none) | _ => none) | _ => none)
  else if i.1 = 29 then (match st with | .inr (some v) :: .inl j :: .inr (some o) :: r => (match h.1 o with | some (.inr (t, n)) => (if t = i.2.1 ∧ zin j n = true ∧ h.1 v = some (.inl i.2.2.1) then some (nx, L, r, (h.1, h.2.1, zU h.2.2.1 o j.toNatClampNeg (some v), h.2.2.2)) else none) | _ => none) | _ => none)
  else if i.1 = 30 then (match st with | .inr (some o) :: r => (match h.1 o with | some (.inr (t, n)) => (if t < 5 ∨ (t = 9 ∧ o = 0) then some (nx, L, .inl (Int32.ofNat n) :: r, h) else none) | _ => none) | _ => none)
  else if i.1 = 31 then some (nx, L, .inr (some h.2.2.2.1) :: st, (va_up h.1 h.2.2.2.1 (some (.inl i.2.1)), va_up h.2.1 h.2.2.2.1 (fun _ => 0), va_up h.2.2.1 h.2.2.2.1 (fun _ => none), h.2.2.2.1 + 1, h.2.2.2.2 + N i.2.1))
  else if i.1 = 32 then (match st with | .inl x :: r => (if ¬ x < 0 ∧ x.toNatClampNeg ≤ 1000 then some (nx, L, .inr (some h.2.2.2.1) :: r, (va_up h.1 h.2.2.2.1 (some (.inr (i.2.1, x.toNatClampNeg))), va_up h.2.1 h.2.2.2.1 (fun _ => 0), va_up h.2.2.1 h.2.2.2.1 (fun _ => none), h.2.2.2.1 + 1, h.2.2.2.2 + x.toNatClampNeg)) else none) | _ => none)
  else none
/-- the receiver of a call, [kind, class]: none at a static one (kind 0); else an object of the method's class -/
def zcb (k : List Nat) (as : List ZV) (h : ZH) : Bool := match k with
  | [0, _] => true
  | [_, c] => (match as with | .inr (some o) :: _ => decide (h.1 o = some (.inl c)) | _ => false)
  | _ => false
abbrev ZR : Type := Nat → Nat → Nat → ZL → List ZV → ZH → Option (Option ZV × ZH)
/-- one instruction and what follows by rec -/
def zb (N : Nat → Nat) (rec : ZR) (q : Option (ZI × Nat)) (d M : Nat) (L : ZL) (st : List ZV) (h : ZH) : Option (Option ZV × ZH) :=
  match q with
  | none => none
  | some (i, nx) =>
    if i.1 = 40 then
      (match d with
      | 0 => none
      | d' + 1 =>
        if i.2.2.1 ≤ st.length ∧ (st.drop i.2.2.1).length ≤ 8 ∧ zcb i.2.2.2.2 (st.take i.2.2.1).reverse h = true then
          (match rec d' i.2.1 0 (zen 0 (st.take i.2.2.1).reverse) [] h with
          | none => none
          | some (r, h1) => rec (d' + 1) M nx L (r.toList ++ st.drop i.2.2.1) h1)
        else none)
    else if i.1 = 41 then
      (match d with
      | 0 => none
      | d' + 1 => (match st with | .inr (some _) :: r => (if r.length ≤ 8 then rec (d' + 1) M nx L r h else none) | _ => none))
    else if i.1 = 50 then (match st with | [] => some (none, h) | _ => none)
    else if i.1 = 51 then (match st with | [.inl x] => (if i.2.2.1 = 0 ∨ x = 0 ∨ x = 1 then some (some (.inl x), h) else none) | _ => none)
    else if i.1 = 52 then (match st with | [.inr x] => some (some (.inr x), h) | _ => none)
    else match zst N i nx L st h with
      | none => none
      | some q => rec d M q.1 q.2.1 q.2.2.1 q.2.2.2
/-- a run: fuel, depth, method, pc, locals, stack, heap; cd: the code, N: how many fields a class has -/
def zev (cd : Nat → Nat → Option (ZI × Nat)) (N : Nat → Nat) : Nat → ZR
  | 0 => fun _ _ _ _ _ _ => none
  | n + 1 => fun d M pc L st h => zb N (zev cd N n) (cd M pc) d M L st h
section ZT
variable {cd : Nat → Nat → Option (ZI × Nat)} {N : Nat → Nat}
/-- what 'rec' answers, 'rec2' answers too: then one instruction more, too -/
theorem zb_mono {rec rec2 : ZR} (hr : ∀ d M pc L st h x, rec d M pc L st h = some x → rec2 d M pc L st h = some x) {q : Option (ZI × Nat)} {d M : Nat} {L : ZL} {st : List ZV} {h : ZH} {x : Option ZV × ZH} (e : zb N rec q d M L st h = some x) : zb N rec2 q d M L st h = some x := by
  unfold zb at e ⊢
  cases q with
  | none => cases e
  | some q =>
    obtain ⟨i, nx⟩ := q
    dsimp only at e ⊢
    by_cases h40 : i.1 = 40
    · rw [if_pos h40] at e ⊢
      cases d with
      | zero => cases e
      | succ d' =>
        dsimp only at e ⊢
        by_cases hc : i.2.2.1 ≤ st.length ∧ (st.drop i.2.2.1).length ≤ 8 ∧ zcb i.2.2.2.2 (st.take i.2.2.1).reverse h = true
        · rw [if_pos hc] at e ⊢
          cases hq : rec d' i.2.1 0 (zen 0 (st.take i.2.2.1).reverse) [] h with
          | none => rw [hq] at e; cases e
          | some y =>
            rw [hq] at e
            rw [hr _ _ _ _ _ _ _ hq]
            exact hr _ _ _ _ _ _ _ e
        · rw [if_neg hc] at e
          cases e
    · rw [if_neg h40] at e ⊢
      by_cases h41 : i.1 = 41
      · rw [if_pos h41] at e ⊢
        cases d with
        | zero => cases e
        | succ d' =>
          dsimp only at e ⊢
          split at e
          · split at e
            · rename_i hl
              rw [if_pos hl]
              exact hr _ _ _ _ _ _ _ e
            · cases e
          · cases e
      · rw [if_neg h41] at e ⊢
        by_cases h50 : i.1 = 50
        · rw [if_pos h50] at e ⊢; exact e
        · rw [if_neg h50] at e ⊢
          by_cases h51 : i.1 = 51
          · rw [if_pos h51] at e ⊢; exact e
          · rw [if_neg h51] at e ⊢
            by_cases h52 : i.1 = 52
            · rw [if_pos h52] at e ⊢; exact e
            · rw [if_neg h52] at e ⊢
              cases hz : zst N i nx L st h with
              | none => rw [hz] at e; cases e
              | some y =>
                rw [hz] at e
                exact hr _ _ _ _ _ _ _ e
theorem zev_s : ∀ (n d M pc : Nat) (L : ZL) (st : List ZV) (h : ZH) (x : Option ZV × ZH), zev cd N n d M pc L st h = some x → zev cd N (n + 1) d M pc L st h = some x := by
  intro n
  induction n with
  | zero => intro d M pc L st h x e; cases e
  | succ n ih => intro d M pc L st h x e; exact zb_mono (rec := zev cd N n) ih e
theorem zev_le {n k : Nat} (hk : n ≤ k) {d M pc : Nat} {L : ZL} {st : List ZV} {h : ZH} {x : Option ZV × ZH} (e : zev cd N n d M pc L st h = some x) : zev cd N k d M pc L st h = some x := by
  induction hk with
  | refl => exact e
  | step _ ih => exact zev_s _ _ _ _ _ _ _ _ ih
end ZT
set_option maxHeartbeats 4000000 in
theorem zst_n {N : Nat → Nat} {i : ZI} {nx : Nat} {L : ZL} {st : List ZV} {h : ZH} {q : Nat × ZL × List ZV × ZH} (e : zst N i nx L st h = some q) : h.2.2.2.1 ≤ q.2.2.2.2.2.2.1 ∧ h.2.2.2.2 ≤ q.2.2.2.2.2.2.2 := by
  unfold zst at e
  by_cases h0 : i.1 = 0
  · rw [if_pos h0] at e
    repeat' (first | (cases e; done) | (cases e; exact ⟨Nat.le_refl _, Nat.le_refl _⟩) | (cases e; exact ⟨Nat.le_succ _, Nat.le_add_right _ _⟩) | split at e)
  rw [if_neg h0] at e
  by_cases h1 : i.1 = 1
  · rw [if_pos h1] at e
    repeat' (first | (cases e; done) | (cases e; exact ⟨Nat.le_refl _, Nat.le_refl _⟩) | (cases e; exact ⟨Nat.le_succ _, Nat.le_add_right _ _⟩) | split at e)
  rw [if_neg h1] at e
  by_cases h2 : i.1 = 2
  · rw [if_pos h2] at e
    repeat' (first | (cases e; done) | (cases e; exact ⟨Nat.le_refl _, Nat.le_refl _⟩) | (cases e; exact ⟨Nat.le_succ _, Nat.le_add_right _ _⟩) | split at e)
  rw [if_neg h2] at e
  by_cases h3 : i.1 = 3
  · rw [if_pos h3] at e
    repeat' (first | (cases e; done) | (cases e; exact ⟨Nat.le_refl _, Nat.le_refl _⟩) | (cases e; exact ⟨Nat.le_succ _, Nat.le_add_right _ _⟩) | split at e)
  rw [if_neg h3] at e
  by_cases h4 : i.1 = 4
  · rw [if_pos h4] at e
    repeat' (first | (cases e; done) | (cases e; exact ⟨Nat.le_refl _, Nat.le_refl _⟩) | (cases e; exact ⟨Nat.le_succ _, Nat.le_add_right _ _⟩) | split at e)
  rw [if_neg h4] at e
  by_cases h5 : i.1 = 5
  · rw [if_pos h5] at e
    repeat' (first | (cases e; done) | (cases e; exact ⟨Nat.le_refl _, Nat.le_refl _⟩) | (cases e; exact ⟨Nat.le_succ _, Nat.le_add_right _ _⟩) | split at e)
  rw [if_neg h5] at e
  by_cases h6 : i.1 = 6
  · rw [if_pos h6] at e
    repeat' (first | (cases e; done) | (cases e; exact ⟨Nat.le_refl _, Nat.le_refl _⟩) | (cases e; exact ⟨Nat.le_succ _, Nat.le_add_right _ _⟩) | split at e)
  rw [if_neg h6] at e
  by_cases h7 : i.1 = 7
  · rw [if_pos h7] at e
    repeat' (first | (cases e; done) | (cases e; exact ⟨Nat.le_refl _, Nat.le_refl _⟩) | (cases e; exact ⟨Nat.le_succ _, Nat.le_add_right _ _⟩) | split at e)
  rw [if_neg h7] at e
  by_cases h8 : i.1 = 8
  · rw [if_pos h8] at e
    repeat' (first | (cases e; done) | (cases e; exact ⟨Nat.le_refl _, Nat.le_refl _⟩) | (cases e; exact ⟨Nat.le_succ _, Nat.le_add_right _ _⟩) | split at e)
  rw [if_neg h8] at e
  by_cases h9 : i.1 = 9
  · rw [if_pos h9] at e
    repeat' (first | (cases e; done) | (cases e; exact ⟨Nat.le_refl _, Nat.le_refl _⟩) | (cases e; exact ⟨Nat.le_succ _, Nat.le_add_right _ _⟩) | split at e)
  rw [if_neg h9] at e
  by_cases h10 : i.1 = 10
  · rw [if_pos h10] at e
    repeat' (first | (cases e; done) | (cases e; exact ⟨Nat.le_refl _, Nat.le_refl _⟩) | (cases e; exact ⟨Nat.le_succ _, Nat.le_add_right _ _⟩) | split at e)
  rw [if_neg h10] at e
  by_cases h11 : i.1 = 11
  · rw [if_pos h11] at e
    repeat' (first | (cases e; done) | (cases e; exact ⟨Nat.le_refl _, Nat.le_refl _⟩) | (cases e; exact ⟨Nat.le_succ _, Nat.le_add_right _ _⟩) | split at e)
  rw [if_neg h11] at e
  by_cases h12 : i.1 = 12
  · rw [if_pos h12] at e
    repeat' (first | (cases e; done) | (cases e; exact ⟨Nat.le_refl _, Nat.le_refl _⟩) | (cases e; exact ⟨Nat.le_succ _, Nat.le_add_right _ _⟩) | split at e)
  rw [if_neg h12] at e
  by_cases h13 : i.1 = 13
  · rw [if_pos h13] at e
    repeat' (first | (cases e; done) | (cases e; exact ⟨Nat.le_refl _, Nat.le_refl _⟩) | (cases e; exact ⟨Nat.le_succ _, Nat.le_add_right _ _⟩) | split at e)
  rw [if_neg h13] at e
  by_cases h14 : i.1 = 14
  · rw [if_pos h14] at e
    repeat' (first | (cases e; done) | (cases e; exact ⟨Nat.le_refl _, Nat.le_refl _⟩) | (cases e; exact ⟨Nat.le_succ _, Nat.le_add_right _ _⟩) | split at e)
  rw [if_neg h14] at e
  by_cases h15 : i.1 = 15
  · rw [if_pos h15] at e
    repeat' (first | (cases e; done) | (cases e; exact ⟨Nat.le_refl _, Nat.le_refl _⟩) | (cases e; exact ⟨Nat.le_succ _, Nat.le_add_right _ _⟩) | split at e)
  rw [if_neg h15] at e
  by_cases h16 : i.1 = 16
  · rw [if_pos h16] at e
    repeat' (first | (cases e; done) | (cases e; exact ⟨Nat.le_refl _, Nat.le_refl _⟩) | (cases e; exact ⟨Nat.le_succ _, Nat.le_add_right _ _⟩) | split at e)
  rw [if_neg h16] at e
  by_cases h17 : i.1 = 17
  · rw [if_pos h17] at e
    repeat' (first | (cases e; done) | (cases e; exact ⟨Nat.le_refl _, Nat.le_refl _⟩) | (cases e; exact ⟨Nat.le_succ _, Nat.le_add_right _ _⟩) | split at e)
  rw [if_neg h17] at e
  by_cases h20 : i.1 = 20
  · rw [if_pos h20] at e
    repeat' (first | (cases e; done) | (cases e; exact ⟨Nat.le_refl _, Nat.le_refl _⟩) | (cases e; exact ⟨Nat.le_succ _, Nat.le_add_right _ _⟩) | split at e)
  rw [if_neg h20] at e
  by_cases h21 : i.1 = 21
  · rw [if_pos h21] at e
    repeat' (first | (cases e; done) | (cases e; exact ⟨Nat.le_refl _, Nat.le_refl _⟩) | (cases e; exact ⟨Nat.le_succ _, Nat.le_add_right _ _⟩) | split at e)
  rw [if_neg h21] at e
  by_cases h22 : i.1 = 22
  · rw [if_pos h22] at e
    repeat' (first | (cases e; done) | (cases e; exact ⟨Nat.le_refl _, Nat.le_refl _⟩) | (cases e; exact ⟨Nat.le_succ _, Nat.le_add_right _ _⟩) | split at e)
  rw [if_neg h22] at e
  by_cases h23 : i.1 = 23
  · rw [if_pos h23] at e
    repeat' (first | (cases e; done) | (cases e; exact ⟨Nat.le_refl _, Nat.le_refl _⟩) | (cases e; exact ⟨Nat.le_succ _, Nat.le_add_right _ _⟩) | split at e)
  rw [if_neg h23] at e
  by_cases h24 : i.1 = 24
  · rw [if_pos h24] at e
    repeat' (first | (cases e; done) | (cases e; exact ⟨Nat.le_refl _, Nat.le_refl _⟩) | (cases e; exact ⟨Nat.le_succ _, Nat.le_add_right _ _⟩) | split at e)
  rw [if_neg h24] at e
  by_cases h25 : i.1 = 25
  · rw [if_pos h25] at e
    repeat' (first | (cases e; done) | (cases e; exact ⟨Nat.le_refl _, Nat.le_refl _⟩) | (cases e; exact ⟨Nat.le_succ _, Nat.le_add_right _ _⟩) | split at e)
  rw [if_neg h25] at e
  by_cases h26 : i.1 = 26
  · rw [if_pos h26] at e
    repeat' (first | (cases e; done) | (cases e; exact ⟨Nat.le_refl _, Nat.le_refl _⟩) | (cases e; exact ⟨Nat.le_succ _, Nat.le_add_right _ _⟩) | split at e)
  rw [if_neg h26] at e
  by_cases h27 : i.1 = 27
  · rw [if_pos h27] at e
    repeat' (first | (cases e; done) | (cases e; exact ⟨Nat.le_refl _, Nat.le_refl _⟩) | (cases e; exact ⟨Nat.le_succ _, Nat.le_add_right _ _⟩) | split at e)
  rw [if_neg h27] at e
  by_cases h28 : i.1 = 28
  · rw [if_pos h28] at e
    repeat' (first | (cases e; done) | (cases e; exact ⟨Nat.le_refl _, Nat.le_refl _⟩) | (cases e; exact ⟨Nat.le_succ _, Nat.le_add_right _ _⟩) | split at e)
  rw [if_neg h28] at e
  by_cases h29 : i.1 = 29
  · rw [if_pos h29] at e
    repeat' (first | (cases e; done) | (cases e; exact ⟨Nat.le_refl _, Nat.le_refl _⟩) | (cases e; exact ⟨Nat.le_succ _, Nat.le_add_right _ _⟩) | split at e)
  rw [if_neg h29] at e
  by_cases h30 : i.1 = 30
  · rw [if_pos h30] at e
    repeat' (first | (cases e; done) | (cases e; exact ⟨Nat.le_refl _, Nat.le_refl _⟩) | (cases e; exact ⟨Nat.le_succ _, Nat.le_add_right _ _⟩) | split at e)
  rw [if_neg h30] at e
  by_cases h31 : i.1 = 31
  · rw [if_pos h31] at e
    repeat' (first | (cases e; done) | (cases e; exact ⟨Nat.le_refl _, Nat.le_refl _⟩) | (cases e; exact ⟨Nat.le_succ _, Nat.le_add_right _ _⟩) | split at e)
  rw [if_neg h31] at e
  by_cases h32 : i.1 = 32
  · rw [if_pos h32] at e
    repeat' (first | (cases e; done) | (cases e; exact ⟨Nat.le_refl _, Nat.le_refl _⟩) | (cases e; exact ⟨Nat.le_succ _, Nat.le_add_right _ _⟩) | split at e)
  rw [if_neg h32] at e
  cases e
end
section
/-! The tables of the small machine, printed by a program out of the classes' listing and of the tables of the Statement. -/
def zF0 : u_T := fun k => match k with
  | 0 => ("FourWayKernel", "tasks", "[LFourWayKernel$Task;", true)
  | 1 => ("FourWayKernel", "taskCount", "I", false)
  | 2 => ("FourWayKernel", "processors", "[LFourWayKernel$Processor;", true)
  | 3 => ("FourWayKernel", "pool", "LFourWayKernel$Line;", true)
  | 4 => ("FourWayKernel", "words", "[I", true)
  | 5 => ("FourWayKernel", "pageEntries", "[I", true)
  | 6 => ("FourWayKernel", "enteredGroups", "[Z", true)
  | 7 => ("FourWayKernel", "nextTicket", "I", false)
  | 8 => ("FourWayKernel", "servingTicket", "I", false)
  | _ => ("FourWayKernel", "stepCount", "I", false)
def zF1 : u_T := fun k => match k with
  | 0 => ("FourWayKernel$Line", "items", "[I", true)
  | _ => ("FourWayKernel$Line", "count", "I", false)
def zF2 : u_T := fun k => match k with
  | 0 => ("FourWayKernel$Buffer", "pages", "[I", true)
  | 1 => ("FourWayKernel$Buffer", "entries", "[I", true)
  | _ => ("FourWayKernel$Buffer", "count", "I", false)
def zF3 : u_T := fun k => match k with
  | 0 => ("FourWayKernel$Processor", "number", "I", true)
  | 1 => ("FourWayKernel$Processor", "buffer", "LFourWayKernel$Buffer;", true)
  | 2 => ("FourWayKernel$Processor", "storeRoom", "LFourWayKernel$Line;", true)
  | 3 => ("FourWayKernel$Processor", "mailbox", "LFourWayKernel$Line;", true)
  | 4 => ("FourWayKernel$Processor", "queue", "LFourWayKernel$Line;", true)
  | _ => ("FourWayKernel$Processor", "running", "I", false)
def zF4 : u_T := fun k => match k with
  | 0 => ("FourWayKernel$Order", "kind", "I", true)
  | 1 => ("FourWayKernel$Order", "page", "I", true)
  | 2 => ("FourWayKernel$Order", "n", "I", true)
  | 3 => ("FourWayKernel$Order", "argument", "I", true)
  | _ => ("FourWayKernel$Order", "result", "I", false)
def zF5 : u_T := fun k => match k with
  | 0 => ("FourWayKernel$Task", "number", "I", true)
  | 1 => ("FourWayKernel$Task", "orders", "[LFourWayKernel$Order;", true)
  | 2 => ("FourWayKernel$Task", "orderCount", "I", false)
  | 3 => ("FourWayKernel$Task", "doneCount", "I", false)
  | 4 => ("FourWayKernel$Task", "home", "I", false)
  | 5 => ("FourWayKernel$Task", "phase", "I", false)
  | 6 => ("FourWayKernel$Task", "turn", "I", false)
  | 7 => ("FourWayKernel$Task", "ticket", "I", false)
  | 8 => ("FourWayKernel$Task", "owed", "I", false)
  | 9 => ("FourWayKernel$Task", "outcome", "I", false)
  | _ => ("FourWayKernel$Task", "kept", "LFourWayKernel$Line;", true)
def zF6 : u_T := fun k => match k with
  | 0 => ("FourWayKernelModel", "threads", "I", false)
  | 1 => ("FourWayKernelModel", "count", "[I", true)
  | 2 => ("FourWayKernelModel", "done", "[I", true)
  | 3 => ("FourWayKernelModel", "kind", "[I", true)
  | 4 => ("FourWayKernelModel", "first", "[I", true)
  | 5 => ("FourWayKernelModel", "many", "[I", true)
  | 6 => ("FourWayKernelModel", "value", "[I", true)
  | 7 => ("FourWayKernelModel", "outcome", "[I", true)
  | 8 => ("FourWayKernelModel", "where", "[I", true)
  | 9 => ("FourWayKernelModel", "how", "[I", true)
  | 10 => ("FourWayKernelModel", "since", "[I", true)
  | 11 => ("FourWayKernelModel", "clock", "I", false)
  | 12 => ("FourWayKernelModel", "phase", "[I", true)
  | 13 => ("FourWayKernelModel", "ticket", "[I", true)
  | 14 => ("FourWayKernelModel", "progress", "[I", true)
  | 15 => ("FourWayKernelModel", "owed", "[I", true)
  | 16 => ("FourWayKernelModel", "hits", "[I", true)
  | 17 => ("FourWayKernelModel", "refused", "[Z", true)
  | 18 => ("FourWayKernelModel", "kept", "[I", true)
  | 19 => ("FourWayKernelModel", "keeps", "[I", true)
  | 20 => ("FourWayKernelModel", "next", "I", false)
  | 21 => ("FourWayKernelModel", "serving", "I", false)
  | 22 => ("FourWayKernelModel", "frameOf", "[I", true)
  | 23 => ("FourWayKernelModel", "writableOf", "[Z", true)
  | 24 => ("FourWayKernelModel", "entered", "[Z", true)
  | 25 => ("FourWayKernelModel", "word", "[I", true)
  | 26 => ("FourWayKernelModel", "known", "[I", true)
  | 27 => ("FourWayKernelModel", "knownFrame", "[I", true)
  | 28 => ("FourWayKernelModel", "knownWritable", "[Z", true)
  | 29 => ("FourWayKernelModel", "home", "[I", true)
  | 30 => ("FourWayKernelModel", "laid", "[I", true)
  | 31 => ("FourWayKernelModel", "asked", "[Z", true)
  | 32 => ("FourWayKernelModel", "askedBy", "[I", true)
  | _ => ("FourWayKernelModel", "made", "I", false)
def zcl : List vw_C := [("FourWayKernel", zF0, 10), ("FourWayKernel$Line", zF1, 2), ("FourWayKernel$Buffer", zF2, 3), ("FourWayKernel$Processor", zF3, 6), ("FourWayKernel$Order", zF4, 5), ("FourWayKernel$Task", zF5, 11), ("FourWayKernelModel", zF6, 34)]
def zC (ci : Nat) : vw_C := zcl.getD ci ("", zF0, 0)
def zfn (ci : Nat) : Nat := [10, 2, 3, 6, 5, 11, 34].getD ci 0
def zftl : List (List FieldType) := [[.array (.object "FourWayKernel$Task"), .int, .array (.object "FourWayKernel$Processor"), .object "FourWayKernel$Line", .array .int, .array .int, .array .boolean, .int, .int, .int], [.array .int, .int], [.array .int, .array .int, .int], [.int, .object "FourWayKernel$Buffer", .object "FourWayKernel$Line", .object "FourWayKernel$Line", .object "FourWayKernel$Line", .int], [.int, .int, .int, .int, .int], [.int, .array (.object "FourWayKernel$Order"), .int, .int, .int, .int, .int, .int, .int, .int, .object "FourWayKernel$Line"], [.int, .array .int, .array .int, .array .int, .array .int, .array .int, .array .int, .array .int, .array .int, .array .int, .array .int, .int, .array .int, .array .int, .array .int, .array .int, .array .int, .array .boolean, .array .int, .array .int, .int, .int, .array .int, .array .boolean, .array .boolean, .array .int, .array .int, .array .int, .array .boolean, .array .int, .array .int, .array .boolean, .array .int, .int]]
def zft (ci k : Nat) : FieldType := (zftl.getD ci []).getD k .int
def zrf (ci k : Nat) : Bool := match zft ci k with | .object _ => true | .array _ => true | _ => false
def zty : List FieldType := [.int, .boolean, .object "FourWayKernel$Task", .object "FourWayKernel$Processor", .object "FourWayKernel$Order"]
def zhost : String := "FourWayKernel"
def zAO : List String := ["FourWayKernel$Task", "FourWayKernel$Processor", "FourWayKernel$Order"]
def zNW : List (String × Nat × String × String × String × String) := [("FourWayKernel", 103, "FourWayKernel$Line", "count", "I", "FourWayKernel"), ("FourWayKernel", 196, "FourWayKernel$Processor", "number", "I", "FourWayKernel"), ("FourWayKernel", 106, "FourWayKernel$Processor", "buffer", "LFourWayKernel$Buffer;", "FourWayKernel"), ("FourWayKernel", 115, "FourWayKernel$Processor", "storeRoom", "LFourWayKernel$Line;", "FourWayKernel"), ("FourWayKernel", 100, "FourWayKernel$Processor", "mailbox", "LFourWayKernel$Line;", "FourWayKernel"), ("FourWayKernel", 94, "FourWayKernel$Processor", "queue", "LFourWayKernel$Line;", "FourWayKernel"), ("FourWayKernel", 85, "FourWayKernel$Processor", "running", "I", "FourWayKernel"), ("FourWayKernel", 140, "FourWayKernel$Task", "number", "I", "FourWayKernel"), ("FourWayKernel", 118, "FourWayKernel$Task", "orderCount", "I", "FourWayKernel"), ("FourWayKernel", 187, "FourWayKernel$Task", "doneCount", "I", "FourWayKernel"), ("FourWayKernel", 137, "FourWayKernel$Task", "home", "I", "FourWayKernel"), ("FourWayKernel", 91, "FourWayKernel$Task", "phase", "I", "FourWayKernel"), ("FourWayKernel", 246, "FourWayKernel$Task", "turn", "I", "FourWayKernel"), ("FourWayKernel", 240, "FourWayKernel$Task", "ticket", "I", "FourWayKernel"), ("FourWayKernel", 171, "FourWayKernel$Task", "owed", "I", "FourWayKernel"), ("FourWayKernel", 181, "FourWayKernel$Task", "outcome", "I", "FourWayKernel"), ("FourWayKernel", 263, "FourWayKernel$Task", "kept", "LFourWayKernel$Line;", "FourWayKernel"), ("FourWayKernel", 190, "FourWayKernel$Order", "kind", "I", "FourWayKernel"), ("FourWayKernel", 162, "FourWayKernel$Order", "page", "I", "FourWayKernel"), ("FourWayKernel", 165, "FourWayKernel$Order", "n", "I", "FourWayKernel"), ("FourWayKernel", 193, "FourWayKernel$Order", "argument", "I", "FourWayKernel"), ("FourWayKernel$Task", 65, "FourWayKernel$Order", "result", "I", "FourWayKernel"), ("FourWayKernel", 184, "FourWayKernel$Order", "result", "I", "FourWayKernel")]
def zWS : List Cond := lw_tbl.filter goodWord
theorem zWS_ok : ∀ w ∈ zWS, (w.onTables && w.keeps) = true ∨ ∃ ty, w = .arrayClass ty := fun w hw => good_of_word (List.mem_filter.mp hw).2
theorem zWS_tbl : ∀ w ∈ zWS, w ∈ lw_tbl := fun w hw => (List.mem_filter.mp hw).1
theorem zw_t {w : Cond} (j : Nat) (h : tables_1[j]? = some w) (g : goodWord w = true) : w ∈ zWS := List.mem_filter.mpr ⟨List.mem_append_right _ (List.mem_of_getElem? h), g⟩
theorem zw_s {w : Cond} (j : Nat) (h : (k2_sels lw_privs)[j]? = some w) (g : goodWord w = true) : w ∈ zWS := List.mem_filter.mpr ⟨List.mem_append_left _ (List.mem_of_getElem? h), g⟩
def zmns : List MethodName := [⟨"FourWayKernel", "<init>", "()V"⟩, ⟨"FourWayKernel", "thread", "(I)I"⟩, ⟨"FourWayKernel", "load", "(II)I"⟩, ⟨"FourWayKernel", "store", "(III)I"⟩, ⟨"FourWayKernel", "map", "(IIIZ)I"⟩, ⟨"FourWayKernel", "unmap", "(III)I"⟩, ⟨"FourWayKernel", "protect", "(III)I"⟩, ⟨"FourWayKernel", "move", "(II)I"⟩, ⟨"FourWayKernel", "step", "(I)I"⟩, ⟨"FourWayKernel", "run", "(II)I"⟩, ⟨"FourWayKernel", "result", "(II)I"⟩, ⟨"FourWayKernel", "current", "(I)I"⟩, ⟨"FourWayKernel", "phase", "(I)I"⟩, ⟨"FourWayKernel", "queued", "(II)I"⟩, ⟨"FourWayKernel", "mail", "(I)I"⟩, ⟨"FourWayKernel", "table", "(I)I"⟩, ⟨"FourWayKernel", "translation", "(II)I"⟩, ⟨"FourWayKernel", "word", "(I)I"⟩, ⟨"FourWayKernel", "spare", "(I)I"⟩, ⟨"FourWayKernel", "tickets", "()I"⟩, ⟨"FourWayKernel", "steps", "()I"⟩, ⟨"FourWayKernel", "isProcessor", "(I)Z"⟩, ⟨"FourWayKernel", "isRange", "(II)Z"⟩, ⟨"FourWayKernel", "findTask", "(I)LFourWayKernel$Task;"⟩, ⟨"FourWayKernel", "addOrder", "(IIIII)I"⟩, ⟨"FourWayKernel", "microStep", "(LFourWayKernel$Processor;)I"⟩, ⟨"FourWayKernel", "answerRequest", "(LFourWayKernel$Processor;)V"⟩, ⟨"FourWayKernel", "takeThread", "(LFourWayKernel$Processor;)I"⟩, ⟨"FourWayKernel", "longestQueue", "()LFourWayKernel$Line;"⟩, ⟨"FourWayKernel", "finishOrder", "(LFourWayKernel$Task;LFourWayKernel$Order;LFourWayKernel$Processor;)V"⟩, ⟨"FourWayKernel", "makePhase", "(LFourWayKernel$Task;LFourWayKernel$Order;LFourWayKernel$Processor;)Z"⟩, ⟨"FourWayKernel", "lookIntoBuffer", "(LFourWayKernel$Task;LFourWayKernel$Order;LFourWayKernel$Processor;)Z"⟩, ⟨"FourWayKernel", "lookIntoTop", "(LFourWayKernel$Task;LFourWayKernel$Order;)Z"⟩, ⟨"FourWayKernel", "lookIntoLeaf", "(LFourWayKernel$Task;LFourWayKernel$Order;LFourWayKernel$Processor;)Z"⟩, ⟨"FourWayKernel", "drawTicket", "(LFourWayKernel$Task;)V"⟩, ⟨"FourWayKernel", "waitForLock", "(LFourWayKernel$Task;LFourWayKernel$Order;)V"⟩, ⟨"FourWayKernel", "checkMap", "(LFourWayKernel$Task;LFourWayKernel$Order;LFourWayKernel$Processor;)V"⟩, ⟨"FourWayKernel", "isUnmapped", "(II)Z"⟩, ⟨"FourWayKernel", "changePage", "(LFourWayKernel$Task;LFourWayKernel$Order;LFourWayKernel$Processor;)V"⟩, ⟨"FourWayKernel", "mapPage", "(IILFourWayKernel$Processor;)Z"⟩, ⟨"FourWayKernel", "unmapPage", "(ILFourWayKernel$Task;)Z"⟩, ⟨"FourWayKernel", "protectPage", "(I)Z"⟩, ⟨"FourWayKernel", "sendRequest", "(LFourWayKernel$Task;LFourWayKernel$Order;LFourWayKernel$Processor;)V"⟩, ⟨"FourWayKernel", "awaitAnswers", "(LFourWayKernel$Task;LFourWayKernel$Order;)V"⟩, ⟨"FourWayKernel", "releaseFrame", "(LFourWayKernel$Task;LFourWayKernel$Processor;)V"⟩, ⟨"FourWayKernel", "isWritable", "(I)Z"⟩, ⟨"FourWayKernel", "frameOf", "(I)I"⟩, ⟨"FourWayKernel$Line", "<init>", "(I)V"⟩, ⟨"FourWayKernel$Line", "addLast", "(I)V"⟩, ⟨"FourWayKernel$Line", "at", "(I)I"⟩, ⟨"FourWayKernel$Line", "takeFirst", "()I"⟩, ⟨"FourWayKernel$Line", "takeLast", "()I"⟩, ⟨"FourWayKernel$Buffer", "<init>", "()V"⟩, ⟨"FourWayKernel$Buffer", "entryOf", "(I)I"⟩, ⟨"FourWayKernel$Buffer", "putLatest", "(II)V"⟩, ⟨"FourWayKernel$Buffer", "dropRange", "(II)V"⟩, ⟨"FourWayKernel$Processor", "<init>", "(I)V"⟩, ⟨"FourWayKernel$Order", "<init>", "(IIII)V"⟩, ⟨"FourWayKernel$Order", "firstPhase", "()I"⟩, ⟨"FourWayKernel$Task", "<init>", "(II)V"⟩, ⟨"FourWayKernel$Task", "append", "(LFourWayKernel$Order;)I"⟩, ⟨"FourWayKernel$Task", "firstUnfinished", "()LFourWayKernel$Order;"⟩, ⟨"FourWayKernel$Task", "beginOrder", "()V"⟩, ⟨"FourWayKernel$Task", "beginPhase", "(I)V"⟩, ⟨"FourWayKernel$Task", "resultOf", "(I)I"⟩, ⟨"FourWayKernelModel", "<init>", "()V"⟩, ⟨"FourWayKernelModel", "tick", "()I"⟩, ⟨"FourWayKernelModel", "noProcessor", "(I)Z"⟩, ⟨"FourWayKernelModel", "thread", "(I)I"⟩, ⟨"FourWayKernelModel", "order", "(IIIII)I"⟩, ⟨"FourWayKernelModel", "begin", "(I)V"⟩, ⟨"FourWayKernelModel", "noPage", "(I)Z"⟩, ⟨"FourWayKernelModel", "noRange", "(II)Z"⟩, ⟨"FourWayKernelModel", "load", "(II)I"⟩, ⟨"FourWayKernelModel", "store", "(III)I"⟩, ⟨"FourWayKernelModel", "map", "(IIIZ)I"⟩, ⟨"FourWayKernelModel", "unmap", "(III)I"⟩, ⟨"FourWayKernelModel", "protect", "(III)I"⟩, ⟨"FourWayKernelModel", "move", "(II)I"⟩, ⟨"FourWayKernelModel", "currentOf", "(I)I"⟩, ⟨"FourWayKernelModel", "ahead", "(II)I"⟩, ⟨"FourWayKernelModel", "lengthOf", "(I)I"⟩, ⟨"FourWayKernelModel", "at", "(II)I"⟩, ⟨"FourWayKernelModel", "longest", "()I"⟩, ⟨"FourWayKernelModel", "run1", "(II)V"⟩, ⟨"FourWayKernelModel", "step", "(I)I"⟩, ⟨"FourWayKernelModel", "run", "(II)I"⟩, ⟨"FourWayKernelModel", "forget", "(II)V"⟩, ⟨"FourWayKernelModel", "act", "(II)I"⟩, ⟨"FourWayKernelModel", "end", "(II)Z"⟩, ⟨"FourWayKernelModel", "access", "(III)Z"⟩, ⟨"FourWayKernelModel", "know", "(II)V"⟩, ⟨"FourWayKernelModel", "framesAt", "(I)I"⟩, ⟨"FourWayKernelModel", "some", "(I)Z"⟩, ⟨"FourWayKernelModel", "change", "(III)Z"⟩, ⟨"FourWayKernelModel", "frameFor", "(I)I"⟩, ⟨"FourWayKernelModel", "changed", "(IIII)Z"⟩, ⟨"FourWayKernelModel", "shoot", "(III)Z"⟩, ⟨"FourWayKernelModel", "result", "(II)I"⟩, ⟨"FourWayKernelModel", "current", "(I)I"⟩, ⟨"FourWayKernelModel", "phase", "(I)I"⟩, ⟨"FourWayKernelModel", "queued", "(II)I"⟩, ⟨"FourWayKernelModel", "mail", "(I)I"⟩, ⟨"FourWayKernelModel", "table", "(I)I"⟩, ⟨"FourWayKernelModel", "translation", "(II)I"⟩, ⟨"FourWayKernelModel", "word", "(I)I"⟩, ⟨"FourWayKernelModel", "spare", "(I)I"⟩, ⟨"FourWayKernelModel", "tickets", "()I"⟩, ⟨"FourWayKernelModel", "steps", "()I"⟩, ⟨"FourWayKernelLaw", "law", "([I)Z"⟩]
def zmn (M : Nat) : MethodName := zmns.getD M ⟨"", "", ""⟩
def zow (M : Nat) : String := (zmn M).cls
def zbcs : List ByteArray := [prog_1_method_1_code, prog_1_method_2_code, prog_1_method_3_code, prog_1_method_4_code, prog_1_method_5_code, prog_1_method_6_code, prog_1_method_7_code, prog_1_method_8_code, prog_1_method_9_code, prog_1_method_10_code, prog_1_method_11_code, prog_1_method_12_code, prog_1_method_13_code, prog_1_method_14_code, prog_1_method_15_code, prog_1_method_16_code, prog_1_method_17_code, prog_1_method_18_code, prog_1_method_19_code, prog_1_method_20_code, prog_1_method_21_code, prog_1_method_22_code, prog_1_method_23_code, prog_1_method_24_code, prog_1_method_25_code, prog_1_method_26_code, prog_1_method_27_code, prog_1_method_28_code, prog_1_method_29_code, prog_1_method_30_code, prog_1_method_31_code, prog_1_method_32_code, prog_1_method_33_code, prog_1_method_34_code, prog_1_method_35_code, prog_1_method_36_code, prog_1_method_37_code, prog_1_method_38_code, prog_1_method_39_code, prog_1_method_40_code, prog_1_method_41_code, prog_1_method_42_code, prog_1_method_43_code, prog_1_method_44_code, prog_1_method_45_code, prog_1_method_46_code, prog_1_method_47_code, prog_3_method_1_code, prog_3_method_2_code, prog_3_method_3_code, prog_3_method_4_code, prog_3_method_5_code, prog_2_method_1_code, prog_2_method_2_code, prog_2_method_3_code, prog_2_method_4_code, prog_5_method_1_code, prog_4_method_1_code, prog_4_method_2_code, prog_6_method_1_code, prog_6_method_2_code, prog_6_method_3_code, prog_6_method_4_code, prog_6_method_5_code, prog_6_method_6_code, prog_8_method_1_code, prog_8_method_2_code, prog_8_method_3_code, prog_8_method_4_code, prog_8_method_5_code, prog_8_method_6_code, prog_8_method_7_code, prog_8_method_8_code, prog_8_method_9_code, prog_8_method_10_code, prog_8_method_11_code, prog_8_method_12_code, prog_8_method_13_code, prog_8_method_14_code, prog_8_method_15_code, prog_8_method_16_code, prog_8_method_17_code, prog_8_method_18_code, prog_8_method_19_code, prog_8_method_20_code, prog_8_method_21_code, prog_8_method_22_code, prog_8_method_23_code, prog_8_method_24_code, prog_8_method_25_code, prog_8_method_26_code, prog_8_method_27_code, prog_8_method_28_code, prog_8_method_29_code, prog_8_method_30_code, prog_8_method_31_code, prog_8_method_32_code, prog_8_method_33_code, prog_8_method_34_code, prog_8_method_35_code, prog_8_method_36_code, prog_8_method_37_code, prog_8_method_38_code, prog_8_method_39_code, prog_8_method_40_code, prog_8_method_41_code, prog_8_method_42_code, prog_8_method_43_code, prog_8_method_44_code, code]
def zbc (M : Nat) : ByteArray := zbcs.getD M ⟨#[]⟩
def zmx (M : Nat) : Nat := [2, 3, 3, 5, 5, 4, 4, 3, 2, 6, 4, 2, 3, 3, 2, 2, 3, 2, 2, 1, 1, 1, 2, 2, 9, 5, 4, 3, 3, 6, 4, 6, 3, 5, 2, 3, 5, 4, 7, 5, 4, 3, 4, 3, 4, 1, 1, 2, 2, 2, 3, 1, 1, 3, 3, 5, 2, 5, 1, 3, 2, 1, 2, 2, 3, 2, 1, 1, 2, 7, 3, 1, 2, 3, 4, 5, 4, 4, 3, 4, 5, 4, 5, 3, 3, 7, 6, 5, 9, 3, 8, 6, 4, 4, 5, 4, 6, 5, 3, 2, 3, 3, 2, 2, 4, 2, 2, 1, 1, 4].getD M 0
def zrts : List (Option FieldType) := [none, some .int, some .int, some .int, some .int, some .int, some .int, some .int, some .int, some .int, some .int, some .int, some .int, some .int, some .int, some .int, some .int, some .int, some .int, some .int, some .int, some .boolean, some .boolean, some (.object "FourWayKernel$Task"), some .int, some .int, none, some .int, some (.object "FourWayKernel$Line"), none, some .boolean, some .boolean, some .boolean, some .boolean, none, none, none, some .boolean, none, some .boolean, some .boolean, some .boolean, none, none, none, some .boolean, some .int, none, none, some .int, some .int, some .int, none, some .int, none, none, none, none, some .int, none, some .int, some (.object "FourWayKernel$Order"), none, none, some .int, none, some .int, some .boolean, some .int, some .int, none, some .boolean, some .boolean, some .int, some .int, some .int, some .int, some .int, some .int, some .int, some .int, some .int, some .int, some .int, none, some .int, some .int, none, some .int, some .boolean, some .boolean, none, some .int, some .boolean, some .boolean, some .int, some .boolean, some .boolean, some .int, some .int, some .int, some .int, some .int, some .int, some .int, some .int, some .int, some .int, some .int, some .boolean]
def zrt (M : Nat) : Option FieldType := zrts.getD M none
def zct (M : Nat) : Bool := [true, false, false, false, false, false, false, false, false, false, false, false, false, false, false, false, false, false, false, false, false, false, false, false, false, false, false, false, false, false, false, false, false, false, false, false, false, false, false, false, false, false, false, false, false, false, false, true, false, false, false, false, true, false, false, false, true, true, false, true, false, false, false, false, false, true, false, false, false, false, false, false, false, false, false, false, false, false, false, false, false, false, false, false, false, false, false, false, false, false, false, false, false, false, false, false, false, false, false, false, false, false, false, false, false, false, false, false, false, false].getD M false
def zmok (N : Nat) : Prop := plainName (zmn N).cls = true ∧ Cond.code (zmn N) (zbc N) (zmx N) (zrt N) ∈ zWS ∧ Cond.initialized (zmn N).cls ∈ zWS ∧ (zmn N).cls ≠ "java/lang/invoke/MethodHandle" ∧ (zmn N).cls ≠ "java/lang/invoke/VarHandle" ∧ (zct N = true → (zmn N).name = "<init>") ∧ zmx N ≤ 20
theorem zw_0 : Jvm.Cond.methodLink "FourWayKernel" (1 : Nat) ({ cls := "java/lang/Object", name := "<init>", desc := "()V" } : Jvm.MethodName) ∈ zWS := zw_t 13 rfl rfl
theorem zw_1 : Jvm.Cond.classLink "FourWayKernel" (9 : Nat) "FourWayKernel$Task" ∈ zWS := zw_t 16 rfl rfl
theorem zw_2 : Jvm.Cond.fieldLink "FourWayKernel" (11 : Nat) "FourWayKernel" "tasks" "[LFourWayKernel$Task;" ∈ zWS := zw_t 87 rfl rfl
theorem zw_3 : Jvm.Cond.fieldLink "FourWayKernel" (15 : Nat) "FourWayKernel" "taskCount" "I" ∈ zWS := zw_t 88 rfl rfl
theorem zw_4 : Jvm.Cond.classLink "FourWayKernel" (19 : Nat) "FourWayKernel$Processor" ∈ zWS := zw_t 18 rfl rfl
theorem zw_5 : Jvm.Cond.fieldLink "FourWayKernel" (21 : Nat) "FourWayKernel" "processors" "[LFourWayKernel$Processor;" ∈ zWS := zw_t 89 rfl rfl
theorem zw_6 : Jvm.Cond.instantiable "FourWayKernel$Processor" (6 : Nat) ∈ zWS := zw_t 20 rfl rfl
theorem zw_7 : Jvm.Cond.initialized "FourWayKernel$Processor" ∈ zWS := zw_t 2 rfl rfl
theorem zw_8 : Jvm.Cond.methodLink "FourWayKernel" (25 : Nat) ({ cls := "FourWayKernel$Processor", name := "<init>", desc := "(I)V" } : Jvm.MethodName) ∈ zWS := zw_t 21 rfl rfl
theorem zw_9 : Jvm.Cond.code ({ cls := "FourWayKernel$Processor", name := "<init>", desc := "(I)V" } : Jvm.MethodName) prog_5_method_1_code (2 : Nat) (Option.none : Option Jvm.ClassFile.FieldType) ∈ zWS := zw_t 23 rfl rfl
theorem zw_10 : Jvm.Cond.instanceMethod ({ cls := "FourWayKernel$Processor", name := "<init>", desc := "(I)V" } : Jvm.MethodName) ∈ zWS := zw_t 22 rfl rfl
theorem zw_11 : Jvm.Cond.classLink "FourWayKernel" (28 : Nat) "FourWayKernel$Line" ∈ zWS := zw_t 81 rfl rfl
theorem zw_12 : Jvm.Cond.instantiable "FourWayKernel$Line" (2 : Nat) ∈ zWS := zw_t 43 rfl rfl
theorem zw_13 : Jvm.Cond.initialized "FourWayKernel$Line" ∈ zWS := zw_t 4 rfl rfl
theorem zw_14 : Jvm.Cond.methodLink "FourWayKernel" (30 : Nat) ({ cls := "FourWayKernel$Line", name := "<init>", desc := "(I)V" } : Jvm.MethodName) ∈ zWS := zw_t 82 rfl rfl
theorem zw_15 : Jvm.Cond.code ({ cls := "FourWayKernel$Line", name := "<init>", desc := "(I)V" } : Jvm.MethodName) prog_3_method_1_code (2 : Nat) (Option.none : Option Jvm.ClassFile.FieldType) ∈ zWS := zw_t 46 rfl rfl
theorem zw_16 : Jvm.Cond.instanceMethod ({ cls := "FourWayKernel$Line", name := "<init>", desc := "(I)V" } : Jvm.MethodName) ∈ zWS := zw_t 45 rfl rfl
theorem zw_17 : Jvm.Cond.fieldLink "FourWayKernel" (31 : Nat) "FourWayKernel" "pool" "LFourWayKernel$Line;" ∈ zWS := zw_t 90 rfl rfl
theorem zw_18 : Jvm.Cond.methodLink "FourWayKernel" (35 : Nat) ({ cls := "FourWayKernel$Line", name := "addLast", desc := "(I)V" } : Jvm.MethodName) ∈ zWS := zw_t 83 rfl rfl
theorem zw_19 : Jvm.Cond.code ({ cls := "FourWayKernel$Line", name := "addLast", desc := "(I)V" } : Jvm.MethodName) prog_3_method_2_code (2 : Nat) (Option.none : Option Jvm.ClassFile.FieldType) ∈ zWS := zw_t 86 rfl rfl
theorem zw_20 : Jvm.Cond.instanceMethod ({ cls := "FourWayKernel$Line", name := "addLast", desc := "(I)V" } : Jvm.MethodName) ∈ zWS := zw_t 84 rfl rfl
theorem zw_21 : Jvm.Cond.selects "FourWayKernel$Line" ({ cls := "FourWayKernel$Line", name := "addLast", desc := "(I)V" } : Jvm.MethodName) ({ cls := "FourWayKernel$Line", name := "addLast", desc := "(I)V" } : Jvm.MethodName) ∈ zWS := zw_t 85 rfl rfl
theorem zw_22 : Jvm.Cond.arrayClass Jvm.ClassFile.FieldType.int ∈ zWS := zw_t 41 rfl rfl
theorem zw_23 : Jvm.Cond.fieldLink "FourWayKernel" (38 : Nat) "FourWayKernel" "words" "[I" ∈ zWS := zw_t 91 rfl rfl
theorem zw_24 : Jvm.Cond.fieldLink "FourWayKernel" (42 : Nat) "FourWayKernel" "pageEntries" "[I" ∈ zWS := zw_t 92 rfl rfl
theorem zw_25 : Jvm.Cond.arrayClass Jvm.ClassFile.FieldType.boolean ∈ zWS := zw_t 118 rfl rfl
theorem zw_26 : Jvm.Cond.fieldLink "FourWayKernel" (45 : Nat) "FourWayKernel" "enteredGroups" "[Z" ∈ zWS := zw_t 93 rfl rfl
theorem zw_27 : Jvm.Cond.fieldLink "FourWayKernel" (49 : Nat) "FourWayKernel" "nextTicket" "I" ∈ zWS := zw_t 94 rfl rfl
theorem zw_28 : Jvm.Cond.fieldLink "FourWayKernel" (52 : Nat) "FourWayKernel" "servingTicket" "I" ∈ zWS := zw_t 95 rfl rfl
theorem zw_29 : Jvm.Cond.fieldLink "FourWayKernel" (55 : Nat) "FourWayKernel" "stepCount" "I" ∈ zWS := zw_t 96 rfl rfl
theorem zw_30 : Jvm.Cond.methodLink "FourWayKernel" (58 : Nat) ({ cls := "FourWayKernel", name := "isProcessor", desc := "(I)Z" } : Jvm.MethodName) ∈ zWS := zw_t 123 rfl rfl
theorem zw_31 : Jvm.Cond.code ({ cls := "FourWayKernel", name := "isProcessor", desc := "(I)Z" } : Jvm.MethodName) prog_1_method_22_code (1 : Nat) (Option.some Jvm.ClassFile.FieldType.boolean) ∈ zWS := zw_t 125 rfl rfl
theorem zw_32 : Jvm.Cond.initialized "FourWayKernel" ∈ zWS := zw_t 1 rfl rfl
theorem zw_33 : Jvm.Cond.static ({ cls := "FourWayKernel", name := "isProcessor", desc := "(I)Z" } : Jvm.MethodName) ∈ zWS := zw_t 124 rfl rfl
theorem zw_34 : Jvm.Cond.instantiable "FourWayKernel$Task" (11 : Nat) ∈ zWS := zw_t 126 rfl rfl
theorem zw_35 : Jvm.Cond.initialized "FourWayKernel$Task" ∈ zWS := zw_t 6 rfl rfl
theorem zw_36 : Jvm.Cond.methodLink "FourWayKernel" (62 : Nat) ({ cls := "FourWayKernel$Task", name := "<init>", desc := "(II)V" } : Jvm.MethodName) ∈ zWS := zw_t 127 rfl rfl
theorem zw_37 : Jvm.Cond.code ({ cls := "FourWayKernel$Task", name := "<init>", desc := "(II)V" } : Jvm.MethodName) prog_6_method_1_code (3 : Nat) (Option.none : Option Jvm.ClassFile.FieldType) ∈ zWS := zw_t 129 rfl rfl
theorem zw_38 : Jvm.Cond.instanceMethod ({ cls := "FourWayKernel$Task", name := "<init>", desc := "(II)V" } : Jvm.MethodName) ∈ zWS := zw_t 128 rfl rfl
theorem zw_39 : Jvm.Cond.methodLink "FourWayKernel" (65 : Nat) ({ cls := "FourWayKernel", name := "isRange", desc := "(II)Z" } : Jvm.MethodName) ∈ zWS := zw_t 183 rfl rfl
theorem zw_40 : Jvm.Cond.code ({ cls := "FourWayKernel", name := "isRange", desc := "(II)Z" } : Jvm.MethodName) prog_1_method_23_code (2 : Nat) (Option.some Jvm.ClassFile.FieldType.boolean) ∈ zWS := zw_t 185 rfl rfl
theorem zw_41 : Jvm.Cond.static ({ cls := "FourWayKernel", name := "isRange", desc := "(II)Z" } : Jvm.MethodName) ∈ zWS := zw_t 184 rfl rfl
theorem zw_42 : Jvm.Cond.methodLink "FourWayKernel" (69 : Nat) ({ cls := "FourWayKernel", name := "addOrder", desc := "(IIIII)I" } : Jvm.MethodName) ∈ zWS := zw_t 186 rfl rfl
theorem zw_43 : Jvm.Cond.code ({ cls := "FourWayKernel", name := "addOrder", desc := "(IIIII)I" } : Jvm.MethodName) prog_1_method_25_code (9 : Nat) (Option.some Jvm.ClassFile.FieldType.int) ∈ zWS := zw_t 189 rfl rfl
theorem zw_44 : Jvm.Cond.instanceMethod ({ cls := "FourWayKernel", name := "addOrder", desc := "(IIIII)I" } : Jvm.MethodName) ∈ zWS := zw_t 188 rfl rfl
theorem zw_45 : Jvm.Cond.selects "FourWayKernel" ({ cls := "FourWayKernel", name := "addOrder", desc := "(IIIII)I" } : Jvm.MethodName) ({ cls := "FourWayKernel", name := "addOrder", desc := "(IIIII)I" } : Jvm.MethodName) ∈ zWS := zw_s 0 rfl rfl
theorem zw_46 : Jvm.Cond.methodLink "FourWayKernel" (73 : Nat) ({ cls := "FourWayKernel", name := "microStep", desc := "(LFourWayKernel$Processor;)I" } : Jvm.MethodName) ∈ zWS := zw_t 267 rfl rfl
theorem zw_47 : Jvm.Cond.code ({ cls := "FourWayKernel", name := "microStep", desc := "(LFourWayKernel$Processor;)I" } : Jvm.MethodName) prog_1_method_26_code (5 : Nat) (Option.some Jvm.ClassFile.FieldType.int) ∈ zWS := zw_t 270 rfl rfl
theorem zw_48 : Jvm.Cond.instanceMethod ({ cls := "FourWayKernel", name := "microStep", desc := "(LFourWayKernel$Processor;)I" } : Jvm.MethodName) ∈ zWS := zw_t 269 rfl rfl
theorem zw_49 : Jvm.Cond.selects "FourWayKernel" ({ cls := "FourWayKernel", name := "microStep", desc := "(LFourWayKernel$Processor;)I" } : Jvm.MethodName) ({ cls := "FourWayKernel", name := "microStep", desc := "(LFourWayKernel$Processor;)I" } : Jvm.MethodName) ∈ zWS := zw_s 2 rfl rfl
theorem zw_50 : Jvm.Cond.methodLink "FourWayKernel" (77 : Nat) ({ cls := "FourWayKernel", name := "findTask", desc := "(I)LFourWayKernel$Task;" } : Jvm.MethodName) ∈ zWS := zw_t 190 rfl rfl
theorem zw_51 : Jvm.Cond.code ({ cls := "FourWayKernel", name := "findTask", desc := "(I)LFourWayKernel$Task;" } : Jvm.MethodName) prog_1_method_24_code (2 : Nat) (Option.some (Jvm.ClassFile.FieldType.object "FourWayKernel$Task")) ∈ zWS := zw_t 193 rfl rfl
theorem zw_52 : Jvm.Cond.instanceMethod ({ cls := "FourWayKernel", name := "findTask", desc := "(I)LFourWayKernel$Task;" } : Jvm.MethodName) ∈ zWS := zw_t 192 rfl rfl
theorem zw_53 : Jvm.Cond.selects "FourWayKernel" ({ cls := "FourWayKernel", name := "findTask", desc := "(I)LFourWayKernel$Task;" } : Jvm.MethodName) ({ cls := "FourWayKernel", name := "findTask", desc := "(I)LFourWayKernel$Task;" } : Jvm.MethodName) ∈ zWS := zw_s 1 rfl rfl
theorem zw_54 : Jvm.Cond.methodLink "FourWayKernel" (81 : Nat) ({ cls := "FourWayKernel$Task", name := "resultOf", desc := "(I)I" } : Jvm.MethodName) ∈ zWS := zw_t 383 rfl rfl
theorem zw_55 : Jvm.Cond.code ({ cls := "FourWayKernel$Task", name := "resultOf", desc := "(I)I" } : Jvm.MethodName) prog_6_method_6_code (3 : Nat) (Option.some Jvm.ClassFile.FieldType.int) ∈ zWS := zw_t 386 rfl rfl
theorem zw_56 : Jvm.Cond.instanceMethod ({ cls := "FourWayKernel$Task", name := "resultOf", desc := "(I)I" } : Jvm.MethodName) ∈ zWS := zw_t 384 rfl rfl
theorem zw_57 : Jvm.Cond.selects "FourWayKernel$Task" ({ cls := "FourWayKernel$Task", name := "resultOf", desc := "(I)I" } : Jvm.MethodName) ({ cls := "FourWayKernel$Task", name := "resultOf", desc := "(I)I" } : Jvm.MethodName) ∈ zWS := zw_t 385 rfl rfl
theorem zw_58 : Jvm.Cond.methodLink "FourWayKernel" (88 : Nat) ({ cls := "FourWayKernel", name := "current", desc := "(I)I" } : Jvm.MethodName) ∈ zWS := zw_t 395 rfl rfl
theorem zw_59 : Jvm.Cond.code ({ cls := "FourWayKernel", name := "current", desc := "(I)I" } : Jvm.MethodName) prog_1_method_12_code (2 : Nat) (Option.some Jvm.ClassFile.FieldType.int) ∈ zWS := zw_t 390 rfl rfl
theorem zw_60 : Jvm.Cond.instanceMethod ({ cls := "FourWayKernel", name := "current", desc := "(I)I" } : Jvm.MethodName) ∈ zWS := zw_t 388 rfl rfl
theorem zw_61 : Jvm.Cond.selects "FourWayKernel" ({ cls := "FourWayKernel", name := "current", desc := "(I)I" } : Jvm.MethodName) ({ cls := "FourWayKernel", name := "current", desc := "(I)I" } : Jvm.MethodName) ∈ zWS := zw_t 389 rfl rfl
theorem zw_62 : Jvm.Cond.methodLink "FourWayKernel" (97 : Nat) ({ cls := "FourWayKernel$Line", name := "at", desc := "(I)I" } : Jvm.MethodName) ∈ zWS := zw_t 400 rfl rfl
set_option maxRecDepth 20000 in
theorem zw_63 : Jvm.Cond.code ({ cls := "FourWayKernel$Line", name := "at", desc := "(I)I" } : Jvm.MethodName) prog_3_method_3_code (2 : Nat) (Option.some Jvm.ClassFile.FieldType.int) ∈ zWS := zw_t 403 rfl rfl
set_option maxRecDepth 20000 in
theorem zw_64 : Jvm.Cond.instanceMethod ({ cls := "FourWayKernel$Line", name := "at", desc := "(I)I" } : Jvm.MethodName) ∈ zWS := zw_t 401 rfl rfl
set_option maxRecDepth 20000 in
theorem zw_65 : Jvm.Cond.selects "FourWayKernel$Line" ({ cls := "FourWayKernel$Line", name := "at", desc := "(I)I" } : Jvm.MethodName) ({ cls := "FourWayKernel$Line", name := "at", desc := "(I)I" } : Jvm.MethodName) ∈ zWS := zw_t 402 rfl rfl
theorem zw_66 : Jvm.Cond.methodLink "FourWayKernel" (110 : Nat) ({ cls := "FourWayKernel$Buffer", name := "entryOf", desc := "(I)I" } : Jvm.MethodName) ∈ zWS := zw_t 303 rfl rfl
theorem zw_67 : Jvm.Cond.code ({ cls := "FourWayKernel$Buffer", name := "entryOf", desc := "(I)I" } : Jvm.MethodName) prog_2_method_2_code (3 : Nat) (Option.some Jvm.ClassFile.FieldType.int) ∈ zWS := zw_t 306 rfl rfl
theorem zw_68 : Jvm.Cond.initialized "FourWayKernel$Buffer" ∈ zWS := zw_t 3 rfl rfl
theorem zw_69 : Jvm.Cond.instanceMethod ({ cls := "FourWayKernel$Buffer", name := "entryOf", desc := "(I)I" } : Jvm.MethodName) ∈ zWS := zw_t 304 rfl rfl
theorem zw_70 : Jvm.Cond.selects "FourWayKernel$Buffer" ({ cls := "FourWayKernel$Buffer", name := "entryOf", desc := "(I)I" } : Jvm.MethodName) ({ cls := "FourWayKernel$Buffer", name := "entryOf", desc := "(I)I" } : Jvm.MethodName) ∈ zWS := zw_t 305 rfl rfl
theorem zw_71 : Jvm.Cond.methodLink "FourWayKernel" (121 : Nat) ({ cls := "FourWayKernel$Task", name := "firstUnfinished", desc := "()LFourWayKernel$Order;" } : Jvm.MethodName) ∈ zWS := zw_t 194 rfl rfl
theorem zw_72 : Jvm.Cond.code ({ cls := "FourWayKernel$Task", name := "firstUnfinished", desc := "()LFourWayKernel$Order;" } : Jvm.MethodName) prog_6_method_3_code (1 : Nat) (Option.some (Jvm.ClassFile.FieldType.object "FourWayKernel$Order")) ∈ zWS := zw_t 197 rfl rfl
theorem zw_73 : Jvm.Cond.instanceMethod ({ cls := "FourWayKernel$Task", name := "firstUnfinished", desc := "()LFourWayKernel$Order;" } : Jvm.MethodName) ∈ zWS := zw_t 195 rfl rfl
theorem zw_74 : Jvm.Cond.selects "FourWayKernel$Task" ({ cls := "FourWayKernel$Task", name := "firstUnfinished", desc := "()LFourWayKernel$Order;" } : Jvm.MethodName) ({ cls := "FourWayKernel$Task", name := "firstUnfinished", desc := "()LFourWayKernel$Order;" } : Jvm.MethodName) ∈ zWS := zw_t 196 rfl rfl
theorem zw_75 : Jvm.Cond.classLink "FourWayKernel" (125 : Nat) "FourWayKernel$Order" ∈ zWS := zw_t 198 rfl rfl
theorem zw_76 : Jvm.Cond.instantiable "FourWayKernel$Order" (5 : Nat) ∈ zWS := zw_t 199 rfl rfl
theorem zw_77 : Jvm.Cond.initialized "FourWayKernel$Order" ∈ zWS := zw_t 7 rfl rfl
theorem zw_78 : Jvm.Cond.methodLink "FourWayKernel" (127 : Nat) ({ cls := "FourWayKernel$Order", name := "<init>", desc := "(IIII)V" } : Jvm.MethodName) ∈ zWS := zw_t 200 rfl rfl
theorem zw_79 : Jvm.Cond.code ({ cls := "FourWayKernel$Order", name := "<init>", desc := "(IIII)V" } : Jvm.MethodName) prog_4_method_1_code (5 : Nat) (Option.none : Option Jvm.ClassFile.FieldType) ∈ zWS := zw_t 202 rfl rfl
theorem zw_80 : Jvm.Cond.instanceMethod ({ cls := "FourWayKernel$Order", name := "<init>", desc := "(IIII)V" } : Jvm.MethodName) ∈ zWS := zw_t 201 rfl rfl
theorem zw_81 : Jvm.Cond.methodLink "FourWayKernel" (130 : Nat) ({ cls := "FourWayKernel$Task", name := "append", desc := "(LFourWayKernel$Order;)I" } : Jvm.MethodName) ∈ zWS := zw_t 226 rfl rfl
theorem zw_82 : Jvm.Cond.code ({ cls := "FourWayKernel$Task", name := "append", desc := "(LFourWayKernel$Order;)I" } : Jvm.MethodName) prog_6_method_2_code (2 : Nat) (Option.some Jvm.ClassFile.FieldType.int) ∈ zWS := zw_t 229 rfl rfl
theorem zw_83 : Jvm.Cond.instanceMethod ({ cls := "FourWayKernel$Task", name := "append", desc := "(LFourWayKernel$Order;)I" } : Jvm.MethodName) ∈ zWS := zw_t 227 rfl rfl
theorem zw_84 : Jvm.Cond.selects "FourWayKernel$Task" ({ cls := "FourWayKernel$Task", name := "append", desc := "(LFourWayKernel$Order;)I" } : Jvm.MethodName) ({ cls := "FourWayKernel$Task", name := "append", desc := "(LFourWayKernel$Order;)I" } : Jvm.MethodName) ∈ zWS := zw_t 228 rfl rfl
theorem zw_85 : Jvm.Cond.methodLink "FourWayKernel" (134 : Nat) ({ cls := "FourWayKernel$Task", name := "beginOrder", desc := "()V" } : Jvm.MethodName) ∈ zWS := zw_t 230 rfl rfl
theorem zw_86 : Jvm.Cond.code ({ cls := "FourWayKernel$Task", name := "beginOrder", desc := "()V" } : Jvm.MethodName) prog_6_method_4_code (2 : Nat) (Option.none : Option Jvm.ClassFile.FieldType) ∈ zWS := zw_t 233 rfl rfl
theorem zw_87 : Jvm.Cond.instanceMethod ({ cls := "FourWayKernel$Task", name := "beginOrder", desc := "()V" } : Jvm.MethodName) ∈ zWS := zw_t 231 rfl rfl
theorem zw_88 : Jvm.Cond.selects "FourWayKernel$Task" ({ cls := "FourWayKernel$Task", name := "beginOrder", desc := "()V" } : Jvm.MethodName) ({ cls := "FourWayKernel$Task", name := "beginOrder", desc := "()V" } : Jvm.MethodName) ∈ zWS := zw_t 232 rfl rfl
theorem zw_89 : Jvm.Cond.methodLink "FourWayKernel" (143 : Nat) ({ cls := "FourWayKernel", name := "answerRequest", desc := "(LFourWayKernel$Processor;)V" } : Jvm.MethodName) ∈ zWS := zw_t 271 rfl rfl
theorem zw_90 : Jvm.Cond.code ({ cls := "FourWayKernel", name := "answerRequest", desc := "(LFourWayKernel$Processor;)V" } : Jvm.MethodName) prog_1_method_27_code (4 : Nat) (Option.none : Option Jvm.ClassFile.FieldType) ∈ zWS := zw_t 274 rfl rfl
theorem zw_91 : Jvm.Cond.instanceMethod ({ cls := "FourWayKernel", name := "answerRequest", desc := "(LFourWayKernel$Processor;)V" } : Jvm.MethodName) ∈ zWS := zw_t 273 rfl rfl
theorem zw_92 : Jvm.Cond.selects "FourWayKernel" ({ cls := "FourWayKernel", name := "answerRequest", desc := "(LFourWayKernel$Processor;)V" } : Jvm.MethodName) ({ cls := "FourWayKernel", name := "answerRequest", desc := "(LFourWayKernel$Processor;)V" } : Jvm.MethodName) ∈ zWS := zw_s 3 rfl rfl
theorem zw_93 : Jvm.Cond.methodLink "FourWayKernel" (147 : Nat) ({ cls := "FourWayKernel", name := "takeThread", desc := "(LFourWayKernel$Processor;)I" } : Jvm.MethodName) ∈ zWS := zw_t 283 rfl rfl
theorem zw_94 : Jvm.Cond.code ({ cls := "FourWayKernel", name := "takeThread", desc := "(LFourWayKernel$Processor;)I" } : Jvm.MethodName) prog_1_method_28_code (3 : Nat) (Option.some Jvm.ClassFile.FieldType.int) ∈ zWS := zw_t 286 rfl rfl
theorem zw_95 : Jvm.Cond.instanceMethod ({ cls := "FourWayKernel", name := "takeThread", desc := "(LFourWayKernel$Processor;)I" } : Jvm.MethodName) ∈ zWS := zw_t 285 rfl rfl
theorem zw_96 : Jvm.Cond.selects "FourWayKernel" ({ cls := "FourWayKernel", name := "takeThread", desc := "(LFourWayKernel$Processor;)I" } : Jvm.MethodName) ({ cls := "FourWayKernel", name := "takeThread", desc := "(LFourWayKernel$Processor;)I" } : Jvm.MethodName) ∈ zWS := zw_s 4 rfl rfl
theorem zw_97 : Jvm.Cond.methodLink "FourWayKernel" (150 : Nat) ({ cls := "FourWayKernel", name := "makePhase", desc := "(LFourWayKernel$Task;LFourWayKernel$Order;LFourWayKernel$Processor;)Z" } : Jvm.MethodName) ∈ zWS := zw_t 295 rfl rfl
theorem zw_98 : Jvm.Cond.code ({ cls := "FourWayKernel", name := "makePhase", desc := "(LFourWayKernel$Task;LFourWayKernel$Order;LFourWayKernel$Processor;)Z" } : Jvm.MethodName) prog_1_method_31_code (4 : Nat) (Option.some Jvm.ClassFile.FieldType.boolean) ∈ zWS := zw_t 298 rfl rfl
theorem zw_99 : Jvm.Cond.instanceMethod ({ cls := "FourWayKernel", name := "makePhase", desc := "(LFourWayKernel$Task;LFourWayKernel$Order;LFourWayKernel$Processor;)Z" } : Jvm.MethodName) ∈ zWS := zw_t 297 rfl rfl
theorem zw_100 : Jvm.Cond.selects "FourWayKernel" ({ cls := "FourWayKernel", name := "makePhase", desc := "(LFourWayKernel$Task;LFourWayKernel$Order;LFourWayKernel$Processor;)Z" } : Jvm.MethodName) ({ cls := "FourWayKernel", name := "makePhase", desc := "(LFourWayKernel$Task;LFourWayKernel$Order;LFourWayKernel$Processor;)Z" } : Jvm.MethodName) ∈ zWS := zw_s 6 rfl rfl
theorem zw_101 : Jvm.Cond.methodLink "FourWayKernel" (154 : Nat) ({ cls := "FourWayKernel", name := "finishOrder", desc := "(LFourWayKernel$Task;LFourWayKernel$Order;LFourWayKernel$Processor;)V" } : Jvm.MethodName) ∈ zWS := zw_t 371 rfl rfl
theorem zw_102 : Jvm.Cond.code ({ cls := "FourWayKernel", name := "finishOrder", desc := "(LFourWayKernel$Task;LFourWayKernel$Order;LFourWayKernel$Processor;)V" } : Jvm.MethodName) prog_1_method_30_code (6 : Nat) (Option.none : Option Jvm.ClassFile.FieldType) ∈ zWS := zw_t 374 rfl rfl
theorem zw_103 : Jvm.Cond.instanceMethod ({ cls := "FourWayKernel", name := "finishOrder", desc := "(LFourWayKernel$Task;LFourWayKernel$Order;LFourWayKernel$Processor;)V" } : Jvm.MethodName) ∈ zWS := zw_t 373 rfl rfl
theorem zw_104 : Jvm.Cond.selects "FourWayKernel" ({ cls := "FourWayKernel", name := "finishOrder", desc := "(LFourWayKernel$Task;LFourWayKernel$Order;LFourWayKernel$Processor;)V" } : Jvm.MethodName) ({ cls := "FourWayKernel", name := "finishOrder", desc := "(LFourWayKernel$Task;LFourWayKernel$Order;LFourWayKernel$Processor;)V" } : Jvm.MethodName) ∈ zWS := zw_s 21 rfl rfl
theorem zw_105 : Jvm.Cond.methodLink "FourWayKernel" (158 : Nat) ({ cls := "FourWayKernel$Line", name := "takeFirst", desc := "()I" } : Jvm.MethodName) ∈ zWS := zw_t 275 rfl rfl
theorem zw_106 : Jvm.Cond.code ({ cls := "FourWayKernel$Line", name := "takeFirst", desc := "()I" } : Jvm.MethodName) prog_3_method_4_code (3 : Nat) (Option.some Jvm.ClassFile.FieldType.int) ∈ zWS := zw_t 278 rfl rfl
theorem zw_107 : Jvm.Cond.instanceMethod ({ cls := "FourWayKernel$Line", name := "takeFirst", desc := "()I" } : Jvm.MethodName) ∈ zWS := zw_t 276 rfl rfl
theorem zw_108 : Jvm.Cond.selects "FourWayKernel$Line" ({ cls := "FourWayKernel$Line", name := "takeFirst", desc := "()I" } : Jvm.MethodName) ({ cls := "FourWayKernel$Line", name := "takeFirst", desc := "()I" } : Jvm.MethodName) ∈ zWS := zw_t 277 rfl rfl
theorem zw_109 : Jvm.Cond.methodLink "FourWayKernel" (168 : Nat) ({ cls := "FourWayKernel$Buffer", name := "dropRange", desc := "(II)V" } : Jvm.MethodName) ∈ zWS := zw_t 279 rfl rfl
theorem zw_110 : Jvm.Cond.code ({ cls := "FourWayKernel$Buffer", name := "dropRange", desc := "(II)V" } : Jvm.MethodName) prog_2_method_4_code (5 : Nat) (Option.none : Option Jvm.ClassFile.FieldType) ∈ zWS := zw_t 282 rfl rfl
theorem zw_111 : Jvm.Cond.instanceMethod ({ cls := "FourWayKernel$Buffer", name := "dropRange", desc := "(II)V" } : Jvm.MethodName) ∈ zWS := zw_t 280 rfl rfl
theorem zw_112 : Jvm.Cond.selects "FourWayKernel$Buffer" ({ cls := "FourWayKernel$Buffer", name := "dropRange", desc := "(II)V" } : Jvm.MethodName) ({ cls := "FourWayKernel$Buffer", name := "dropRange", desc := "(II)V" } : Jvm.MethodName) ∈ zWS := zw_t 281 rfl rfl
theorem zw_113 : Jvm.Cond.methodLink "FourWayKernel" (174 : Nat) ({ cls := "FourWayKernel", name := "longestQueue", desc := "()LFourWayKernel$Line;" } : Jvm.MethodName) ∈ zWS := zw_t 287 rfl rfl
theorem zw_114 : Jvm.Cond.code ({ cls := "FourWayKernel", name := "longestQueue", desc := "()LFourWayKernel$Line;" } : Jvm.MethodName) prog_1_method_29_code (3 : Nat) (Option.some (Jvm.ClassFile.FieldType.object "FourWayKernel$Line")) ∈ zWS := zw_t 290 rfl rfl
theorem zw_115 : Jvm.Cond.instanceMethod ({ cls := "FourWayKernel", name := "longestQueue", desc := "()LFourWayKernel$Line;" } : Jvm.MethodName) ∈ zWS := zw_t 289 rfl rfl
theorem zw_116 : Jvm.Cond.selects "FourWayKernel" ({ cls := "FourWayKernel", name := "longestQueue", desc := "()LFourWayKernel$Line;" } : Jvm.MethodName) ({ cls := "FourWayKernel", name := "longestQueue", desc := "()LFourWayKernel$Line;" } : Jvm.MethodName) ∈ zWS := zw_s 5 rfl rfl
theorem zw_117 : Jvm.Cond.methodLink "FourWayKernel" (178 : Nat) ({ cls := "FourWayKernel$Line", name := "takeLast", desc := "()I" } : Jvm.MethodName) ∈ zWS := zw_t 291 rfl rfl
theorem zw_118 : Jvm.Cond.code ({ cls := "FourWayKernel$Line", name := "takeLast", desc := "()I" } : Jvm.MethodName) prog_3_method_5_code (1 : Nat) (Option.some Jvm.ClassFile.FieldType.int) ∈ zWS := zw_t 294 rfl rfl
theorem zw_119 : Jvm.Cond.instanceMethod ({ cls := "FourWayKernel$Line", name := "takeLast", desc := "()I" } : Jvm.MethodName) ∈ zWS := zw_t 292 rfl rfl
theorem zw_120 : Jvm.Cond.selects "FourWayKernel$Line" ({ cls := "FourWayKernel$Line", name := "takeLast", desc := "()I" } : Jvm.MethodName) ({ cls := "FourWayKernel$Line", name := "takeLast", desc := "()I" } : Jvm.MethodName) ∈ zWS := zw_t 293 rfl rfl
theorem zw_121 : Jvm.Cond.methodLink "FourWayKernel" (197 : Nat) ({ cls := "FourWayKernel", name := "lookIntoBuffer", desc := "(LFourWayKernel$Task;LFourWayKernel$Order;LFourWayKernel$Processor;)Z" } : Jvm.MethodName) ∈ zWS := zw_t 299 rfl rfl
theorem zw_122 : Jvm.Cond.code ({ cls := "FourWayKernel", name := "lookIntoBuffer", desc := "(LFourWayKernel$Task;LFourWayKernel$Order;LFourWayKernel$Processor;)Z" } : Jvm.MethodName) prog_1_method_32_code (6 : Nat) (Option.some Jvm.ClassFile.FieldType.boolean) ∈ zWS := zw_t 302 rfl rfl
theorem zw_123 : Jvm.Cond.instanceMethod ({ cls := "FourWayKernel", name := "lookIntoBuffer", desc := "(LFourWayKernel$Task;LFourWayKernel$Order;LFourWayKernel$Processor;)Z" } : Jvm.MethodName) ∈ zWS := zw_t 301 rfl rfl
theorem zw_124 : Jvm.Cond.selects "FourWayKernel" ({ cls := "FourWayKernel", name := "lookIntoBuffer", desc := "(LFourWayKernel$Task;LFourWayKernel$Order;LFourWayKernel$Processor;)Z" } : Jvm.MethodName) ({ cls := "FourWayKernel", name := "lookIntoBuffer", desc := "(LFourWayKernel$Task;LFourWayKernel$Order;LFourWayKernel$Processor;)Z" } : Jvm.MethodName) ∈ zWS := zw_s 7 rfl rfl
theorem zw_125 : Jvm.Cond.methodLink "FourWayKernel" (200 : Nat) ({ cls := "FourWayKernel", name := "lookIntoTop", desc := "(LFourWayKernel$Task;LFourWayKernel$Order;)Z" } : Jvm.MethodName) ∈ zWS := zw_t 313 rfl rfl
theorem zw_126 : Jvm.Cond.code ({ cls := "FourWayKernel", name := "lookIntoTop", desc := "(LFourWayKernel$Task;LFourWayKernel$Order;)Z" } : Jvm.MethodName) prog_1_method_33_code (3 : Nat) (Option.some Jvm.ClassFile.FieldType.boolean) ∈ zWS := zw_t 316 rfl rfl
theorem zw_127 : Jvm.Cond.instanceMethod ({ cls := "FourWayKernel", name := "lookIntoTop", desc := "(LFourWayKernel$Task;LFourWayKernel$Order;)Z" } : Jvm.MethodName) ∈ zWS := zw_t 315 rfl rfl
theorem zw_128 : Jvm.Cond.selects "FourWayKernel" ({ cls := "FourWayKernel", name := "lookIntoTop", desc := "(LFourWayKernel$Task;LFourWayKernel$Order;)Z" } : Jvm.MethodName) ({ cls := "FourWayKernel", name := "lookIntoTop", desc := "(LFourWayKernel$Task;LFourWayKernel$Order;)Z" } : Jvm.MethodName) ∈ zWS := zw_s 8 rfl rfl
theorem zw_129 : Jvm.Cond.methodLink "FourWayKernel" (204 : Nat) ({ cls := "FourWayKernel", name := "lookIntoLeaf", desc := "(LFourWayKernel$Task;LFourWayKernel$Order;LFourWayKernel$Processor;)Z" } : Jvm.MethodName) ∈ zWS := zw_t 317 rfl rfl
theorem zw_130 : Jvm.Cond.code ({ cls := "FourWayKernel", name := "lookIntoLeaf", desc := "(LFourWayKernel$Task;LFourWayKernel$Order;LFourWayKernel$Processor;)Z" } : Jvm.MethodName) prog_1_method_34_code (5 : Nat) (Option.some Jvm.ClassFile.FieldType.boolean) ∈ zWS := zw_t 320 rfl rfl
theorem zw_131 : Jvm.Cond.instanceMethod ({ cls := "FourWayKernel", name := "lookIntoLeaf", desc := "(LFourWayKernel$Task;LFourWayKernel$Order;LFourWayKernel$Processor;)Z" } : Jvm.MethodName) ∈ zWS := zw_t 319 rfl rfl
theorem zw_132 : Jvm.Cond.selects "FourWayKernel" ({ cls := "FourWayKernel", name := "lookIntoLeaf", desc := "(LFourWayKernel$Task;LFourWayKernel$Order;LFourWayKernel$Processor;)Z" } : Jvm.MethodName) ({ cls := "FourWayKernel", name := "lookIntoLeaf", desc := "(LFourWayKernel$Task;LFourWayKernel$Order;LFourWayKernel$Processor;)Z" } : Jvm.MethodName) ∈ zWS := zw_s 9 rfl rfl
theorem zw_133 : Jvm.Cond.methodLink "FourWayKernel" (207 : Nat) ({ cls := "FourWayKernel", name := "drawTicket", desc := "(LFourWayKernel$Task;)V" } : Jvm.MethodName) ∈ zWS := zw_t 326 rfl rfl
theorem zw_134 : Jvm.Cond.code ({ cls := "FourWayKernel", name := "drawTicket", desc := "(LFourWayKernel$Task;)V" } : Jvm.MethodName) prog_1_method_35_code (2 : Nat) (Option.none : Option Jvm.ClassFile.FieldType) ∈ zWS := zw_t 329 rfl rfl
theorem zw_135 : Jvm.Cond.instanceMethod ({ cls := "FourWayKernel", name := "drawTicket", desc := "(LFourWayKernel$Task;)V" } : Jvm.MethodName) ∈ zWS := zw_t 328 rfl rfl
theorem zw_136 : Jvm.Cond.selects "FourWayKernel" ({ cls := "FourWayKernel", name := "drawTicket", desc := "(LFourWayKernel$Task;)V" } : Jvm.MethodName) ({ cls := "FourWayKernel", name := "drawTicket", desc := "(LFourWayKernel$Task;)V" } : Jvm.MethodName) ∈ zWS := zw_s 10 rfl rfl
theorem zw_137 : Jvm.Cond.methodLink "FourWayKernel" (211 : Nat) ({ cls := "FourWayKernel", name := "waitForLock", desc := "(LFourWayKernel$Task;LFourWayKernel$Order;)V" } : Jvm.MethodName) ∈ zWS := zw_t 330 rfl rfl
theorem zw_138 : Jvm.Cond.code ({ cls := "FourWayKernel", name := "waitForLock", desc := "(LFourWayKernel$Task;LFourWayKernel$Order;)V" } : Jvm.MethodName) prog_1_method_36_code (3 : Nat) (Option.none : Option Jvm.ClassFile.FieldType) ∈ zWS := zw_t 333 rfl rfl
theorem zw_139 : Jvm.Cond.instanceMethod ({ cls := "FourWayKernel", name := "waitForLock", desc := "(LFourWayKernel$Task;LFourWayKernel$Order;)V" } : Jvm.MethodName) ∈ zWS := zw_t 332 rfl rfl
theorem zw_140 : Jvm.Cond.selects "FourWayKernel" ({ cls := "FourWayKernel", name := "waitForLock", desc := "(LFourWayKernel$Task;LFourWayKernel$Order;)V" } : Jvm.MethodName) ({ cls := "FourWayKernel", name := "waitForLock", desc := "(LFourWayKernel$Task;LFourWayKernel$Order;)V" } : Jvm.MethodName) ∈ zWS := zw_s 11 rfl rfl
theorem zw_141 : Jvm.Cond.methodLink "FourWayKernel" (215 : Nat) ({ cls := "FourWayKernel", name := "checkMap", desc := "(LFourWayKernel$Task;LFourWayKernel$Order;LFourWayKernel$Processor;)V" } : Jvm.MethodName) ∈ zWS := zw_t 334 rfl rfl
theorem zw_142 : Jvm.Cond.code ({ cls := "FourWayKernel", name := "checkMap", desc := "(LFourWayKernel$Task;LFourWayKernel$Order;LFourWayKernel$Processor;)V" } : Jvm.MethodName) prog_1_method_37_code (5 : Nat) (Option.none : Option Jvm.ClassFile.FieldType) ∈ zWS := zw_t 337 rfl rfl
theorem zw_143 : Jvm.Cond.instanceMethod ({ cls := "FourWayKernel", name := "checkMap", desc := "(LFourWayKernel$Task;LFourWayKernel$Order;LFourWayKernel$Processor;)V" } : Jvm.MethodName) ∈ zWS := zw_t 336 rfl rfl
theorem zw_144 : Jvm.Cond.selects "FourWayKernel" ({ cls := "FourWayKernel", name := "checkMap", desc := "(LFourWayKernel$Task;LFourWayKernel$Order;LFourWayKernel$Processor;)V" } : Jvm.MethodName) ({ cls := "FourWayKernel", name := "checkMap", desc := "(LFourWayKernel$Task;LFourWayKernel$Order;LFourWayKernel$Processor;)V" } : Jvm.MethodName) ∈ zWS := zw_s 12 rfl rfl
theorem zw_145 : Jvm.Cond.methodLink "FourWayKernel" (218 : Nat) ({ cls := "FourWayKernel", name := "changePage", desc := "(LFourWayKernel$Task;LFourWayKernel$Order;LFourWayKernel$Processor;)V" } : Jvm.MethodName) ∈ zWS := zw_t 342 rfl rfl
theorem zw_146 : Jvm.Cond.code ({ cls := "FourWayKernel", name := "changePage", desc := "(LFourWayKernel$Task;LFourWayKernel$Order;LFourWayKernel$Processor;)V" } : Jvm.MethodName) prog_1_method_39_code (7 : Nat) (Option.none : Option Jvm.ClassFile.FieldType) ∈ zWS := zw_t 345 rfl rfl
theorem zw_147 : Jvm.Cond.instanceMethod ({ cls := "FourWayKernel", name := "changePage", desc := "(LFourWayKernel$Task;LFourWayKernel$Order;LFourWayKernel$Processor;)V" } : Jvm.MethodName) ∈ zWS := zw_t 344 rfl rfl
theorem zw_148 : Jvm.Cond.selects "FourWayKernel" ({ cls := "FourWayKernel", name := "changePage", desc := "(LFourWayKernel$Task;LFourWayKernel$Order;LFourWayKernel$Processor;)V" } : Jvm.MethodName) ({ cls := "FourWayKernel", name := "changePage", desc := "(LFourWayKernel$Task;LFourWayKernel$Order;LFourWayKernel$Processor;)V" } : Jvm.MethodName) ∈ zWS := zw_s 14 rfl rfl
theorem zw_149 : Jvm.Cond.methodLink "FourWayKernel" (221 : Nat) ({ cls := "FourWayKernel", name := "sendRequest", desc := "(LFourWayKernel$Task;LFourWayKernel$Order;LFourWayKernel$Processor;)V" } : Jvm.MethodName) ∈ zWS := zw_t 359 rfl rfl
theorem zw_150 : Jvm.Cond.code ({ cls := "FourWayKernel", name := "sendRequest", desc := "(LFourWayKernel$Task;LFourWayKernel$Order;LFourWayKernel$Processor;)V" } : Jvm.MethodName) prog_1_method_43_code (4 : Nat) (Option.none : Option Jvm.ClassFile.FieldType) ∈ zWS := zw_t 362 rfl rfl
theorem zw_151 : Jvm.Cond.instanceMethod ({ cls := "FourWayKernel", name := "sendRequest", desc := "(LFourWayKernel$Task;LFourWayKernel$Order;LFourWayKernel$Processor;)V" } : Jvm.MethodName) ∈ zWS := zw_t 361 rfl rfl
theorem zw_152 : Jvm.Cond.selects "FourWayKernel" ({ cls := "FourWayKernel", name := "sendRequest", desc := "(LFourWayKernel$Task;LFourWayKernel$Order;LFourWayKernel$Processor;)V" } : Jvm.MethodName) ({ cls := "FourWayKernel", name := "sendRequest", desc := "(LFourWayKernel$Task;LFourWayKernel$Order;LFourWayKernel$Processor;)V" } : Jvm.MethodName) ∈ zWS := zw_s 18 rfl rfl
theorem zw_153 : Jvm.Cond.methodLink "FourWayKernel" (224 : Nat) ({ cls := "FourWayKernel", name := "awaitAnswers", desc := "(LFourWayKernel$Task;LFourWayKernel$Order;)V" } : Jvm.MethodName) ∈ zWS := zw_t 363 rfl rfl
theorem zw_154 : Jvm.Cond.code ({ cls := "FourWayKernel", name := "awaitAnswers", desc := "(LFourWayKernel$Task;LFourWayKernel$Order;)V" } : Jvm.MethodName) prog_1_method_44_code (3 : Nat) (Option.none : Option Jvm.ClassFile.FieldType) ∈ zWS := zw_t 366 rfl rfl
theorem zw_155 : Jvm.Cond.instanceMethod ({ cls := "FourWayKernel", name := "awaitAnswers", desc := "(LFourWayKernel$Task;LFourWayKernel$Order;)V" } : Jvm.MethodName) ∈ zWS := zw_t 365 rfl rfl
theorem zw_156 : Jvm.Cond.selects "FourWayKernel" ({ cls := "FourWayKernel", name := "awaitAnswers", desc := "(LFourWayKernel$Task;LFourWayKernel$Order;)V" } : Jvm.MethodName) ({ cls := "FourWayKernel", name := "awaitAnswers", desc := "(LFourWayKernel$Task;LFourWayKernel$Order;)V" } : Jvm.MethodName) ∈ zWS := zw_s 19 rfl rfl
theorem zw_157 : Jvm.Cond.methodLink "FourWayKernel" (227 : Nat) ({ cls := "FourWayKernel", name := "releaseFrame", desc := "(LFourWayKernel$Task;LFourWayKernel$Processor;)V" } : Jvm.MethodName) ∈ zWS := zw_t 367 rfl rfl
theorem zw_158 : Jvm.Cond.code ({ cls := "FourWayKernel", name := "releaseFrame", desc := "(LFourWayKernel$Task;LFourWayKernel$Processor;)V" } : Jvm.MethodName) prog_1_method_45_code (4 : Nat) (Option.none : Option Jvm.ClassFile.FieldType) ∈ zWS := zw_t 370 rfl rfl
theorem zw_159 : Jvm.Cond.instanceMethod ({ cls := "FourWayKernel", name := "releaseFrame", desc := "(LFourWayKernel$Task;LFourWayKernel$Processor;)V" } : Jvm.MethodName) ∈ zWS := zw_t 369 rfl rfl
theorem zw_160 : Jvm.Cond.selects "FourWayKernel" ({ cls := "FourWayKernel", name := "releaseFrame", desc := "(LFourWayKernel$Task;LFourWayKernel$Processor;)V" } : Jvm.MethodName) ({ cls := "FourWayKernel", name := "releaseFrame", desc := "(LFourWayKernel$Task;LFourWayKernel$Processor;)V" } : Jvm.MethodName) ∈ zWS := zw_s 20 rfl rfl
theorem zw_161 : Jvm.Cond.methodLink "FourWayKernel" (231 : Nat) ({ cls := "FourWayKernel", name := "isWritable", desc := "(I)Z" } : Jvm.MethodName) ∈ zWS := zw_t 307 rfl rfl
theorem zw_162 : Jvm.Cond.code ({ cls := "FourWayKernel", name := "isWritable", desc := "(I)Z" } : Jvm.MethodName) prog_1_method_46_code (1 : Nat) (Option.some Jvm.ClassFile.FieldType.boolean) ∈ zWS := zw_t 309 rfl rfl
theorem zw_163 : Jvm.Cond.static ({ cls := "FourWayKernel", name := "isWritable", desc := "(I)Z" } : Jvm.MethodName) ∈ zWS := zw_t 308 rfl rfl
theorem zw_164 : Jvm.Cond.methodLink "FourWayKernel" (234 : Nat) ({ cls := "FourWayKernel", name := "frameOf", desc := "(I)I" } : Jvm.MethodName) ∈ zWS := zw_t 310 rfl rfl
theorem zw_165 : Jvm.Cond.code ({ cls := "FourWayKernel", name := "frameOf", desc := "(I)I" } : Jvm.MethodName) prog_1_method_47_code (1 : Nat) (Option.some Jvm.ClassFile.FieldType.int) ∈ zWS := zw_t 312 rfl rfl
theorem zw_166 : Jvm.Cond.static ({ cls := "FourWayKernel", name := "frameOf", desc := "(I)I" } : Jvm.MethodName) ∈ zWS := zw_t 311 rfl rfl
theorem zw_167 : Jvm.Cond.methodLink "FourWayKernel" (237 : Nat) ({ cls := "FourWayKernel$Buffer", name := "putLatest", desc := "(II)V" } : Jvm.MethodName) ∈ zWS := zw_t 321 rfl rfl
theorem zw_168 : Jvm.Cond.code ({ cls := "FourWayKernel$Buffer", name := "putLatest", desc := "(II)V" } : Jvm.MethodName) prog_2_method_3_code (3 : Nat) (Option.none : Option Jvm.ClassFile.FieldType) ∈ zWS := zw_t 324 rfl rfl
theorem zw_169 : Jvm.Cond.instanceMethod ({ cls := "FourWayKernel$Buffer", name := "putLatest", desc := "(II)V" } : Jvm.MethodName) ∈ zWS := zw_t 322 rfl rfl
theorem zw_170 : Jvm.Cond.selects "FourWayKernel$Buffer" ({ cls := "FourWayKernel$Buffer", name := "putLatest", desc := "(II)V" } : Jvm.MethodName) ({ cls := "FourWayKernel$Buffer", name := "putLatest", desc := "(II)V" } : Jvm.MethodName) ∈ zWS := zw_t 323 rfl rfl
theorem zw_171 : Jvm.Cond.methodLink "FourWayKernel" (243 : Nat) ({ cls := "FourWayKernel", name := "isUnmapped", desc := "(II)Z" } : Jvm.MethodName) ∈ zWS := zw_t 338 rfl rfl
theorem zw_172 : Jvm.Cond.code ({ cls := "FourWayKernel", name := "isUnmapped", desc := "(II)Z" } : Jvm.MethodName) prog_1_method_38_code (4 : Nat) (Option.some Jvm.ClassFile.FieldType.boolean) ∈ zWS := zw_t 341 rfl rfl
theorem zw_173 : Jvm.Cond.instanceMethod ({ cls := "FourWayKernel", name := "isUnmapped", desc := "(II)Z" } : Jvm.MethodName) ∈ zWS := zw_t 340 rfl rfl
theorem zw_174 : Jvm.Cond.selects "FourWayKernel" ({ cls := "FourWayKernel", name := "isUnmapped", desc := "(II)Z" } : Jvm.MethodName) ({ cls := "FourWayKernel", name := "isUnmapped", desc := "(II)Z" } : Jvm.MethodName) ∈ zWS := zw_s 13 rfl rfl
theorem zw_175 : Jvm.Cond.methodLink "FourWayKernel" (249 : Nat) ({ cls := "FourWayKernel", name := "mapPage", desc := "(IILFourWayKernel$Processor;)Z" } : Jvm.MethodName) ∈ zWS := zw_t 346 rfl rfl
theorem zw_176 : Jvm.Cond.code ({ cls := "FourWayKernel", name := "mapPage", desc := "(IILFourWayKernel$Processor;)Z" } : Jvm.MethodName) prog_1_method_40_code (5 : Nat) (Option.some Jvm.ClassFile.FieldType.boolean) ∈ zWS := zw_t 349 rfl rfl
theorem zw_177 : Jvm.Cond.instanceMethod ({ cls := "FourWayKernel", name := "mapPage", desc := "(IILFourWayKernel$Processor;)Z" } : Jvm.MethodName) ∈ zWS := zw_t 348 rfl rfl
theorem zw_178 : Jvm.Cond.selects "FourWayKernel" ({ cls := "FourWayKernel", name := "mapPage", desc := "(IILFourWayKernel$Processor;)Z" } : Jvm.MethodName) ({ cls := "FourWayKernel", name := "mapPage", desc := "(IILFourWayKernel$Processor;)Z" } : Jvm.MethodName) ∈ zWS := zw_s 15 rfl rfl
theorem zw_179 : Jvm.Cond.methodLink "FourWayKernel" (253 : Nat) ({ cls := "FourWayKernel", name := "unmapPage", desc := "(ILFourWayKernel$Task;)Z" } : Jvm.MethodName) ∈ zWS := zw_t 350 rfl rfl
theorem zw_180 : Jvm.Cond.code ({ cls := "FourWayKernel", name := "unmapPage", desc := "(ILFourWayKernel$Task;)Z" } : Jvm.MethodName) prog_1_method_41_code (4 : Nat) (Option.some Jvm.ClassFile.FieldType.boolean) ∈ zWS := zw_t 353 rfl rfl
theorem zw_181 : Jvm.Cond.instanceMethod ({ cls := "FourWayKernel", name := "unmapPage", desc := "(ILFourWayKernel$Task;)Z" } : Jvm.MethodName) ∈ zWS := zw_t 352 rfl rfl
theorem zw_182 : Jvm.Cond.selects "FourWayKernel" ({ cls := "FourWayKernel", name := "unmapPage", desc := "(ILFourWayKernel$Task;)Z" } : Jvm.MethodName) ({ cls := "FourWayKernel", name := "unmapPage", desc := "(ILFourWayKernel$Task;)Z" } : Jvm.MethodName) ∈ zWS := zw_s 16 rfl rfl
theorem zw_183 : Jvm.Cond.methodLink "FourWayKernel" (257 : Nat) ({ cls := "FourWayKernel", name := "protectPage", desc := "(I)Z" } : Jvm.MethodName) ∈ zWS := zw_t 354 rfl rfl
theorem zw_184 : Jvm.Cond.code ({ cls := "FourWayKernel", name := "protectPage", desc := "(I)Z" } : Jvm.MethodName) prog_1_method_42_code (3 : Nat) (Option.some Jvm.ClassFile.FieldType.boolean) ∈ zWS := zw_t 357 rfl rfl
theorem zw_185 : Jvm.Cond.instanceMethod ({ cls := "FourWayKernel", name := "protectPage", desc := "(I)Z" } : Jvm.MethodName) ∈ zWS := zw_t 356 rfl rfl
theorem zw_186 : Jvm.Cond.selects "FourWayKernel" ({ cls := "FourWayKernel", name := "protectPage", desc := "(I)Z" } : Jvm.MethodName) ({ cls := "FourWayKernel", name := "protectPage", desc := "(I)Z" } : Jvm.MethodName) ∈ zWS := zw_s 17 rfl rfl
theorem zw_187 : Jvm.Cond.methodLink "FourWayKernel" (260 : Nat) ({ cls := "FourWayKernel$Task", name := "beginPhase", desc := "(I)V" } : Jvm.MethodName) ∈ zWS := zw_t 358 rfl rfl
theorem zw_188 : Jvm.Cond.code ({ cls := "FourWayKernel$Task", name := "beginPhase", desc := "(I)V" } : Jvm.MethodName) prog_6_method_5_code (2 : Nat) (Option.none : Option Jvm.ClassFile.FieldType) ∈ zWS := zw_t 242 rfl rfl
theorem zw_189 : Jvm.Cond.instanceMethod ({ cls := "FourWayKernel$Task", name := "beginPhase", desc := "(I)V" } : Jvm.MethodName) ∈ zWS := zw_t 240 rfl rfl
theorem zw_190 : Jvm.Cond.selects "FourWayKernel$Task" ({ cls := "FourWayKernel$Task", name := "beginPhase", desc := "(I)V" } : Jvm.MethodName) ({ cls := "FourWayKernel$Task", name := "beginPhase", desc := "(I)V" } : Jvm.MethodName) ∈ zWS := zw_t 241 rfl rfl
theorem zw_191 : Jvm.Cond.methodLink "FourWayKernel$Line" (3 : Nat) ({ cls := "java/lang/Object", name := "<init>", desc := "()V" } : Jvm.MethodName) ∈ zWS := zw_t 47 rfl rfl
theorem zw_192 : Jvm.Cond.fieldLink "FourWayKernel$Line" (9 : Nat) "FourWayKernel$Line" "items" "[I" ∈ zWS := zw_t 48 rfl rfl
theorem zw_193 : Jvm.Cond.fieldLink "FourWayKernel$Line" (15 : Nat) "FourWayKernel$Line" "count" "I" ∈ zWS := zw_t 49 rfl rfl
theorem zw_194 : Jvm.Cond.methodLink "FourWayKernel$Buffer" (3 : Nat) ({ cls := "java/lang/Object", name := "<init>", desc := "()V" } : Jvm.MethodName) ∈ zWS := zw_t 30 rfl rfl
theorem zw_195 : Jvm.Cond.fieldLink "FourWayKernel$Buffer" (9 : Nat) "FourWayKernel$Buffer" "pages" "[I" ∈ zWS := zw_t 31 rfl rfl
theorem zw_196 : Jvm.Cond.fieldLink "FourWayKernel$Buffer" (15 : Nat) "FourWayKernel$Buffer" "entries" "[I" ∈ zWS := zw_t 32 rfl rfl
theorem zw_197 : Jvm.Cond.fieldLink "FourWayKernel$Buffer" (18 : Nat) "FourWayKernel$Buffer" "count" "I" ∈ zWS := zw_t 33 rfl rfl
theorem zw_198 : Jvm.Cond.methodLink "FourWayKernel$Buffer" (22 : Nat) ({ cls := "FourWayKernel$Buffer", name := "dropRange", desc := "(II)V" } : Jvm.MethodName) ∈ zWS := zw_t 325 rfl rfl
theorem zw_199 : Jvm.Cond.methodLink "FourWayKernel$Processor" (3 : Nat) ({ cls := "java/lang/Object", name := "<init>", desc := "()V" } : Jvm.MethodName) ∈ zWS := zw_t 24 rfl rfl
theorem zw_200 : Jvm.Cond.fieldLink "FourWayKernel$Processor" (9 : Nat) "FourWayKernel$Processor" "number" "I" ∈ zWS := zw_t 56 rfl rfl
theorem zw_201 : Jvm.Cond.classLink "FourWayKernel$Processor" (15 : Nat) "FourWayKernel$Buffer" ∈ zWS := zw_t 25 rfl rfl
theorem zw_202 : Jvm.Cond.instantiable "FourWayKernel$Buffer" (3 : Nat) ∈ zWS := zw_t 26 rfl rfl
theorem zw_203 : Jvm.Cond.methodLink "FourWayKernel$Processor" (17 : Nat) ({ cls := "FourWayKernel$Buffer", name := "<init>", desc := "()V" } : Jvm.MethodName) ∈ zWS := zw_t 27 rfl rfl
theorem zw_204 : Jvm.Cond.code ({ cls := "FourWayKernel$Buffer", name := "<init>", desc := "()V" } : Jvm.MethodName) prog_2_method_1_code (1 : Nat) (Option.none : Option Jvm.ClassFile.FieldType) ∈ zWS := zw_t 29 rfl rfl
theorem zw_205 : Jvm.Cond.instanceMethod ({ cls := "FourWayKernel$Buffer", name := "<init>", desc := "()V" } : Jvm.MethodName) ∈ zWS := zw_t 28 rfl rfl
theorem zw_206 : Jvm.Cond.fieldLink "FourWayKernel$Processor" (18 : Nat) "FourWayKernel$Processor" "buffer" "LFourWayKernel$Buffer;" ∈ zWS := zw_t 58 rfl rfl
theorem zw_207 : Jvm.Cond.classLink "FourWayKernel$Processor" (22 : Nat) "FourWayKernel$Line" ∈ zWS := zw_t 42 rfl rfl
theorem zw_208 : Jvm.Cond.methodLink "FourWayKernel$Processor" (24 : Nat) ({ cls := "FourWayKernel$Line", name := "<init>", desc := "(I)V" } : Jvm.MethodName) ∈ zWS := zw_t 44 rfl rfl
theorem zw_209 : Jvm.Cond.fieldLink "FourWayKernel$Processor" (27 : Nat) "FourWayKernel$Processor" "storeRoom" "LFourWayKernel$Line;" ∈ zWS := zw_t 60 rfl rfl
theorem zw_210 : Jvm.Cond.fieldLink "FourWayKernel$Processor" (31 : Nat) "FourWayKernel$Processor" "mailbox" "LFourWayKernel$Line;" ∈ zWS := zw_t 62 rfl rfl
theorem zw_211 : Jvm.Cond.fieldLink "FourWayKernel$Processor" (34 : Nat) "FourWayKernel$Processor" "queue" "LFourWayKernel$Line;" ∈ zWS := zw_t 64 rfl rfl
theorem zw_212 : Jvm.Cond.fieldLink "FourWayKernel$Processor" (37 : Nat) "FourWayKernel$Processor" "running" "I" ∈ zWS := zw_t 66 rfl rfl
theorem zw_213 : Jvm.Cond.methodLink "FourWayKernel$Order" (3 : Nat) ({ cls := "java/lang/Object", name := "<init>", desc := "()V" } : Jvm.MethodName) ∈ zWS := zw_t 203 rfl rfl
theorem zw_214 : Jvm.Cond.fieldLink "FourWayKernel$Order" (9 : Nat) "FourWayKernel$Order" "kind" "I" ∈ zWS := zw_t 204 rfl rfl
theorem zw_215 : Jvm.Cond.fieldLink "FourWayKernel$Order" (15 : Nat) "FourWayKernel$Order" "page" "I" ∈ zWS := zw_t 206 rfl rfl
theorem zw_216 : Jvm.Cond.fieldLink "FourWayKernel$Order" (18 : Nat) "FourWayKernel$Order" "n" "I" ∈ zWS := zw_t 208 rfl rfl
theorem zw_217 : Jvm.Cond.fieldLink "FourWayKernel$Order" (21 : Nat) "FourWayKernel$Order" "argument" "I" ∈ zWS := zw_t 210 rfl rfl
theorem zw_218 : Jvm.Cond.fieldLink "FourWayKernel$Order" (24 : Nat) "FourWayKernel$Order" "result" "I" ∈ zWS := zw_t 212 rfl rfl
theorem zw_219 : Jvm.Cond.methodLink "FourWayKernel$Task" (3 : Nat) ({ cls := "java/lang/Object", name := "<init>", desc := "()V" } : Jvm.MethodName) ∈ zWS := zw_t 130 rfl rfl
theorem zw_220 : Jvm.Cond.fieldLink "FourWayKernel$Task" (9 : Nat) "FourWayKernel$Task" "number" "I" ∈ zWS := zw_t 135 rfl rfl
theorem zw_221 : Jvm.Cond.fieldLink "FourWayKernel$Task" (15 : Nat) "FourWayKernel$Task" "home" "I" ∈ zWS := zw_t 142 rfl rfl
theorem zw_222 : Jvm.Cond.classLink "FourWayKernel$Task" (18 : Nat) "FourWayKernel$Order" ∈ zWS := zw_t 131 rfl rfl
theorem zw_223 : Jvm.Cond.fieldLink "FourWayKernel$Task" (20 : Nat) "FourWayKernel$Task" "orders" "[LFourWayKernel$Order;" ∈ zWS := zw_t 137 rfl rfl
theorem zw_224 : Jvm.Cond.classLink "FourWayKernel$Task" (24 : Nat) "FourWayKernel$Line" ∈ zWS := zw_t 133 rfl rfl
theorem zw_225 : Jvm.Cond.methodLink "FourWayKernel$Task" (26 : Nat) ({ cls := "FourWayKernel$Line", name := "<init>", desc := "(I)V" } : Jvm.MethodName) ∈ zWS := zw_t 134 rfl rfl
theorem zw_226 : Jvm.Cond.fieldLink "FourWayKernel$Task" (29 : Nat) "FourWayKernel$Task" "kept" "LFourWayKernel$Line;" ∈ zWS := zw_t 154 rfl rfl
theorem zw_227 : Jvm.Cond.fieldLink "FourWayKernel$Task" (33 : Nat) "FourWayKernel$Task" "orderCount" "I" ∈ zWS := zw_t 138 rfl rfl
theorem zw_228 : Jvm.Cond.fieldLink "FourWayKernel$Task" (36 : Nat) "FourWayKernel$Task" "doneCount" "I" ∈ zWS := zw_t 140 rfl rfl
theorem zw_229 : Jvm.Cond.fieldLink "FourWayKernel$Task" (39 : Nat) "FourWayKernel$Task" "phase" "I" ∈ zWS := zw_t 144 rfl rfl
theorem zw_230 : Jvm.Cond.fieldLink "FourWayKernel$Task" (42 : Nat) "FourWayKernel$Task" "turn" "I" ∈ zWS := zw_t 146 rfl rfl
theorem zw_231 : Jvm.Cond.fieldLink "FourWayKernel$Task" (45 : Nat) "FourWayKernel$Task" "ticket" "I" ∈ zWS := zw_t 148 rfl rfl
theorem zw_232 : Jvm.Cond.fieldLink "FourWayKernel$Task" (48 : Nat) "FourWayKernel$Task" "owed" "I" ∈ zWS := zw_t 150 rfl rfl
theorem zw_233 : Jvm.Cond.fieldLink "FourWayKernel$Task" (51 : Nat) "FourWayKernel$Task" "outcome" "I" ∈ zWS := zw_t 152 rfl rfl
theorem zw_234 : Jvm.Cond.methodLink "FourWayKernel$Task" (54 : Nat) ({ cls := "FourWayKernel$Task", name := "firstUnfinished", desc := "()LFourWayKernel$Order;" } : Jvm.MethodName) ∈ zWS := zw_t 234 rfl rfl
theorem zw_235 : Jvm.Cond.methodLink "FourWayKernel$Task" (58 : Nat) ({ cls := "FourWayKernel$Order", name := "firstPhase", desc := "()I" } : Jvm.MethodName) ∈ zWS := zw_t 235 rfl rfl
theorem zw_236 : Jvm.Cond.code ({ cls := "FourWayKernel$Order", name := "firstPhase", desc := "()I" } : Jvm.MethodName) prog_4_method_2_code (1 : Nat) (Option.some Jvm.ClassFile.FieldType.int) ∈ zWS := zw_t 238 rfl rfl
theorem zw_237 : Jvm.Cond.instanceMethod ({ cls := "FourWayKernel$Order", name := "firstPhase", desc := "()I" } : Jvm.MethodName) ∈ zWS := zw_t 236 rfl rfl
theorem zw_238 : Jvm.Cond.selects "FourWayKernel$Order" ({ cls := "FourWayKernel$Order", name := "firstPhase", desc := "()I" } : Jvm.MethodName) ({ cls := "FourWayKernel$Order", name := "firstPhase", desc := "()I" } : Jvm.MethodName) ∈ zWS := zw_t 237 rfl rfl
theorem zw_239 : Jvm.Cond.methodLink "FourWayKernel$Task" (62 : Nat) ({ cls := "FourWayKernel$Task", name := "beginPhase", desc := "(I)V" } : Jvm.MethodName) ∈ zWS := zw_t 239 rfl rfl
set_option maxRecDepth 20000 in
theorem zw_240 : Jvm.Cond.methodLink "FourWayKernelModel" (1 : Nat) ({ cls := "java/lang/Object", name := "<init>", desc := "()V" } : Jvm.MethodName) ∈ zWS := zw_t 437 rfl rfl
set_option maxRecDepth 20000 in
theorem zw_241 : Jvm.Cond.fieldLink "FourWayKernelModel" (7 : Nat) "FourWayKernelModel" "count" "[I" ∈ zWS := zw_t 439 rfl rfl
set_option maxRecDepth 20000 in
theorem zw_242 : Jvm.Cond.fieldLink "FourWayKernelModel" (13 : Nat) "FourWayKernelModel" "done" "[I" ∈ zWS := zw_t 440 rfl rfl
set_option maxRecDepth 20000 in
theorem zw_243 : Jvm.Cond.fieldLink "FourWayKernelModel" (16 : Nat) "FourWayKernelModel" "kind" "[I" ∈ zWS := zw_t 441 rfl rfl
set_option maxRecDepth 20000 in
theorem zw_244 : Jvm.Cond.fieldLink "FourWayKernelModel" (19 : Nat) "FourWayKernelModel" "first" "[I" ∈ zWS := zw_t 442 rfl rfl
set_option maxRecDepth 20000 in
theorem zw_245 : Jvm.Cond.fieldLink "FourWayKernelModel" (22 : Nat) "FourWayKernelModel" "many" "[I" ∈ zWS := zw_t 443 rfl rfl
set_option maxRecDepth 20000 in
theorem zw_246 : Jvm.Cond.fieldLink "FourWayKernelModel" (25 : Nat) "FourWayKernelModel" "value" "[I" ∈ zWS := zw_t 444 rfl rfl
set_option maxRecDepth 20000 in
theorem zw_247 : Jvm.Cond.fieldLink "FourWayKernelModel" (28 : Nat) "FourWayKernelModel" "outcome" "[I" ∈ zWS := zw_t 445 rfl rfl
set_option maxRecDepth 20000 in
theorem zw_248 : Jvm.Cond.fieldLink "FourWayKernelModel" (31 : Nat) "FourWayKernelModel" "where" "[I" ∈ zWS := zw_t 446 rfl rfl
set_option maxRecDepth 20000 in
theorem zw_249 : Jvm.Cond.fieldLink "FourWayKernelModel" (34 : Nat) "FourWayKernelModel" "how" "[I" ∈ zWS := zw_t 447 rfl rfl
set_option maxRecDepth 20000 in
theorem zw_250 : Jvm.Cond.fieldLink "FourWayKernelModel" (37 : Nat) "FourWayKernelModel" "since" "[I" ∈ zWS := zw_t 448 rfl rfl
set_option maxRecDepth 20000 in
theorem zw_251 : Jvm.Cond.fieldLink "FourWayKernelModel" (40 : Nat) "FourWayKernelModel" "phase" "[I" ∈ zWS := zw_t 450 rfl rfl
set_option maxRecDepth 20000 in
theorem zw_252 : Jvm.Cond.fieldLink "FourWayKernelModel" (43 : Nat) "FourWayKernelModel" "ticket" "[I" ∈ zWS := zw_t 451 rfl rfl
set_option maxRecDepth 20000 in
theorem zw_253 : Jvm.Cond.fieldLink "FourWayKernelModel" (46 : Nat) "FourWayKernelModel" "progress" "[I" ∈ zWS := zw_t 452 rfl rfl
set_option maxRecDepth 20000 in
theorem zw_254 : Jvm.Cond.fieldLink "FourWayKernelModel" (49 : Nat) "FourWayKernelModel" "owed" "[I" ∈ zWS := zw_t 453 rfl rfl
set_option maxRecDepth 20000 in
theorem zw_255 : Jvm.Cond.fieldLink "FourWayKernelModel" (52 : Nat) "FourWayKernelModel" "hits" "[I" ∈ zWS := zw_t 454 rfl rfl
set_option maxRecDepth 20000 in
theorem zw_256 : Jvm.Cond.fieldLink "FourWayKernelModel" (55 : Nat) "FourWayKernelModel" "refused" "[Z" ∈ zWS := zw_t 455 rfl rfl
set_option maxRecDepth 20000 in
theorem zw_257 : Jvm.Cond.fieldLink "FourWayKernelModel" (59 : Nat) "FourWayKernelModel" "kept" "[I" ∈ zWS := zw_t 456 rfl rfl
set_option maxRecDepth 20000 in
theorem zw_258 : Jvm.Cond.fieldLink "FourWayKernelModel" (62 : Nat) "FourWayKernelModel" "keeps" "[I" ∈ zWS := zw_t 457 rfl rfl
set_option maxRecDepth 20000 in
theorem zw_259 : Jvm.Cond.fieldLink "FourWayKernelModel" (65 : Nat) "FourWayKernelModel" "frameOf" "[I" ∈ zWS := zw_t 460 rfl rfl
set_option maxRecDepth 20000 in
theorem zw_260 : Jvm.Cond.fieldLink "FourWayKernelModel" (68 : Nat) "FourWayKernelModel" "writableOf" "[Z" ∈ zWS := zw_t 461 rfl rfl
set_option maxRecDepth 20000 in
theorem zw_261 : Jvm.Cond.fieldLink "FourWayKernelModel" (71 : Nat) "FourWayKernelModel" "entered" "[Z" ∈ zWS := zw_t 462 rfl rfl
set_option maxRecDepth 20000 in
theorem zw_262 : Jvm.Cond.fieldLink "FourWayKernelModel" (74 : Nat) "FourWayKernelModel" "word" "[I" ∈ zWS := zw_t 463 rfl rfl
set_option maxRecDepth 20000 in
theorem zw_263 : Jvm.Cond.fieldLink "FourWayKernelModel" (77 : Nat) "FourWayKernelModel" "known" "[I" ∈ zWS := zw_t 464 rfl rfl
set_option maxRecDepth 20000 in
theorem zw_264 : Jvm.Cond.fieldLink "FourWayKernelModel" (80 : Nat) "FourWayKernelModel" "knownFrame" "[I" ∈ zWS := zw_t 465 rfl rfl
set_option maxRecDepth 20000 in
theorem zw_265 : Jvm.Cond.fieldLink "FourWayKernelModel" (83 : Nat) "FourWayKernelModel" "knownWritable" "[Z" ∈ zWS := zw_t 466 rfl rfl
set_option maxRecDepth 20000 in
theorem zw_266 : Jvm.Cond.fieldLink "FourWayKernelModel" (86 : Nat) "FourWayKernelModel" "home" "[I" ∈ zWS := zw_t 467 rfl rfl
set_option maxRecDepth 20000 in
theorem zw_267 : Jvm.Cond.fieldLink "FourWayKernelModel" (89 : Nat) "FourWayKernelModel" "laid" "[I" ∈ zWS := zw_t 468 rfl rfl
set_option maxRecDepth 20000 in
theorem zw_268 : Jvm.Cond.fieldLink "FourWayKernelModel" (92 : Nat) "FourWayKernelModel" "asked" "[Z" ∈ zWS := zw_t 469 rfl rfl
set_option maxRecDepth 20000 in
theorem zw_269 : Jvm.Cond.fieldLink "FourWayKernelModel" (95 : Nat) "FourWayKernelModel" "askedBy" "[I" ∈ zWS := zw_t 470 rfl rfl
set_option maxRecDepth 20000 in
theorem zw_270 : Jvm.Cond.fieldLink "FourWayKernelModel" (98 : Nat) "FourWayKernelModel" "clock" "I" ∈ zWS := zw_t 449 rfl rfl
set_option maxRecDepth 20000 in
theorem zw_271 : Jvm.Cond.methodLink "FourWayKernelModel" (102 : Nat) ({ cls := "FourWayKernelModel", name := "noProcessor", desc := "(I)Z" } : Jvm.MethodName) ∈ zWS := zw_t 545 rfl rfl
set_option maxRecDepth 20000 in
theorem zw_272 : Jvm.Cond.code ({ cls := "FourWayKernelModel", name := "noProcessor", desc := "(I)Z" } : Jvm.MethodName) prog_8_method_3_code (1 : Nat) (Option.some Jvm.ClassFile.FieldType.boolean) ∈ zWS := zw_t 547 rfl rfl
theorem zw_273 : Jvm.Cond.initialized "FourWayKernelModel" ∈ zWS := zw_t 5 rfl rfl
set_option maxRecDepth 20000 in
theorem zw_274 : Jvm.Cond.static ({ cls := "FourWayKernelModel", name := "noProcessor", desc := "(I)Z" } : Jvm.MethodName) ∈ zWS := zw_t 546 rfl rfl
set_option maxRecDepth 20000 in
theorem zw_275 : Jvm.Cond.fieldLink "FourWayKernelModel" (106 : Nat) "FourWayKernelModel" "threads" "I" ∈ zWS := zw_t 438 rfl rfl
set_option maxRecDepth 20000 in
theorem zw_276 : Jvm.Cond.methodLink "FourWayKernelModel" (109 : Nat) ({ cls := "FourWayKernelModel", name := "tick", desc := "()I" } : Jvm.MethodName) ∈ zWS := zw_t 559 rfl rfl
set_option maxRecDepth 20000 in
theorem zw_277 : Jvm.Cond.code ({ cls := "FourWayKernelModel", name := "tick", desc := "()I" } : Jvm.MethodName) prog_8_method_2_code (1 : Nat) (Option.some Jvm.ClassFile.FieldType.int) ∈ zWS := zw_t 562 rfl rfl
set_option maxRecDepth 20000 in
theorem zw_278 : Jvm.Cond.instanceMethod ({ cls := "FourWayKernelModel", name := "tick", desc := "()I" } : Jvm.MethodName) ∈ zWS := zw_t 561 rfl rfl
theorem zw_279 : Jvm.Cond.selects "FourWayKernelModel" ({ cls := "FourWayKernelModel", name := "tick", desc := "()I" } : Jvm.MethodName) ({ cls := "FourWayKernelModel", name := "tick", desc := "()I" } : Jvm.MethodName) ∈ zWS := zw_s 23 rfl rfl
set_option maxRecDepth 20000 in
theorem zw_280 : Jvm.Cond.methodLink "FourWayKernelModel" (113 : Nat) ({ cls := "FourWayKernelModel", name := "begin", desc := "(I)V" } : Jvm.MethodName) ∈ zWS := zw_t 563 rfl rfl
set_option maxRecDepth 20000 in
theorem zw_281 : Jvm.Cond.code ({ cls := "FourWayKernelModel", name := "begin", desc := "(I)V" } : Jvm.MethodName) prog_8_method_6_code (3 : Nat) (Option.none : Option Jvm.ClassFile.FieldType) ∈ zWS := zw_t 566 rfl rfl
set_option maxRecDepth 20000 in
theorem zw_282 : Jvm.Cond.instanceMethod ({ cls := "FourWayKernelModel", name := "begin", desc := "(I)V" } : Jvm.MethodName) ∈ zWS := zw_t 565 rfl rfl
theorem zw_283 : Jvm.Cond.selects "FourWayKernelModel" ({ cls := "FourWayKernelModel", name := "begin", desc := "(I)V" } : Jvm.MethodName) ({ cls := "FourWayKernelModel", name := "begin", desc := "(I)V" } : Jvm.MethodName) ∈ zWS := zw_s 24 rfl rfl
set_option maxRecDepth 20000 in
theorem zw_284 : Jvm.Cond.methodLink "FourWayKernelModel" (117 : Nat) ({ cls := "FourWayKernelModel", name := "noPage", desc := "(I)Z" } : Jvm.MethodName) ∈ zWS := zw_t 552 rfl rfl
set_option maxRecDepth 20000 in
theorem zw_285 : Jvm.Cond.code ({ cls := "FourWayKernelModel", name := "noPage", desc := "(I)Z" } : Jvm.MethodName) prog_8_method_7_code (1 : Nat) (Option.some Jvm.ClassFile.FieldType.boolean) ∈ zWS := zw_t 554 rfl rfl
set_option maxRecDepth 20000 in
theorem zw_286 : Jvm.Cond.static ({ cls := "FourWayKernelModel", name := "noPage", desc := "(I)Z" } : Jvm.MethodName) ∈ zWS := zw_t 553 rfl rfl
set_option maxRecDepth 20000 in
theorem zw_287 : Jvm.Cond.methodLink "FourWayKernelModel" (120 : Nat) ({ cls := "FourWayKernelModel", name := "order", desc := "(IIIII)I" } : Jvm.MethodName) ∈ zWS := zw_t 555 rfl rfl
set_option maxRecDepth 20000 in
theorem zw_288 : Jvm.Cond.code ({ cls := "FourWayKernelModel", name := "order", desc := "(IIIII)I" } : Jvm.MethodName) prog_8_method_5_code (7 : Nat) (Option.some Jvm.ClassFile.FieldType.int) ∈ zWS := zw_t 558 rfl rfl
set_option maxRecDepth 20000 in
theorem zw_289 : Jvm.Cond.instanceMethod ({ cls := "FourWayKernelModel", name := "order", desc := "(IIIII)I" } : Jvm.MethodName) ∈ zWS := zw_t 557 rfl rfl
theorem zw_290 : Jvm.Cond.selects "FourWayKernelModel" ({ cls := "FourWayKernelModel", name := "order", desc := "(IIIII)I" } : Jvm.MethodName) ({ cls := "FourWayKernelModel", name := "order", desc := "(IIIII)I" } : Jvm.MethodName) ∈ zWS := zw_s 22 rfl rfl
set_option maxRecDepth 20000 in
theorem zw_291 : Jvm.Cond.methodLink "FourWayKernelModel" (124 : Nat) ({ cls := "FourWayKernelModel", name := "noRange", desc := "(II)Z" } : Jvm.MethodName) ∈ zWS := zw_t 575 rfl rfl
set_option maxRecDepth 20000 in
theorem zw_292 : Jvm.Cond.code ({ cls := "FourWayKernelModel", name := "noRange", desc := "(II)Z" } : Jvm.MethodName) prog_8_method_8_code (2 : Nat) (Option.some Jvm.ClassFile.FieldType.boolean) ∈ zWS := zw_t 577 rfl rfl
set_option maxRecDepth 20000 in
theorem zw_293 : Jvm.Cond.static ({ cls := "FourWayKernelModel", name := "noRange", desc := "(II)Z" } : Jvm.MethodName) ∈ zWS := zw_t 576 rfl rfl
set_option maxRecDepth 20000 in
theorem zw_294 : Jvm.Cond.methodLink "FourWayKernelModel" (128 : Nat) ({ cls := "FourWayKernelModel", name := "ahead", desc := "(II)I" } : Jvm.MethodName) ∈ zWS := zw_t 650 rfl rfl
set_option maxRecDepth 20000 in
theorem zw_295 : Jvm.Cond.code ({ cls := "FourWayKernelModel", name := "ahead", desc := "(II)I" } : Jvm.MethodName) prog_8_method_16_code (5 : Nat) (Option.some Jvm.ClassFile.FieldType.int) ∈ zWS := zw_t 653 rfl rfl
set_option maxRecDepth 20000 in
theorem zw_296 : Jvm.Cond.instanceMethod ({ cls := "FourWayKernelModel", name := "ahead", desc := "(II)I" } : Jvm.MethodName) ∈ zWS := zw_t 652 rfl rfl
theorem zw_297 : Jvm.Cond.selects "FourWayKernelModel" ({ cls := "FourWayKernelModel", name := "ahead", desc := "(II)I" } : Jvm.MethodName) ({ cls := "FourWayKernelModel", name := "ahead", desc := "(II)I" } : Jvm.MethodName) ∈ zWS := zw_s 39 rfl rfl
set_option maxRecDepth 20000 in
theorem zw_298 : Jvm.Cond.methodLink "FourWayKernelModel" (132 : Nat) ({ cls := "FourWayKernelModel", name := "lengthOf", desc := "(I)I" } : Jvm.MethodName) ∈ zWS := zw_t 642 rfl rfl
set_option maxRecDepth 20000 in
theorem zw_299 : Jvm.Cond.code ({ cls := "FourWayKernelModel", name := "lengthOf", desc := "(I)I" } : Jvm.MethodName) prog_8_method_17_code (4 : Nat) (Option.some Jvm.ClassFile.FieldType.int) ∈ zWS := zw_t 645 rfl rfl
set_option maxRecDepth 20000 in
theorem zw_300 : Jvm.Cond.instanceMethod ({ cls := "FourWayKernelModel", name := "lengthOf", desc := "(I)I" } : Jvm.MethodName) ∈ zWS := zw_t 644 rfl rfl
theorem zw_301 : Jvm.Cond.selects "FourWayKernelModel" ({ cls := "FourWayKernelModel", name := "lengthOf", desc := "(I)I" } : Jvm.MethodName) ({ cls := "FourWayKernelModel", name := "lengthOf", desc := "(I)I" } : Jvm.MethodName) ∈ zWS := zw_s 37 rfl rfl
set_option maxRecDepth 20000 in
theorem zw_302 : Jvm.Cond.fieldLink "FourWayKernelModel" (136 : Nat) "FourWayKernelModel" "made" "I" ∈ zWS := zw_t 471 rfl rfl
set_option maxRecDepth 20000 in
theorem zw_303 : Jvm.Cond.methodLink "FourWayKernelModel" (139 : Nat) ({ cls := "FourWayKernelModel", name := "forget", desc := "(II)V" } : Jvm.MethodName) ∈ zWS := zw_t 594 rfl rfl
set_option maxRecDepth 20000 in
theorem zw_304 : Jvm.Cond.code ({ cls := "FourWayKernelModel", name := "forget", desc := "(II)V" } : Jvm.MethodName) prog_8_method_23_code (5 : Nat) (Option.none : Option Jvm.ClassFile.FieldType) ∈ zWS := zw_t 597 rfl rfl
set_option maxRecDepth 20000 in
theorem zw_305 : Jvm.Cond.instanceMethod ({ cls := "FourWayKernelModel", name := "forget", desc := "(II)V" } : Jvm.MethodName) ∈ zWS := zw_t 596 rfl rfl
theorem zw_306 : Jvm.Cond.selects "FourWayKernelModel" ({ cls := "FourWayKernelModel", name := "forget", desc := "(II)V" } : Jvm.MethodName) ({ cls := "FourWayKernelModel", name := "forget", desc := "(II)V" } : Jvm.MethodName) ∈ zWS := zw_s 25 rfl rfl
set_option maxRecDepth 20000 in
theorem zw_307 : Jvm.Cond.methodLink "FourWayKernelModel" (143 : Nat) ({ cls := "FourWayKernelModel", name := "currentOf", desc := "(I)I" } : Jvm.MethodName) ∈ zWS := zw_t 598 rfl rfl
set_option maxRecDepth 20000 in
theorem zw_308 : Jvm.Cond.code ({ cls := "FourWayKernelModel", name := "currentOf", desc := "(I)I" } : Jvm.MethodName) prog_8_method_15_code (4 : Nat) (Option.some Jvm.ClassFile.FieldType.int) ∈ zWS := zw_t 601 rfl rfl
set_option maxRecDepth 20000 in
theorem zw_309 : Jvm.Cond.instanceMethod ({ cls := "FourWayKernelModel", name := "currentOf", desc := "(I)I" } : Jvm.MethodName) ∈ zWS := zw_t 600 rfl rfl
theorem zw_310 : Jvm.Cond.selects "FourWayKernelModel" ({ cls := "FourWayKernelModel", name := "currentOf", desc := "(I)I" } : Jvm.MethodName) ({ cls := "FourWayKernelModel", name := "currentOf", desc := "(I)I" } : Jvm.MethodName) ∈ zWS := zw_s 26 rfl rfl
set_option maxRecDepth 20000 in
theorem zw_311 : Jvm.Cond.methodLink "FourWayKernelModel" (146 : Nat) ({ cls := "FourWayKernelModel", name := "act", desc := "(II)I" } : Jvm.MethodName) ∈ zWS := zw_t 602 rfl rfl
set_option maxRecDepth 20000 in
theorem zw_312 : Jvm.Cond.code ({ cls := "FourWayKernelModel", name := "act", desc := "(II)I" } : Jvm.MethodName) prog_8_method_24_code (9 : Nat) (Option.some Jvm.ClassFile.FieldType.int) ∈ zWS := zw_t 605 rfl rfl
set_option maxRecDepth 20000 in
theorem zw_313 : Jvm.Cond.instanceMethod ({ cls := "FourWayKernelModel", name := "act", desc := "(II)I" } : Jvm.MethodName) ∈ zWS := zw_t 604 rfl rfl
theorem zw_314 : Jvm.Cond.selects "FourWayKernelModel" ({ cls := "FourWayKernelModel", name := "act", desc := "(II)I" } : Jvm.MethodName) ({ cls := "FourWayKernelModel", name := "act", desc := "(II)I" } : Jvm.MethodName) ∈ zWS := zw_s 27 rfl rfl
set_option maxRecDepth 20000 in
theorem zw_315 : Jvm.Cond.methodLink "FourWayKernelModel" (149 : Nat) ({ cls := "FourWayKernelModel", name := "at", desc := "(II)I" } : Jvm.MethodName) ∈ zWS := zw_t 646 rfl rfl
set_option maxRecDepth 20000 in
theorem zw_316 : Jvm.Cond.code ({ cls := "FourWayKernelModel", name := "at", desc := "(II)I" } : Jvm.MethodName) prog_8_method_18_code (5 : Nat) (Option.some Jvm.ClassFile.FieldType.int) ∈ zWS := zw_t 649 rfl rfl
set_option maxRecDepth 20000 in
theorem zw_317 : Jvm.Cond.instanceMethod ({ cls := "FourWayKernelModel", name := "at", desc := "(II)I" } : Jvm.MethodName) ∈ zWS := zw_t 648 rfl rfl
theorem zw_318 : Jvm.Cond.selects "FourWayKernelModel" ({ cls := "FourWayKernelModel", name := "at", desc := "(II)I" } : Jvm.MethodName) ({ cls := "FourWayKernelModel", name := "at", desc := "(II)I" } : Jvm.MethodName) ∈ zWS := zw_s 38 rfl rfl
set_option maxRecDepth 20000 in
theorem zw_319 : Jvm.Cond.methodLink "FourWayKernelModel" (152 : Nat) ({ cls := "FourWayKernelModel", name := "run1", desc := "(II)V" } : Jvm.MethodName) ∈ zWS := zw_t 654 rfl rfl
set_option maxRecDepth 20000 in
theorem zw_320 : Jvm.Cond.code ({ cls := "FourWayKernelModel", name := "run1", desc := "(II)V" } : Jvm.MethodName) prog_8_method_20_code (3 : Nat) (Option.none : Option Jvm.ClassFile.FieldType) ∈ zWS := zw_t 657 rfl rfl
set_option maxRecDepth 20000 in
theorem zw_321 : Jvm.Cond.instanceMethod ({ cls := "FourWayKernelModel", name := "run1", desc := "(II)V" } : Jvm.MethodName) ∈ zWS := zw_t 656 rfl rfl
theorem zw_322 : Jvm.Cond.selects "FourWayKernelModel" ({ cls := "FourWayKernelModel", name := "run1", desc := "(II)V" } : Jvm.MethodName) ({ cls := "FourWayKernelModel", name := "run1", desc := "(II)V" } : Jvm.MethodName) ∈ zWS := zw_s 40 rfl rfl
set_option maxRecDepth 20000 in
theorem zw_323 : Jvm.Cond.methodLink "FourWayKernelModel" (155 : Nat) ({ cls := "FourWayKernelModel", name := "longest", desc := "()I" } : Jvm.MethodName) ∈ zWS := zw_t 658 rfl rfl
set_option maxRecDepth 20000 in
theorem zw_324 : Jvm.Cond.code ({ cls := "FourWayKernelModel", name := "longest", desc := "()I" } : Jvm.MethodName) prog_8_method_19_code (3 : Nat) (Option.some Jvm.ClassFile.FieldType.int) ∈ zWS := zw_t 661 rfl rfl
set_option maxRecDepth 20000 in
theorem zw_325 : Jvm.Cond.instanceMethod ({ cls := "FourWayKernelModel", name := "longest", desc := "()I" } : Jvm.MethodName) ∈ zWS := zw_t 660 rfl rfl
theorem zw_326 : Jvm.Cond.selects "FourWayKernelModel" ({ cls := "FourWayKernelModel", name := "longest", desc := "()I" } : Jvm.MethodName) ({ cls := "FourWayKernelModel", name := "longest", desc := "()I" } : Jvm.MethodName) ∈ zWS := zw_s 41 rfl rfl
set_option maxRecDepth 20000 in
theorem zw_327 : Jvm.Cond.methodLink "FourWayKernelModel" (158 : Nat) ({ cls := "FourWayKernelModel", name := "step", desc := "(I)I" } : Jvm.MethodName) ∈ zWS := zw_t 666 rfl rfl
set_option maxRecDepth 20000 in
theorem zw_328 : Jvm.Cond.code ({ cls := "FourWayKernelModel", name := "step", desc := "(I)I" } : Jvm.MethodName) prog_8_method_21_code (7 : Nat) (Option.some Jvm.ClassFile.FieldType.int) ∈ zWS := zw_t 593 rfl rfl
set_option maxRecDepth 20000 in
theorem zw_329 : Jvm.Cond.instanceMethod ({ cls := "FourWayKernelModel", name := "step", desc := "(I)I" } : Jvm.MethodName) ∈ zWS := zw_t 591 rfl rfl
set_option maxRecDepth 20000 in
theorem zw_330 : Jvm.Cond.selects "FourWayKernelModel" ({ cls := "FourWayKernelModel", name := "step", desc := "(I)I" } : Jvm.MethodName) ({ cls := "FourWayKernelModel", name := "step", desc := "(I)I" } : Jvm.MethodName) ∈ zWS := zw_t 592 rfl rfl
set_option maxRecDepth 20000 in
theorem zw_331 : Jvm.Cond.methodLink "FourWayKernelModel" (161 : Nat) ({ cls := "FourWayKernelModel", name := "access", desc := "(III)Z" } : Jvm.MethodName) ∈ zWS := zw_t 606 rfl rfl
set_option maxRecDepth 20000 in
theorem zw_332 : Jvm.Cond.code ({ cls := "FourWayKernelModel", name := "access", desc := "(III)Z" } : Jvm.MethodName) prog_8_method_26_code (8 : Nat) (Option.some Jvm.ClassFile.FieldType.boolean) ∈ zWS := zw_t 609 rfl rfl
set_option maxRecDepth 20000 in
theorem zw_333 : Jvm.Cond.instanceMethod ({ cls := "FourWayKernelModel", name := "access", desc := "(III)Z" } : Jvm.MethodName) ∈ zWS := zw_t 608 rfl rfl
theorem zw_334 : Jvm.Cond.selects "FourWayKernelModel" ({ cls := "FourWayKernelModel", name := "access", desc := "(III)Z" } : Jvm.MethodName) ({ cls := "FourWayKernelModel", name := "access", desc := "(III)Z" } : Jvm.MethodName) ∈ zWS := zw_s 28 rfl rfl
set_option maxRecDepth 20000 in
theorem zw_335 : Jvm.Cond.methodLink "FourWayKernelModel" (165 : Nat) ({ cls := "FourWayKernelModel", name := "change", desc := "(III)Z" } : Jvm.MethodName) ∈ zWS := zw_t 618 rfl rfl
set_option maxRecDepth 20000 in
theorem zw_336 : Jvm.Cond.code ({ cls := "FourWayKernelModel", name := "change", desc := "(III)Z" } : Jvm.MethodName) prog_8_method_30_code (5 : Nat) (Option.some Jvm.ClassFile.FieldType.boolean) ∈ zWS := zw_t 621 rfl rfl
set_option maxRecDepth 20000 in
theorem zw_337 : Jvm.Cond.instanceMethod ({ cls := "FourWayKernelModel", name := "change", desc := "(III)Z" } : Jvm.MethodName) ∈ zWS := zw_t 620 rfl rfl
theorem zw_338 : Jvm.Cond.selects "FourWayKernelModel" ({ cls := "FourWayKernelModel", name := "change", desc := "(III)Z" } : Jvm.MethodName) ({ cls := "FourWayKernelModel", name := "change", desc := "(III)Z" } : Jvm.MethodName) ∈ zWS := zw_s 31 rfl rfl
set_option maxRecDepth 20000 in
theorem zw_339 : Jvm.Cond.methodLink "FourWayKernelModel" (168 : Nat) ({ cls := "FourWayKernelModel", name := "shoot", desc := "(III)Z" } : Jvm.MethodName) ∈ zWS := zw_t 638 rfl rfl
set_option maxRecDepth 20000 in
theorem zw_340 : Jvm.Cond.code ({ cls := "FourWayKernelModel", name := "shoot", desc := "(III)Z" } : Jvm.MethodName) prog_8_method_33_code (5 : Nat) (Option.some Jvm.ClassFile.FieldType.boolean) ∈ zWS := zw_t 641 rfl rfl
set_option maxRecDepth 20000 in
theorem zw_341 : Jvm.Cond.instanceMethod ({ cls := "FourWayKernelModel", name := "shoot", desc := "(III)Z" } : Jvm.MethodName) ∈ zWS := zw_t 640 rfl rfl
theorem zw_342 : Jvm.Cond.selects "FourWayKernelModel" ({ cls := "FourWayKernelModel", name := "shoot", desc := "(III)Z" } : Jvm.MethodName) ({ cls := "FourWayKernelModel", name := "shoot", desc := "(III)Z" } : Jvm.MethodName) ∈ zWS := zw_s 36 rfl rfl
set_option maxRecDepth 20000 in
theorem zw_343 : Jvm.Cond.methodLink "FourWayKernelModel" (171 : Nat) ({ cls := "FourWayKernelModel", name := "end", desc := "(II)Z" } : Jvm.MethodName) ∈ zWS := zw_t 610 rfl rfl
set_option maxRecDepth 20000 in
theorem zw_344 : Jvm.Cond.code ({ cls := "FourWayKernelModel", name := "end", desc := "(II)Z" } : Jvm.MethodName) prog_8_method_25_code (3 : Nat) (Option.some Jvm.ClassFile.FieldType.boolean) ∈ zWS := zw_t 613 rfl rfl
set_option maxRecDepth 20000 in
theorem zw_345 : Jvm.Cond.instanceMethod ({ cls := "FourWayKernelModel", name := "end", desc := "(II)Z" } : Jvm.MethodName) ∈ zWS := zw_t 612 rfl rfl
theorem zw_346 : Jvm.Cond.selects "FourWayKernelModel" ({ cls := "FourWayKernelModel", name := "end", desc := "(II)Z" } : Jvm.MethodName) ({ cls := "FourWayKernelModel", name := "end", desc := "(II)Z" } : Jvm.MethodName) ∈ zWS := zw_s 29 rfl rfl
set_option maxRecDepth 20000 in
theorem zw_347 : Jvm.Cond.methodLink "FourWayKernelModel" (174 : Nat) ({ cls := "FourWayKernelModel", name := "know", desc := "(II)V" } : Jvm.MethodName) ∈ zWS := zw_t 614 rfl rfl
set_option maxRecDepth 20000 in
theorem zw_348 : Jvm.Cond.code ({ cls := "FourWayKernelModel", name := "know", desc := "(II)V" } : Jvm.MethodName) prog_8_method_27_code (6 : Nat) (Option.none : Option Jvm.ClassFile.FieldType) ∈ zWS := zw_t 617 rfl rfl
set_option maxRecDepth 20000 in
theorem zw_349 : Jvm.Cond.instanceMethod ({ cls := "FourWayKernelModel", name := "know", desc := "(II)V" } : Jvm.MethodName) ∈ zWS := zw_t 616 rfl rfl
theorem zw_350 : Jvm.Cond.selects "FourWayKernelModel" ({ cls := "FourWayKernelModel", name := "know", desc := "(II)V" } : Jvm.MethodName) ({ cls := "FourWayKernelModel", name := "know", desc := "(II)V" } : Jvm.MethodName) ∈ zWS := zw_s 30 rfl rfl
set_option maxRecDepth 20000 in
theorem zw_351 : Jvm.Cond.fieldLink "FourWayKernelModel" (177 : Nat) "FourWayKernelModel" "next" "I" ∈ zWS := zw_t 458 rfl rfl
set_option maxRecDepth 20000 in
theorem zw_352 : Jvm.Cond.fieldLink "FourWayKernelModel" (180 : Nat) "FourWayKernelModel" "serving" "I" ∈ zWS := zw_t 459 rfl rfl
set_option maxRecDepth 20000 in
theorem zw_353 : Jvm.Cond.methodLink "FourWayKernelModel" (183 : Nat) ({ cls := "FourWayKernelModel", name := "some", desc := "(I)Z" } : Jvm.MethodName) ∈ zWS := zw_t 622 rfl rfl
set_option maxRecDepth 20000 in
theorem zw_354 : Jvm.Cond.code ({ cls := "FourWayKernelModel", name := "some", desc := "(I)Z" } : Jvm.MethodName) prog_8_method_29_code (4 : Nat) (Option.some Jvm.ClassFile.FieldType.boolean) ∈ zWS := zw_t 625 rfl rfl
set_option maxRecDepth 20000 in
theorem zw_355 : Jvm.Cond.instanceMethod ({ cls := "FourWayKernelModel", name := "some", desc := "(I)Z" } : Jvm.MethodName) ∈ zWS := zw_t 624 rfl rfl
theorem zw_356 : Jvm.Cond.selects "FourWayKernelModel" ({ cls := "FourWayKernelModel", name := "some", desc := "(I)Z" } : Jvm.MethodName) ({ cls := "FourWayKernelModel", name := "some", desc := "(I)Z" } : Jvm.MethodName) ∈ zWS := zw_s 32 rfl rfl
set_option maxRecDepth 20000 in
theorem zw_357 : Jvm.Cond.methodLink "FourWayKernelModel" (186 : Nat) ({ cls := "FourWayKernelModel", name := "framesAt", desc := "(I)I" } : Jvm.MethodName) ∈ zWS := zw_t 626 rfl rfl
set_option maxRecDepth 20000 in
theorem zw_358 : Jvm.Cond.code ({ cls := "FourWayKernelModel", name := "framesAt", desc := "(I)I" } : Jvm.MethodName) prog_8_method_28_code (4 : Nat) (Option.some Jvm.ClassFile.FieldType.int) ∈ zWS := zw_t 629 rfl rfl
set_option maxRecDepth 20000 in
theorem zw_359 : Jvm.Cond.instanceMethod ({ cls := "FourWayKernelModel", name := "framesAt", desc := "(I)I" } : Jvm.MethodName) ∈ zWS := zw_t 628 rfl rfl
theorem zw_360 : Jvm.Cond.selects "FourWayKernelModel" ({ cls := "FourWayKernelModel", name := "framesAt", desc := "(I)I" } : Jvm.MethodName) ({ cls := "FourWayKernelModel", name := "framesAt", desc := "(I)I" } : Jvm.MethodName) ∈ zWS := zw_s 33 rfl rfl
set_option maxRecDepth 20000 in
theorem zw_361 : Jvm.Cond.methodLink "FourWayKernelModel" (189 : Nat) ({ cls := "FourWayKernelModel", name := "changed", desc := "(IIII)Z" } : Jvm.MethodName) ∈ zWS := zw_t 630 rfl rfl
set_option maxRecDepth 20000 in
theorem zw_362 : Jvm.Cond.code ({ cls := "FourWayKernelModel", name := "changed", desc := "(IIII)Z" } : Jvm.MethodName) prog_8_method_32_code (6 : Nat) (Option.some Jvm.ClassFile.FieldType.boolean) ∈ zWS := zw_t 633 rfl rfl
set_option maxRecDepth 20000 in
theorem zw_363 : Jvm.Cond.instanceMethod ({ cls := "FourWayKernelModel", name := "changed", desc := "(IIII)Z" } : Jvm.MethodName) ∈ zWS := zw_t 632 rfl rfl
theorem zw_364 : Jvm.Cond.selects "FourWayKernelModel" ({ cls := "FourWayKernelModel", name := "changed", desc := "(IIII)Z" } : Jvm.MethodName) ({ cls := "FourWayKernelModel", name := "changed", desc := "(IIII)Z" } : Jvm.MethodName) ∈ zWS := zw_s 34 rfl rfl
set_option maxRecDepth 20000 in
theorem zw_365 : Jvm.Cond.methodLink "FourWayKernelModel" (193 : Nat) ({ cls := "FourWayKernelModel", name := "frameFor", desc := "(I)I" } : Jvm.MethodName) ∈ zWS := zw_t 634 rfl rfl
set_option maxRecDepth 20000 in
theorem zw_366 : Jvm.Cond.code ({ cls := "FourWayKernelModel", name := "frameFor", desc := "(I)I" } : Jvm.MethodName) prog_8_method_31_code (4 : Nat) (Option.some Jvm.ClassFile.FieldType.int) ∈ zWS := zw_t 637 rfl rfl
set_option maxRecDepth 20000 in
theorem zw_367 : Jvm.Cond.instanceMethod ({ cls := "FourWayKernelModel", name := "frameFor", desc := "(I)I" } : Jvm.MethodName) ∈ zWS := zw_t 636 rfl rfl
theorem zw_368 : Jvm.Cond.selects "FourWayKernelModel" ({ cls := "FourWayKernelModel", name := "frameFor", desc := "(I)I" } : Jvm.MethodName) ({ cls := "FourWayKernelModel", name := "frameFor", desc := "(I)I" } : Jvm.MethodName) ∈ zWS := zw_s 35 rfl rfl
set_option maxRecDepth 20000 in
theorem zw_369 : Jvm.Cond.methodLink "FourWayKernelModel" (196 : Nat) ({ cls := "FourWayKernelModel", name := "current", desc := "(I)I" } : Jvm.MethodName) ∈ zWS := zw_t 679 rfl rfl
set_option maxRecDepth 20000 in
theorem zw_370 : Jvm.Cond.code ({ cls := "FourWayKernelModel", name := "current", desc := "(I)I" } : Jvm.MethodName) prog_8_method_35_code (2 : Nat) (Option.some Jvm.ClassFile.FieldType.int) ∈ zWS := zw_t 674 rfl rfl
set_option maxRecDepth 20000 in
theorem zw_371 : Jvm.Cond.instanceMethod ({ cls := "FourWayKernelModel", name := "current", desc := "(I)I" } : Jvm.MethodName) ∈ zWS := zw_t 672 rfl rfl
set_option maxRecDepth 20000 in
theorem zw_372 : Jvm.Cond.selects "FourWayKernelModel" ({ cls := "FourWayKernelModel", name := "current", desc := "(I)I" } : Jvm.MethodName) ({ cls := "FourWayKernelModel", name := "current", desc := "(I)I" } : Jvm.MethodName) ∈ zWS := zw_t 673 rfl rfl
theorem zw_373 : Jvm.Cond.classLink "FourWayKernelLaw" (7 : Nat) "FourWayKernel" ∈ zWS := zw_t 8 rfl rfl
theorem zw_374 : Jvm.Cond.instantiable "FourWayKernel" (10 : Nat) ∈ zWS := zw_t 9 rfl rfl
theorem zw_375 : Jvm.Cond.methodLink "FourWayKernelLaw" (9 : Nat) ({ cls := "FourWayKernel", name := "<init>", desc := "()V" } : Jvm.MethodName) ∈ zWS := zw_t 10 rfl rfl
theorem zw_376 : Jvm.Cond.code ({ cls := "FourWayKernel", name := "<init>", desc := "()V" } : Jvm.MethodName) prog_1_method_1_code (2 : Nat) (Option.none : Option Jvm.ClassFile.FieldType) ∈ zWS := zw_t 12 rfl rfl
theorem zw_377 : Jvm.Cond.instanceMethod ({ cls := "FourWayKernel", name := "<init>", desc := "()V" } : Jvm.MethodName) ∈ zWS := zw_t 11 rfl rfl
set_option maxRecDepth 20000 in
theorem zw_378 : Jvm.Cond.classLink "FourWayKernelLaw" (10 : Nat) "FourWayKernelModel" ∈ zWS := zw_t 432 rfl rfl
set_option maxRecDepth 20000 in
theorem zw_379 : Jvm.Cond.instantiable "FourWayKernelModel" (34 : Nat) ∈ zWS := zw_t 433 rfl rfl
set_option maxRecDepth 20000 in
theorem zw_380 : Jvm.Cond.methodLink "FourWayKernelLaw" (12 : Nat) ({ cls := "FourWayKernelModel", name := "<init>", desc := "()V" } : Jvm.MethodName) ∈ zWS := zw_t 434 rfl rfl
set_option maxRecDepth 20000 in
theorem zw_381 : Jvm.Cond.code ({ cls := "FourWayKernelModel", name := "<init>", desc := "()V" } : Jvm.MethodName) prog_8_method_1_code (2 : Nat) (Option.none : Option Jvm.ClassFile.FieldType) ∈ zWS := zw_t 436 rfl rfl
set_option maxRecDepth 20000 in
theorem zw_382 : Jvm.Cond.instanceMethod ({ cls := "FourWayKernelModel", name := "<init>", desc := "()V" } : Jvm.MethodName) ∈ zWS := zw_t 435 rfl rfl
theorem zw_383 : Jvm.Cond.methodLink "FourWayKernelLaw" (13 : Nat) ({ cls := "FourWayKernel", name := "thread", desc := "(I)I" } : Jvm.MethodName) ∈ zWS := zw_t 119 rfl rfl
theorem zw_384 : Jvm.Cond.code ({ cls := "FourWayKernel", name := "thread", desc := "(I)I" } : Jvm.MethodName) prog_1_method_2_code (3 : Nat) (Option.some Jvm.ClassFile.FieldType.int) ∈ zWS := zw_t 122 rfl rfl
theorem zw_385 : Jvm.Cond.instanceMethod ({ cls := "FourWayKernel", name := "thread", desc := "(I)I" } : Jvm.MethodName) ∈ zWS := zw_t 120 rfl rfl
theorem zw_386 : Jvm.Cond.selects "FourWayKernel" ({ cls := "FourWayKernel", name := "thread", desc := "(I)I" } : Jvm.MethodName) ({ cls := "FourWayKernel", name := "thread", desc := "(I)I" } : Jvm.MethodName) ∈ zWS := zw_t 121 rfl rfl
set_option maxRecDepth 20000 in
theorem zw_387 : Jvm.Cond.methodLink "FourWayKernelLaw" (17 : Nat) ({ cls := "FourWayKernelModel", name := "thread", desc := "(I)I" } : Jvm.MethodName) ∈ zWS := zw_t 541 rfl rfl
set_option maxRecDepth 20000 in
theorem zw_388 : Jvm.Cond.code ({ cls := "FourWayKernelModel", name := "thread", desc := "(I)I" } : Jvm.MethodName) prog_8_method_4_code (2 : Nat) (Option.some Jvm.ClassFile.FieldType.int) ∈ zWS := zw_t 544 rfl rfl
set_option maxRecDepth 20000 in
theorem zw_389 : Jvm.Cond.instanceMethod ({ cls := "FourWayKernelModel", name := "thread", desc := "(I)I" } : Jvm.MethodName) ∈ zWS := zw_t 542 rfl rfl
set_option maxRecDepth 20000 in
theorem zw_390 : Jvm.Cond.selects "FourWayKernelModel" ({ cls := "FourWayKernelModel", name := "thread", desc := "(I)I" } : Jvm.MethodName) ({ cls := "FourWayKernelModel", name := "thread", desc := "(I)I" } : Jvm.MethodName) ∈ zWS := zw_t 543 rfl rfl
theorem zw_391 : Jvm.Cond.methodLink "FourWayKernelLaw" (18 : Nat) ({ cls := "FourWayKernel", name := "load", desc := "(II)I" } : Jvm.MethodName) ∈ zWS := zw_t 179 rfl rfl
theorem zw_392 : Jvm.Cond.code ({ cls := "FourWayKernel", name := "load", desc := "(II)I" } : Jvm.MethodName) prog_1_method_3_code (3 : Nat) (Option.some Jvm.ClassFile.FieldType.int) ∈ zWS := zw_t 182 rfl rfl
theorem zw_393 : Jvm.Cond.instanceMethod ({ cls := "FourWayKernel", name := "load", desc := "(II)I" } : Jvm.MethodName) ∈ zWS := zw_t 180 rfl rfl
theorem zw_394 : Jvm.Cond.selects "FourWayKernel" ({ cls := "FourWayKernel", name := "load", desc := "(II)I" } : Jvm.MethodName) ({ cls := "FourWayKernel", name := "load", desc := "(II)I" } : Jvm.MethodName) ∈ zWS := zw_t 181 rfl rfl
set_option maxRecDepth 20000 in
theorem zw_395 : Jvm.Cond.methodLink "FourWayKernelLaw" (22 : Nat) ({ cls := "FourWayKernelModel", name := "load", desc := "(II)I" } : Jvm.MethodName) ∈ zWS := zw_t 548 rfl rfl
set_option maxRecDepth 20000 in
theorem zw_396 : Jvm.Cond.code ({ cls := "FourWayKernelModel", name := "load", desc := "(II)I" } : Jvm.MethodName) prog_8_method_9_code (3 : Nat) (Option.some Jvm.ClassFile.FieldType.int) ∈ zWS := zw_t 551 rfl rfl
set_option maxRecDepth 20000 in
theorem zw_397 : Jvm.Cond.instanceMethod ({ cls := "FourWayKernelModel", name := "load", desc := "(II)I" } : Jvm.MethodName) ∈ zWS := zw_t 549 rfl rfl
set_option maxRecDepth 20000 in
theorem zw_398 : Jvm.Cond.selects "FourWayKernelModel" ({ cls := "FourWayKernelModel", name := "load", desc := "(II)I" } : Jvm.MethodName) ({ cls := "FourWayKernelModel", name := "load", desc := "(II)I" } : Jvm.MethodName) ∈ zWS := zw_t 550 rfl rfl
theorem zw_399 : Jvm.Cond.methodLink "FourWayKernelLaw" (23 : Nat) ({ cls := "FourWayKernel", name := "store", desc := "(III)I" } : Jvm.MethodName) ∈ zWS := zw_t 243 rfl rfl
theorem zw_400 : Jvm.Cond.code ({ cls := "FourWayKernel", name := "store", desc := "(III)I" } : Jvm.MethodName) prog_1_method_4_code (5 : Nat) (Option.some Jvm.ClassFile.FieldType.int) ∈ zWS := zw_t 246 rfl rfl
theorem zw_401 : Jvm.Cond.instanceMethod ({ cls := "FourWayKernel", name := "store", desc := "(III)I" } : Jvm.MethodName) ∈ zWS := zw_t 244 rfl rfl
theorem zw_402 : Jvm.Cond.selects "FourWayKernel" ({ cls := "FourWayKernel", name := "store", desc := "(III)I" } : Jvm.MethodName) ({ cls := "FourWayKernel", name := "store", desc := "(III)I" } : Jvm.MethodName) ∈ zWS := zw_t 245 rfl rfl
set_option maxRecDepth 20000 in
theorem zw_403 : Jvm.Cond.methodLink "FourWayKernelLaw" (27 : Nat) ({ cls := "FourWayKernelModel", name := "store", desc := "(III)I" } : Jvm.MethodName) ∈ zWS := zw_t 567 rfl rfl
set_option maxRecDepth 20000 in
theorem zw_404 : Jvm.Cond.code ({ cls := "FourWayKernelModel", name := "store", desc := "(III)I" } : Jvm.MethodName) prog_8_method_10_code (4 : Nat) (Option.some Jvm.ClassFile.FieldType.int) ∈ zWS := zw_t 570 rfl rfl
set_option maxRecDepth 20000 in
theorem zw_405 : Jvm.Cond.instanceMethod ({ cls := "FourWayKernelModel", name := "store", desc := "(III)I" } : Jvm.MethodName) ∈ zWS := zw_t 568 rfl rfl
set_option maxRecDepth 20000 in
theorem zw_406 : Jvm.Cond.selects "FourWayKernelModel" ({ cls := "FourWayKernelModel", name := "store", desc := "(III)I" } : Jvm.MethodName) ({ cls := "FourWayKernelModel", name := "store", desc := "(III)I" } : Jvm.MethodName) ∈ zWS := zw_t 569 rfl rfl
theorem zw_407 : Jvm.Cond.methodLink "FourWayKernelLaw" (28 : Nat) ({ cls := "FourWayKernel", name := "map", desc := "(IIIZ)I" } : Jvm.MethodName) ∈ zWS := zw_t 247 rfl rfl
theorem zw_408 : Jvm.Cond.code ({ cls := "FourWayKernel", name := "map", desc := "(IIIZ)I" } : Jvm.MethodName) prog_1_method_5_code (5 : Nat) (Option.some Jvm.ClassFile.FieldType.int) ∈ zWS := zw_t 250 rfl rfl
theorem zw_409 : Jvm.Cond.instanceMethod ({ cls := "FourWayKernel", name := "map", desc := "(IIIZ)I" } : Jvm.MethodName) ∈ zWS := zw_t 248 rfl rfl
theorem zw_410 : Jvm.Cond.selects "FourWayKernel" ({ cls := "FourWayKernel", name := "map", desc := "(IIIZ)I" } : Jvm.MethodName) ({ cls := "FourWayKernel", name := "map", desc := "(IIIZ)I" } : Jvm.MethodName) ∈ zWS := zw_t 249 rfl rfl
set_option maxRecDepth 20000 in
theorem zw_411 : Jvm.Cond.methodLink "FourWayKernelLaw" (32 : Nat) ({ cls := "FourWayKernelModel", name := "map", desc := "(IIIZ)I" } : Jvm.MethodName) ∈ zWS := zw_t 571 rfl rfl
set_option maxRecDepth 20000 in
theorem zw_412 : Jvm.Cond.code ({ cls := "FourWayKernelModel", name := "map", desc := "(IIIZ)I" } : Jvm.MethodName) prog_8_method_11_code (5 : Nat) (Option.some Jvm.ClassFile.FieldType.int) ∈ zWS := zw_t 574 rfl rfl
set_option maxRecDepth 20000 in
theorem zw_413 : Jvm.Cond.instanceMethod ({ cls := "FourWayKernelModel", name := "map", desc := "(IIIZ)I" } : Jvm.MethodName) ∈ zWS := zw_t 572 rfl rfl
set_option maxRecDepth 20000 in
theorem zw_414 : Jvm.Cond.selects "FourWayKernelModel" ({ cls := "FourWayKernelModel", name := "map", desc := "(IIIZ)I" } : Jvm.MethodName) ({ cls := "FourWayKernelModel", name := "map", desc := "(IIIZ)I" } : Jvm.MethodName) ∈ zWS := zw_t 573 rfl rfl
theorem zw_415 : Jvm.Cond.methodLink "FourWayKernelLaw" (33 : Nat) ({ cls := "FourWayKernel", name := "unmap", desc := "(III)I" } : Jvm.MethodName) ∈ zWS := zw_t 251 rfl rfl
theorem zw_416 : Jvm.Cond.code ({ cls := "FourWayKernel", name := "unmap", desc := "(III)I" } : Jvm.MethodName) prog_1_method_6_code (4 : Nat) (Option.some Jvm.ClassFile.FieldType.int) ∈ zWS := zw_t 254 rfl rfl
theorem zw_417 : Jvm.Cond.instanceMethod ({ cls := "FourWayKernel", name := "unmap", desc := "(III)I" } : Jvm.MethodName) ∈ zWS := zw_t 252 rfl rfl
theorem zw_418 : Jvm.Cond.selects "FourWayKernel" ({ cls := "FourWayKernel", name := "unmap", desc := "(III)I" } : Jvm.MethodName) ({ cls := "FourWayKernel", name := "unmap", desc := "(III)I" } : Jvm.MethodName) ∈ zWS := zw_t 253 rfl rfl
set_option maxRecDepth 20000 in
theorem zw_419 : Jvm.Cond.methodLink "FourWayKernelLaw" (36 : Nat) ({ cls := "FourWayKernelModel", name := "unmap", desc := "(III)I" } : Jvm.MethodName) ∈ zWS := zw_t 578 rfl rfl
set_option maxRecDepth 20000 in
theorem zw_420 : Jvm.Cond.code ({ cls := "FourWayKernelModel", name := "unmap", desc := "(III)I" } : Jvm.MethodName) prog_8_method_12_code (4 : Nat) (Option.some Jvm.ClassFile.FieldType.int) ∈ zWS := zw_t 581 rfl rfl
set_option maxRecDepth 20000 in
theorem zw_421 : Jvm.Cond.instanceMethod ({ cls := "FourWayKernelModel", name := "unmap", desc := "(III)I" } : Jvm.MethodName) ∈ zWS := zw_t 579 rfl rfl
set_option maxRecDepth 20000 in
theorem zw_422 : Jvm.Cond.selects "FourWayKernelModel" ({ cls := "FourWayKernelModel", name := "unmap", desc := "(III)I" } : Jvm.MethodName) ({ cls := "FourWayKernelModel", name := "unmap", desc := "(III)I" } : Jvm.MethodName) ∈ zWS := zw_t 580 rfl rfl
theorem zw_423 : Jvm.Cond.methodLink "FourWayKernelLaw" (37 : Nat) ({ cls := "FourWayKernel", name := "protect", desc := "(III)I" } : Jvm.MethodName) ∈ zWS := zw_t 255 rfl rfl
theorem zw_424 : Jvm.Cond.code ({ cls := "FourWayKernel", name := "protect", desc := "(III)I" } : Jvm.MethodName) prog_1_method_7_code (4 : Nat) (Option.some Jvm.ClassFile.FieldType.int) ∈ zWS := zw_t 258 rfl rfl
theorem zw_425 : Jvm.Cond.instanceMethod ({ cls := "FourWayKernel", name := "protect", desc := "(III)I" } : Jvm.MethodName) ∈ zWS := zw_t 256 rfl rfl
theorem zw_426 : Jvm.Cond.selects "FourWayKernel" ({ cls := "FourWayKernel", name := "protect", desc := "(III)I" } : Jvm.MethodName) ({ cls := "FourWayKernel", name := "protect", desc := "(III)I" } : Jvm.MethodName) ∈ zWS := zw_t 257 rfl rfl
set_option maxRecDepth 20000 in
theorem zw_427 : Jvm.Cond.methodLink "FourWayKernelLaw" (40 : Nat) ({ cls := "FourWayKernelModel", name := "protect", desc := "(III)I" } : Jvm.MethodName) ∈ zWS := zw_t 582 rfl rfl
set_option maxRecDepth 20000 in
theorem zw_428 : Jvm.Cond.code ({ cls := "FourWayKernelModel", name := "protect", desc := "(III)I" } : Jvm.MethodName) prog_8_method_13_code (4 : Nat) (Option.some Jvm.ClassFile.FieldType.int) ∈ zWS := zw_t 585 rfl rfl
set_option maxRecDepth 20000 in
theorem zw_429 : Jvm.Cond.instanceMethod ({ cls := "FourWayKernelModel", name := "protect", desc := "(III)I" } : Jvm.MethodName) ∈ zWS := zw_t 583 rfl rfl
set_option maxRecDepth 20000 in
theorem zw_430 : Jvm.Cond.selects "FourWayKernelModel" ({ cls := "FourWayKernelModel", name := "protect", desc := "(III)I" } : Jvm.MethodName) ({ cls := "FourWayKernelModel", name := "protect", desc := "(III)I" } : Jvm.MethodName) ∈ zWS := zw_t 584 rfl rfl
theorem zw_431 : Jvm.Cond.methodLink "FourWayKernelLaw" (41 : Nat) ({ cls := "FourWayKernel", name := "move", desc := "(II)I" } : Jvm.MethodName) ∈ zWS := zw_t 259 rfl rfl
theorem zw_432 : Jvm.Cond.code ({ cls := "FourWayKernel", name := "move", desc := "(II)I" } : Jvm.MethodName) prog_1_method_8_code (3 : Nat) (Option.some Jvm.ClassFile.FieldType.int) ∈ zWS := zw_t 262 rfl rfl
theorem zw_433 : Jvm.Cond.instanceMethod ({ cls := "FourWayKernel", name := "move", desc := "(II)I" } : Jvm.MethodName) ∈ zWS := zw_t 260 rfl rfl
theorem zw_434 : Jvm.Cond.selects "FourWayKernel" ({ cls := "FourWayKernel", name := "move", desc := "(II)I" } : Jvm.MethodName) ({ cls := "FourWayKernel", name := "move", desc := "(II)I" } : Jvm.MethodName) ∈ zWS := zw_t 261 rfl rfl
set_option maxRecDepth 20000 in
theorem zw_435 : Jvm.Cond.methodLink "FourWayKernelLaw" (44 : Nat) ({ cls := "FourWayKernelModel", name := "move", desc := "(II)I" } : Jvm.MethodName) ∈ zWS := zw_t 586 rfl rfl
set_option maxRecDepth 20000 in
theorem zw_436 : Jvm.Cond.code ({ cls := "FourWayKernelModel", name := "move", desc := "(II)I" } : Jvm.MethodName) prog_8_method_14_code (3 : Nat) (Option.some Jvm.ClassFile.FieldType.int) ∈ zWS := zw_t 589 rfl rfl
set_option maxRecDepth 20000 in
theorem zw_437 : Jvm.Cond.instanceMethod ({ cls := "FourWayKernelModel", name := "move", desc := "(II)I" } : Jvm.MethodName) ∈ zWS := zw_t 587 rfl rfl
set_option maxRecDepth 20000 in
theorem zw_438 : Jvm.Cond.selects "FourWayKernelModel" ({ cls := "FourWayKernelModel", name := "move", desc := "(II)I" } : Jvm.MethodName) ({ cls := "FourWayKernelModel", name := "move", desc := "(II)I" } : Jvm.MethodName) ∈ zWS := zw_t 588 rfl rfl
theorem zw_439 : Jvm.Cond.methodLink "FourWayKernelLaw" (45 : Nat) ({ cls := "FourWayKernel", name := "step", desc := "(I)I" } : Jvm.MethodName) ∈ zWS := zw_t 263 rfl rfl
theorem zw_440 : Jvm.Cond.code ({ cls := "FourWayKernel", name := "step", desc := "(I)I" } : Jvm.MethodName) prog_1_method_9_code (2 : Nat) (Option.some Jvm.ClassFile.FieldType.int) ∈ zWS := zw_t 266 rfl rfl
theorem zw_441 : Jvm.Cond.instanceMethod ({ cls := "FourWayKernel", name := "step", desc := "(I)I" } : Jvm.MethodName) ∈ zWS := zw_t 264 rfl rfl
theorem zw_442 : Jvm.Cond.selects "FourWayKernel" ({ cls := "FourWayKernel", name := "step", desc := "(I)I" } : Jvm.MethodName) ({ cls := "FourWayKernel", name := "step", desc := "(I)I" } : Jvm.MethodName) ∈ zWS := zw_t 265 rfl rfl
set_option maxRecDepth 20000 in
theorem zw_443 : Jvm.Cond.methodLink "FourWayKernelLaw" (48 : Nat) ({ cls := "FourWayKernelModel", name := "step", desc := "(I)I" } : Jvm.MethodName) ∈ zWS := zw_t 590 rfl rfl
theorem zw_444 : Jvm.Cond.methodLink "FourWayKernelLaw" (49 : Nat) ({ cls := "FourWayKernel", name := "run", desc := "(II)I" } : Jvm.MethodName) ∈ zWS := zw_t 375 rfl rfl
theorem zw_445 : Jvm.Cond.code ({ cls := "FourWayKernel", name := "run", desc := "(II)I" } : Jvm.MethodName) prog_1_method_10_code (6 : Nat) (Option.some Jvm.ClassFile.FieldType.int) ∈ zWS := zw_t 378 rfl rfl
theorem zw_446 : Jvm.Cond.instanceMethod ({ cls := "FourWayKernel", name := "run", desc := "(II)I" } : Jvm.MethodName) ∈ zWS := zw_t 376 rfl rfl
theorem zw_447 : Jvm.Cond.selects "FourWayKernel" ({ cls := "FourWayKernel", name := "run", desc := "(II)I" } : Jvm.MethodName) ({ cls := "FourWayKernel", name := "run", desc := "(II)I" } : Jvm.MethodName) ∈ zWS := zw_t 377 rfl rfl
set_option maxRecDepth 20000 in
theorem zw_448 : Jvm.Cond.methodLink "FourWayKernelLaw" (52 : Nat) ({ cls := "FourWayKernelModel", name := "run", desc := "(II)I" } : Jvm.MethodName) ∈ zWS := zw_t 662 rfl rfl
set_option maxRecDepth 20000 in
theorem zw_449 : Jvm.Cond.code ({ cls := "FourWayKernelModel", name := "run", desc := "(II)I" } : Jvm.MethodName) prog_8_method_22_code (6 : Nat) (Option.some Jvm.ClassFile.FieldType.int) ∈ zWS := zw_t 665 rfl rfl
set_option maxRecDepth 20000 in
theorem zw_450 : Jvm.Cond.instanceMethod ({ cls := "FourWayKernelModel", name := "run", desc := "(II)I" } : Jvm.MethodName) ∈ zWS := zw_t 663 rfl rfl
set_option maxRecDepth 20000 in
theorem zw_451 : Jvm.Cond.selects "FourWayKernelModel" ({ cls := "FourWayKernelModel", name := "run", desc := "(II)I" } : Jvm.MethodName) ({ cls := "FourWayKernelModel", name := "run", desc := "(II)I" } : Jvm.MethodName) ∈ zWS := zw_t 664 rfl rfl
theorem zw_452 : Jvm.Cond.methodLink "FourWayKernelLaw" (53 : Nat) ({ cls := "FourWayKernel", name := "result", desc := "(II)I" } : Jvm.MethodName) ∈ zWS := zw_t 379 rfl rfl
theorem zw_453 : Jvm.Cond.code ({ cls := "FourWayKernel", name := "result", desc := "(II)I" } : Jvm.MethodName) prog_1_method_11_code (4 : Nat) (Option.some Jvm.ClassFile.FieldType.int) ∈ zWS := zw_t 382 rfl rfl
theorem zw_454 : Jvm.Cond.instanceMethod ({ cls := "FourWayKernel", name := "result", desc := "(II)I" } : Jvm.MethodName) ∈ zWS := zw_t 380 rfl rfl
theorem zw_455 : Jvm.Cond.selects "FourWayKernel" ({ cls := "FourWayKernel", name := "result", desc := "(II)I" } : Jvm.MethodName) ({ cls := "FourWayKernel", name := "result", desc := "(II)I" } : Jvm.MethodName) ∈ zWS := zw_t 381 rfl rfl
set_option maxRecDepth 20000 in
theorem zw_456 : Jvm.Cond.methodLink "FourWayKernelLaw" (56 : Nat) ({ cls := "FourWayKernelModel", name := "result", desc := "(II)I" } : Jvm.MethodName) ∈ zWS := zw_t 667 rfl rfl
set_option maxRecDepth 20000 in
theorem zw_457 : Jvm.Cond.code ({ cls := "FourWayKernelModel", name := "result", desc := "(II)I" } : Jvm.MethodName) prog_8_method_34_code (3 : Nat) (Option.some Jvm.ClassFile.FieldType.int) ∈ zWS := zw_t 670 rfl rfl
set_option maxRecDepth 20000 in
theorem zw_458 : Jvm.Cond.instanceMethod ({ cls := "FourWayKernelModel", name := "result", desc := "(II)I" } : Jvm.MethodName) ∈ zWS := zw_t 668 rfl rfl
set_option maxRecDepth 20000 in
theorem zw_459 : Jvm.Cond.selects "FourWayKernelModel" ({ cls := "FourWayKernelModel", name := "result", desc := "(II)I" } : Jvm.MethodName) ({ cls := "FourWayKernelModel", name := "result", desc := "(II)I" } : Jvm.MethodName) ∈ zWS := zw_t 669 rfl rfl
theorem zw_460 : Jvm.Cond.methodLink "FourWayKernelLaw" (57 : Nat) ({ cls := "FourWayKernel", name := "current", desc := "(I)I" } : Jvm.MethodName) ∈ zWS := zw_t 387 rfl rfl
set_option maxRecDepth 20000 in
theorem zw_461 : Jvm.Cond.methodLink "FourWayKernelLaw" (60 : Nat) ({ cls := "FourWayKernelModel", name := "current", desc := "(I)I" } : Jvm.MethodName) ∈ zWS := zw_t 671 rfl rfl
theorem zw_462 : Jvm.Cond.methodLink "FourWayKernelLaw" (61 : Nat) ({ cls := "FourWayKernel", name := "phase", desc := "(I)I" } : Jvm.MethodName) ∈ zWS := zw_t 391 rfl rfl
theorem zw_463 : Jvm.Cond.code ({ cls := "FourWayKernel", name := "phase", desc := "(I)I" } : Jvm.MethodName) prog_1_method_13_code (3 : Nat) (Option.some Jvm.ClassFile.FieldType.int) ∈ zWS := zw_t 394 rfl rfl
theorem zw_464 : Jvm.Cond.instanceMethod ({ cls := "FourWayKernel", name := "phase", desc := "(I)I" } : Jvm.MethodName) ∈ zWS := zw_t 392 rfl rfl
theorem zw_465 : Jvm.Cond.selects "FourWayKernel" ({ cls := "FourWayKernel", name := "phase", desc := "(I)I" } : Jvm.MethodName) ({ cls := "FourWayKernel", name := "phase", desc := "(I)I" } : Jvm.MethodName) ∈ zWS := zw_t 393 rfl rfl
set_option maxRecDepth 20000 in
theorem zw_466 : Jvm.Cond.methodLink "FourWayKernelLaw" (64 : Nat) ({ cls := "FourWayKernelModel", name := "phase", desc := "(I)I" } : Jvm.MethodName) ∈ zWS := zw_t 675 rfl rfl
set_option maxRecDepth 20000 in
theorem zw_467 : Jvm.Cond.code ({ cls := "FourWayKernelModel", name := "phase", desc := "(I)I" } : Jvm.MethodName) prog_8_method_36_code (3 : Nat) (Option.some Jvm.ClassFile.FieldType.int) ∈ zWS := zw_t 678 rfl rfl
set_option maxRecDepth 20000 in
theorem zw_468 : Jvm.Cond.instanceMethod ({ cls := "FourWayKernelModel", name := "phase", desc := "(I)I" } : Jvm.MethodName) ∈ zWS := zw_t 676 rfl rfl
set_option maxRecDepth 20000 in
theorem zw_469 : Jvm.Cond.selects "FourWayKernelModel" ({ cls := "FourWayKernelModel", name := "phase", desc := "(I)I" } : Jvm.MethodName) ({ cls := "FourWayKernelModel", name := "phase", desc := "(I)I" } : Jvm.MethodName) ∈ zWS := zw_t 677 rfl rfl
theorem zw_470 : Jvm.Cond.methodLink "FourWayKernelLaw" (65 : Nat) ({ cls := "FourWayKernel", name := "queued", desc := "(II)I" } : Jvm.MethodName) ∈ zWS := zw_t 396 rfl rfl
theorem zw_471 : Jvm.Cond.code ({ cls := "FourWayKernel", name := "queued", desc := "(II)I" } : Jvm.MethodName) prog_1_method_14_code (3 : Nat) (Option.some Jvm.ClassFile.FieldType.int) ∈ zWS := zw_t 399 rfl rfl
theorem zw_472 : Jvm.Cond.instanceMethod ({ cls := "FourWayKernel", name := "queued", desc := "(II)I" } : Jvm.MethodName) ∈ zWS := zw_t 397 rfl rfl
theorem zw_473 : Jvm.Cond.selects "FourWayKernel" ({ cls := "FourWayKernel", name := "queued", desc := "(II)I" } : Jvm.MethodName) ({ cls := "FourWayKernel", name := "queued", desc := "(II)I" } : Jvm.MethodName) ∈ zWS := zw_t 398 rfl rfl
set_option maxRecDepth 20000 in
theorem zw_474 : Jvm.Cond.methodLink "FourWayKernelLaw" (68 : Nat) ({ cls := "FourWayKernelModel", name := "queued", desc := "(II)I" } : Jvm.MethodName) ∈ zWS := zw_t 680 rfl rfl
set_option maxRecDepth 20000 in
theorem zw_475 : Jvm.Cond.code ({ cls := "FourWayKernelModel", name := "queued", desc := "(II)I" } : Jvm.MethodName) prog_8_method_37_code (3 : Nat) (Option.some Jvm.ClassFile.FieldType.int) ∈ zWS := zw_t 683 rfl rfl
set_option maxRecDepth 20000 in
theorem zw_476 : Jvm.Cond.instanceMethod ({ cls := "FourWayKernelModel", name := "queued", desc := "(II)I" } : Jvm.MethodName) ∈ zWS := zw_t 681 rfl rfl
set_option maxRecDepth 20000 in
theorem zw_477 : Jvm.Cond.selects "FourWayKernelModel" ({ cls := "FourWayKernelModel", name := "queued", desc := "(II)I" } : Jvm.MethodName) ({ cls := "FourWayKernelModel", name := "queued", desc := "(II)I" } : Jvm.MethodName) ∈ zWS := zw_t 682 rfl rfl
set_option maxRecDepth 20000 in
theorem zw_478 : Jvm.Cond.methodLink "FourWayKernelLaw" (69 : Nat) ({ cls := "FourWayKernel", name := "mail", desc := "(I)I" } : Jvm.MethodName) ∈ zWS := zw_t 404 rfl rfl
set_option maxRecDepth 20000 in
theorem zw_479 : Jvm.Cond.code ({ cls := "FourWayKernel", name := "mail", desc := "(I)I" } : Jvm.MethodName) prog_1_method_15_code (2 : Nat) (Option.some Jvm.ClassFile.FieldType.int) ∈ zWS := zw_t 407 rfl rfl
set_option maxRecDepth 20000 in
theorem zw_480 : Jvm.Cond.instanceMethod ({ cls := "FourWayKernel", name := "mail", desc := "(I)I" } : Jvm.MethodName) ∈ zWS := zw_t 405 rfl rfl
set_option maxRecDepth 20000 in
theorem zw_481 : Jvm.Cond.selects "FourWayKernel" ({ cls := "FourWayKernel", name := "mail", desc := "(I)I" } : Jvm.MethodName) ({ cls := "FourWayKernel", name := "mail", desc := "(I)I" } : Jvm.MethodName) ∈ zWS := zw_t 406 rfl rfl
set_option maxRecDepth 20000 in
theorem zw_482 : Jvm.Cond.methodLink "FourWayKernelLaw" (72 : Nat) ({ cls := "FourWayKernelModel", name := "mail", desc := "(I)I" } : Jvm.MethodName) ∈ zWS := zw_t 684 rfl rfl
set_option maxRecDepth 20000 in
theorem zw_483 : Jvm.Cond.code ({ cls := "FourWayKernelModel", name := "mail", desc := "(I)I" } : Jvm.MethodName) prog_8_method_38_code (2 : Nat) (Option.some Jvm.ClassFile.FieldType.int) ∈ zWS := zw_t 687 rfl rfl
set_option maxRecDepth 20000 in
theorem zw_484 : Jvm.Cond.instanceMethod ({ cls := "FourWayKernelModel", name := "mail", desc := "(I)I" } : Jvm.MethodName) ∈ zWS := zw_t 685 rfl rfl
set_option maxRecDepth 20000 in
theorem zw_485 : Jvm.Cond.selects "FourWayKernelModel" ({ cls := "FourWayKernelModel", name := "mail", desc := "(I)I" } : Jvm.MethodName) ({ cls := "FourWayKernelModel", name := "mail", desc := "(I)I" } : Jvm.MethodName) ∈ zWS := zw_t 686 rfl rfl
set_option maxRecDepth 20000 in
theorem zw_486 : Jvm.Cond.methodLink "FourWayKernelLaw" (73 : Nat) ({ cls := "FourWayKernel", name := "table", desc := "(I)I" } : Jvm.MethodName) ∈ zWS := zw_t 408 rfl rfl
set_option maxRecDepth 20000 in
theorem zw_487 : Jvm.Cond.code ({ cls := "FourWayKernel", name := "table", desc := "(I)I" } : Jvm.MethodName) prog_1_method_16_code (2 : Nat) (Option.some Jvm.ClassFile.FieldType.int) ∈ zWS := zw_t 411 rfl rfl
set_option maxRecDepth 20000 in
theorem zw_488 : Jvm.Cond.instanceMethod ({ cls := "FourWayKernel", name := "table", desc := "(I)I" } : Jvm.MethodName) ∈ zWS := zw_t 409 rfl rfl
set_option maxRecDepth 20000 in
theorem zw_489 : Jvm.Cond.selects "FourWayKernel" ({ cls := "FourWayKernel", name := "table", desc := "(I)I" } : Jvm.MethodName) ({ cls := "FourWayKernel", name := "table", desc := "(I)I" } : Jvm.MethodName) ∈ zWS := zw_t 410 rfl rfl
set_option maxRecDepth 20000 in
theorem zw_490 : Jvm.Cond.methodLink "FourWayKernelLaw" (76 : Nat) ({ cls := "FourWayKernelModel", name := "table", desc := "(I)I" } : Jvm.MethodName) ∈ zWS := zw_t 688 rfl rfl
set_option maxRecDepth 20000 in
theorem zw_491 : Jvm.Cond.code ({ cls := "FourWayKernelModel", name := "table", desc := "(I)I" } : Jvm.MethodName) prog_8_method_39_code (2 : Nat) (Option.some Jvm.ClassFile.FieldType.int) ∈ zWS := zw_t 691 rfl rfl
set_option maxRecDepth 20000 in
theorem zw_492 : Jvm.Cond.instanceMethod ({ cls := "FourWayKernelModel", name := "table", desc := "(I)I" } : Jvm.MethodName) ∈ zWS := zw_t 689 rfl rfl
set_option maxRecDepth 20000 in
theorem zw_493 : Jvm.Cond.selects "FourWayKernelModel" ({ cls := "FourWayKernelModel", name := "table", desc := "(I)I" } : Jvm.MethodName) ({ cls := "FourWayKernelModel", name := "table", desc := "(I)I" } : Jvm.MethodName) ∈ zWS := zw_t 690 rfl rfl
set_option maxRecDepth 20000 in
theorem zw_494 : Jvm.Cond.methodLink "FourWayKernelLaw" (77 : Nat) ({ cls := "FourWayKernel", name := "translation", desc := "(II)I" } : Jvm.MethodName) ∈ zWS := zw_t 412 rfl rfl
set_option maxRecDepth 20000 in
theorem zw_495 : Jvm.Cond.code ({ cls := "FourWayKernel", name := "translation", desc := "(II)I" } : Jvm.MethodName) prog_1_method_17_code (3 : Nat) (Option.some Jvm.ClassFile.FieldType.int) ∈ zWS := zw_t 415 rfl rfl
set_option maxRecDepth 20000 in
theorem zw_496 : Jvm.Cond.instanceMethod ({ cls := "FourWayKernel", name := "translation", desc := "(II)I" } : Jvm.MethodName) ∈ zWS := zw_t 413 rfl rfl
set_option maxRecDepth 20000 in
theorem zw_497 : Jvm.Cond.selects "FourWayKernel" ({ cls := "FourWayKernel", name := "translation", desc := "(II)I" } : Jvm.MethodName) ({ cls := "FourWayKernel", name := "translation", desc := "(II)I" } : Jvm.MethodName) ∈ zWS := zw_t 414 rfl rfl
set_option maxRecDepth 20000 in
theorem zw_498 : Jvm.Cond.methodLink "FourWayKernelLaw" (80 : Nat) ({ cls := "FourWayKernelModel", name := "translation", desc := "(II)I" } : Jvm.MethodName) ∈ zWS := zw_t 692 rfl rfl
set_option maxRecDepth 20000 in
theorem zw_499 : Jvm.Cond.code ({ cls := "FourWayKernelModel", name := "translation", desc := "(II)I" } : Jvm.MethodName) prog_8_method_40_code (4 : Nat) (Option.some Jvm.ClassFile.FieldType.int) ∈ zWS := zw_t 695 rfl rfl
set_option maxRecDepth 20000 in
theorem zw_500 : Jvm.Cond.instanceMethod ({ cls := "FourWayKernelModel", name := "translation", desc := "(II)I" } : Jvm.MethodName) ∈ zWS := zw_t 693 rfl rfl
set_option maxRecDepth 20000 in
theorem zw_501 : Jvm.Cond.selects "FourWayKernelModel" ({ cls := "FourWayKernelModel", name := "translation", desc := "(II)I" } : Jvm.MethodName) ({ cls := "FourWayKernelModel", name := "translation", desc := "(II)I" } : Jvm.MethodName) ∈ zWS := zw_t 694 rfl rfl
set_option maxRecDepth 20000 in
theorem zw_502 : Jvm.Cond.methodLink "FourWayKernelLaw" (81 : Nat) ({ cls := "FourWayKernel", name := "word", desc := "(I)I" } : Jvm.MethodName) ∈ zWS := zw_t 416 rfl rfl
set_option maxRecDepth 20000 in
theorem zw_503 : Jvm.Cond.code ({ cls := "FourWayKernel", name := "word", desc := "(I)I" } : Jvm.MethodName) prog_1_method_18_code (2 : Nat) (Option.some Jvm.ClassFile.FieldType.int) ∈ zWS := zw_t 419 rfl rfl
set_option maxRecDepth 20000 in
theorem zw_504 : Jvm.Cond.instanceMethod ({ cls := "FourWayKernel", name := "word", desc := "(I)I" } : Jvm.MethodName) ∈ zWS := zw_t 417 rfl rfl
set_option maxRecDepth 20000 in
theorem zw_505 : Jvm.Cond.selects "FourWayKernel" ({ cls := "FourWayKernel", name := "word", desc := "(I)I" } : Jvm.MethodName) ({ cls := "FourWayKernel", name := "word", desc := "(I)I" } : Jvm.MethodName) ∈ zWS := zw_t 418 rfl rfl
set_option maxRecDepth 20000 in
theorem zw_506 : Jvm.Cond.methodLink "FourWayKernelLaw" (84 : Nat) ({ cls := "FourWayKernelModel", name := "word", desc := "(I)I" } : Jvm.MethodName) ∈ zWS := zw_t 696 rfl rfl
set_option maxRecDepth 20000 in
theorem zw_507 : Jvm.Cond.code ({ cls := "FourWayKernelModel", name := "word", desc := "(I)I" } : Jvm.MethodName) prog_8_method_41_code (2 : Nat) (Option.some Jvm.ClassFile.FieldType.int) ∈ zWS := zw_t 699 rfl rfl
set_option maxRecDepth 20000 in
theorem zw_508 : Jvm.Cond.instanceMethod ({ cls := "FourWayKernelModel", name := "word", desc := "(I)I" } : Jvm.MethodName) ∈ zWS := zw_t 697 rfl rfl
set_option maxRecDepth 20000 in
theorem zw_509 : Jvm.Cond.selects "FourWayKernelModel" ({ cls := "FourWayKernelModel", name := "word", desc := "(I)I" } : Jvm.MethodName) ({ cls := "FourWayKernelModel", name := "word", desc := "(I)I" } : Jvm.MethodName) ∈ zWS := zw_t 698 rfl rfl
set_option maxRecDepth 20000 in
theorem zw_510 : Jvm.Cond.methodLink "FourWayKernelLaw" (85 : Nat) ({ cls := "FourWayKernel", name := "spare", desc := "(I)I" } : Jvm.MethodName) ∈ zWS := zw_t 420 rfl rfl
set_option maxRecDepth 20000 in
theorem zw_511 : Jvm.Cond.code ({ cls := "FourWayKernel", name := "spare", desc := "(I)I" } : Jvm.MethodName) prog_1_method_19_code (2 : Nat) (Option.some Jvm.ClassFile.FieldType.int) ∈ zWS := zw_t 423 rfl rfl
set_option maxRecDepth 20000 in
theorem zw_512 : Jvm.Cond.instanceMethod ({ cls := "FourWayKernel", name := "spare", desc := "(I)I" } : Jvm.MethodName) ∈ zWS := zw_t 421 rfl rfl
set_option maxRecDepth 20000 in
theorem zw_513 : Jvm.Cond.selects "FourWayKernel" ({ cls := "FourWayKernel", name := "spare", desc := "(I)I" } : Jvm.MethodName) ({ cls := "FourWayKernel", name := "spare", desc := "(I)I" } : Jvm.MethodName) ∈ zWS := zw_t 422 rfl rfl
set_option maxRecDepth 20000 in
theorem zw_514 : Jvm.Cond.methodLink "FourWayKernelLaw" (88 : Nat) ({ cls := "FourWayKernelModel", name := "spare", desc := "(I)I" } : Jvm.MethodName) ∈ zWS := zw_t 700 rfl rfl
set_option maxRecDepth 20000 in
theorem zw_515 : Jvm.Cond.code ({ cls := "FourWayKernelModel", name := "spare", desc := "(I)I" } : Jvm.MethodName) prog_8_method_42_code (2 : Nat) (Option.some Jvm.ClassFile.FieldType.int) ∈ zWS := zw_t 703 rfl rfl
set_option maxRecDepth 20000 in
theorem zw_516 : Jvm.Cond.instanceMethod ({ cls := "FourWayKernelModel", name := "spare", desc := "(I)I" } : Jvm.MethodName) ∈ zWS := zw_t 701 rfl rfl
set_option maxRecDepth 20000 in
theorem zw_517 : Jvm.Cond.selects "FourWayKernelModel" ({ cls := "FourWayKernelModel", name := "spare", desc := "(I)I" } : Jvm.MethodName) ({ cls := "FourWayKernelModel", name := "spare", desc := "(I)I" } : Jvm.MethodName) ∈ zWS := zw_t 702 rfl rfl
set_option maxRecDepth 20000 in
theorem zw_518 : Jvm.Cond.methodLink "FourWayKernelLaw" (89 : Nat) ({ cls := "FourWayKernel", name := "tickets", desc := "()I" } : Jvm.MethodName) ∈ zWS := zw_t 424 rfl rfl
set_option maxRecDepth 20000 in
theorem zw_519 : Jvm.Cond.code ({ cls := "FourWayKernel", name := "tickets", desc := "()I" } : Jvm.MethodName) prog_1_method_20_code (1 : Nat) (Option.some Jvm.ClassFile.FieldType.int) ∈ zWS := zw_t 427 rfl rfl
set_option maxRecDepth 20000 in
theorem zw_520 : Jvm.Cond.instanceMethod ({ cls := "FourWayKernel", name := "tickets", desc := "()I" } : Jvm.MethodName) ∈ zWS := zw_t 425 rfl rfl
set_option maxRecDepth 20000 in
theorem zw_521 : Jvm.Cond.selects "FourWayKernel" ({ cls := "FourWayKernel", name := "tickets", desc := "()I" } : Jvm.MethodName) ({ cls := "FourWayKernel", name := "tickets", desc := "()I" } : Jvm.MethodName) ∈ zWS := zw_t 426 rfl rfl
set_option maxRecDepth 20000 in
theorem zw_522 : Jvm.Cond.methodLink "FourWayKernelLaw" (93 : Nat) ({ cls := "FourWayKernelModel", name := "tickets", desc := "()I" } : Jvm.MethodName) ∈ zWS := zw_t 704 rfl rfl
set_option maxRecDepth 20000 in
theorem zw_523 : Jvm.Cond.code ({ cls := "FourWayKernelModel", name := "tickets", desc := "()I" } : Jvm.MethodName) prog_8_method_43_code (1 : Nat) (Option.some Jvm.ClassFile.FieldType.int) ∈ zWS := zw_t 707 rfl rfl
set_option maxRecDepth 20000 in
theorem zw_524 : Jvm.Cond.instanceMethod ({ cls := "FourWayKernelModel", name := "tickets", desc := "()I" } : Jvm.MethodName) ∈ zWS := zw_t 705 rfl rfl
set_option maxRecDepth 20000 in
theorem zw_525 : Jvm.Cond.selects "FourWayKernelModel" ({ cls := "FourWayKernelModel", name := "tickets", desc := "()I" } : Jvm.MethodName) ({ cls := "FourWayKernelModel", name := "tickets", desc := "()I" } : Jvm.MethodName) ∈ zWS := zw_t 706 rfl rfl
set_option maxRecDepth 20000 in
theorem zw_526 : Jvm.Cond.methodLink "FourWayKernelLaw" (94 : Nat) ({ cls := "FourWayKernel", name := "steps", desc := "()I" } : Jvm.MethodName) ∈ zWS := zw_t 428 rfl rfl
set_option maxRecDepth 20000 in
theorem zw_527 : Jvm.Cond.code ({ cls := "FourWayKernel", name := "steps", desc := "()I" } : Jvm.MethodName) prog_1_method_21_code (1 : Nat) (Option.some Jvm.ClassFile.FieldType.int) ∈ zWS := zw_t 431 rfl rfl
set_option maxRecDepth 20000 in
theorem zw_528 : Jvm.Cond.instanceMethod ({ cls := "FourWayKernel", name := "steps", desc := "()I" } : Jvm.MethodName) ∈ zWS := zw_t 429 rfl rfl
set_option maxRecDepth 20000 in
theorem zw_529 : Jvm.Cond.selects "FourWayKernel" ({ cls := "FourWayKernel", name := "steps", desc := "()I" } : Jvm.MethodName) ({ cls := "FourWayKernel", name := "steps", desc := "()I" } : Jvm.MethodName) ∈ zWS := zw_t 430 rfl rfl
set_option maxRecDepth 20000 in
theorem zw_530 : Jvm.Cond.methodLink "FourWayKernelLaw" (97 : Nat) ({ cls := "FourWayKernelModel", name := "steps", desc := "()I" } : Jvm.MethodName) ∈ zWS := zw_t 708 rfl rfl
set_option maxRecDepth 20000 in
theorem zw_531 : Jvm.Cond.code ({ cls := "FourWayKernelModel", name := "steps", desc := "()I" } : Jvm.MethodName) prog_8_method_44_code (1 : Nat) (Option.some Jvm.ClassFile.FieldType.int) ∈ zWS := zw_t 711 rfl rfl
set_option maxRecDepth 20000 in
theorem zw_532 : Jvm.Cond.instanceMethod ({ cls := "FourWayKernelModel", name := "steps", desc := "()I" } : Jvm.MethodName) ∈ zWS := zw_t 709 rfl rfl
set_option maxRecDepth 20000 in
theorem zw_533 : Jvm.Cond.selects "FourWayKernelModel" ({ cls := "FourWayKernelModel", name := "steps", desc := "()I" } : Jvm.MethodName) ({ cls := "FourWayKernelModel", name := "steps", desc := "()I" } : Jvm.MethodName) ∈ zWS := zw_t 710 rfl rfl
theorem zw_534 : Jvm.Cond.instanceMethod ({ cls := "java/lang/Object", name := "<init>", desc := "()V" } : Jvm.MethodName) ∈ zWS := zw_t 14 rfl rfl
theorem zw_535 : Jvm.Cond.code ({ cls := "java/lang/Object", name := "<init>", desc := "()V" } : Jvm.MethodName) object_method_1_code (1 : Nat) (Option.none : Option Jvm.ClassFile.FieldType) ∈ zWS := zw_t 15 rfl rfl
theorem zobj : Cond.instanceMethod Lib.objectInit ∈ zWS ∧ Cond.code Lib.objectInit ⟨#[0xb1]⟩ 1 none ∈ zWS := ⟨zw_534, zw_535⟩
theorem zmok_0 : zmok 0 := ⟨by decide, zw_376, zw_32, by decide, by decide, fun _ => rfl, by decide⟩
theorem zmok_1 : zmok 1 := ⟨by decide, zw_384, zw_32, by decide, by decide, fun h => absurd h (by decide), by decide⟩
theorem zmok_2 : zmok 2 := ⟨by decide, zw_392, zw_32, by decide, by decide, fun h => absurd h (by decide), by decide⟩
theorem zmok_3 : zmok 3 := ⟨by decide, zw_400, zw_32, by decide, by decide, fun h => absurd h (by decide), by decide⟩
theorem zmok_4 : zmok 4 := ⟨by decide, zw_408, zw_32, by decide, by decide, fun h => absurd h (by decide), by decide⟩
theorem zmok_5 : zmok 5 := ⟨by decide, zw_416, zw_32, by decide, by decide, fun h => absurd h (by decide), by decide⟩
theorem zmok_6 : zmok 6 := ⟨by decide, zw_424, zw_32, by decide, by decide, fun h => absurd h (by decide), by decide⟩
theorem zmok_7 : zmok 7 := ⟨by decide, zw_432, zw_32, by decide, by decide, fun h => absurd h (by decide), by decide⟩
theorem zmok_8 : zmok 8 := ⟨by decide, zw_440, zw_32, by decide, by decide, fun h => absurd h (by decide), by decide⟩
theorem zmok_9 : zmok 9 := ⟨by decide, zw_445, zw_32, by decide, by decide, fun h => absurd h (by decide), by decide⟩
theorem zmok_10 : zmok 10 := ⟨by decide, zw_453, zw_32, by decide, by decide, fun h => absurd h (by decide), by decide⟩
theorem zmok_11 : zmok 11 := ⟨by decide, zw_59, zw_32, by decide, by decide, fun h => absurd h (by decide), by decide⟩
theorem zmok_12 : zmok 12 := ⟨by decide, zw_463, zw_32, by decide, by decide, fun h => absurd h (by decide), by decide⟩
theorem zmok_13 : zmok 13 := ⟨by decide, zw_471, zw_32, by decide, by decide, fun h => absurd h (by decide), by decide⟩
theorem zmok_14 : zmok 14 := ⟨by decide, zw_479, zw_32, by decide, by decide, fun h => absurd h (by decide), by decide⟩
theorem zmok_15 : zmok 15 := ⟨by decide, zw_487, zw_32, by decide, by decide, fun h => absurd h (by decide), by decide⟩
theorem zmok_16 : zmok 16 := ⟨by decide, zw_495, zw_32, by decide, by decide, fun h => absurd h (by decide), by decide⟩
theorem zmok_17 : zmok 17 := ⟨by decide, zw_503, zw_32, by decide, by decide, fun h => absurd h (by decide), by decide⟩
theorem zmok_18 : zmok 18 := ⟨by decide, zw_511, zw_32, by decide, by decide, fun h => absurd h (by decide), by decide⟩
theorem zmok_19 : zmok 19 := ⟨by decide, zw_519, zw_32, by decide, by decide, fun h => absurd h (by decide), by decide⟩
theorem zmok_20 : zmok 20 := ⟨by decide, zw_527, zw_32, by decide, by decide, fun h => absurd h (by decide), by decide⟩
theorem zmok_21 : zmok 21 := ⟨by decide, zw_31, zw_32, by decide, by decide, fun h => absurd h (by decide), by decide⟩
theorem zmok_22 : zmok 22 := ⟨by decide, zw_40, zw_32, by decide, by decide, fun h => absurd h (by decide), by decide⟩
theorem zmok_23 : zmok 23 := ⟨by decide, zw_51, zw_32, by decide, by decide, fun h => absurd h (by decide), by decide⟩
theorem zmok_24 : zmok 24 := ⟨by decide, zw_43, zw_32, by decide, by decide, fun h => absurd h (by decide), by decide⟩
theorem zmok_25 : zmok 25 := ⟨by decide, zw_47, zw_32, by decide, by decide, fun h => absurd h (by decide), by decide⟩
theorem zmok_26 : zmok 26 := ⟨by decide, zw_90, zw_32, by decide, by decide, fun h => absurd h (by decide), by decide⟩
theorem zmok_27 : zmok 27 := ⟨by decide, zw_94, zw_32, by decide, by decide, fun h => absurd h (by decide), by decide⟩
theorem zmok_28 : zmok 28 := ⟨by decide, zw_114, zw_32, by decide, by decide, fun h => absurd h (by decide), by decide⟩
theorem zmok_29 : zmok 29 := ⟨by decide, zw_102, zw_32, by decide, by decide, fun h => absurd h (by decide), by decide⟩
theorem zmok_30 : zmok 30 := ⟨by decide, zw_98, zw_32, by decide, by decide, fun h => absurd h (by decide), by decide⟩
theorem zmok_31 : zmok 31 := ⟨by decide, zw_122, zw_32, by decide, by decide, fun h => absurd h (by decide), by decide⟩
theorem zmok_32 : zmok 32 := ⟨by decide, zw_126, zw_32, by decide, by decide, fun h => absurd h (by decide), by decide⟩
theorem zmok_33 : zmok 33 := ⟨by decide, zw_130, zw_32, by decide, by decide, fun h => absurd h (by decide), by decide⟩
theorem zmok_34 : zmok 34 := ⟨by decide, zw_134, zw_32, by decide, by decide, fun h => absurd h (by decide), by decide⟩
theorem zmok_35 : zmok 35 := ⟨by decide, zw_138, zw_32, by decide, by decide, fun h => absurd h (by decide), by decide⟩
theorem zmok_36 : zmok 36 := ⟨by decide, zw_142, zw_32, by decide, by decide, fun h => absurd h (by decide), by decide⟩
theorem zmok_37 : zmok 37 := ⟨by decide, zw_172, zw_32, by decide, by decide, fun h => absurd h (by decide), by decide⟩
theorem zmok_38 : zmok 38 := ⟨by decide, zw_146, zw_32, by decide, by decide, fun h => absurd h (by decide), by decide⟩
theorem zmok_39 : zmok 39 := ⟨by decide, zw_176, zw_32, by decide, by decide, fun h => absurd h (by decide), by decide⟩
theorem zmok_40 : zmok 40 := ⟨by decide, zw_180, zw_32, by decide, by decide, fun h => absurd h (by decide), by decide⟩
theorem zmok_41 : zmok 41 := ⟨by decide, zw_184, zw_32, by decide, by decide, fun h => absurd h (by decide), by decide⟩
theorem zmok_42 : zmok 42 := ⟨by decide, zw_150, zw_32, by decide, by decide, fun h => absurd h (by decide), by decide⟩
theorem zmok_43 : zmok 43 := ⟨by decide, zw_154, zw_32, by decide, by decide, fun h => absurd h (by decide), by decide⟩
theorem zmok_44 : zmok 44 := ⟨by decide, zw_158, zw_32, by decide, by decide, fun h => absurd h (by decide), by decide⟩
theorem zmok_45 : zmok 45 := ⟨by decide, zw_162, zw_32, by decide, by decide, fun h => absurd h (by decide), by decide⟩
theorem zmok_46 : zmok 46 := ⟨by decide, zw_165, zw_32, by decide, by decide, fun h => absurd h (by decide), by decide⟩
theorem zmok_47 : zmok 47 := ⟨by decide, zw_15, zw_13, by decide, by decide, fun _ => rfl, by decide⟩
theorem zmok_48 : zmok 48 := ⟨by decide, zw_19, zw_13, by decide, by decide, fun h => absurd h (by decide), by decide⟩
theorem zmok_49 : zmok 49 := ⟨by decide, zw_63, zw_13, by decide, by decide, fun h => absurd h (by decide), by decide⟩
theorem zmok_50 : zmok 50 := ⟨by decide, zw_106, zw_13, by decide, by decide, fun h => absurd h (by decide), by decide⟩
theorem zmok_51 : zmok 51 := ⟨by decide, zw_118, zw_13, by decide, by decide, fun h => absurd h (by decide), by decide⟩
theorem zmok_52 : zmok 52 := ⟨by decide, zw_204, zw_68, by decide, by decide, fun _ => rfl, by decide⟩
theorem zmok_53 : zmok 53 := ⟨by decide, zw_67, zw_68, by decide, by decide, fun h => absurd h (by decide), by decide⟩
theorem zmok_54 : zmok 54 := ⟨by decide, zw_168, zw_68, by decide, by decide, fun h => absurd h (by decide), by decide⟩
theorem zmok_55 : zmok 55 := ⟨by decide, zw_110, zw_68, by decide, by decide, fun h => absurd h (by decide), by decide⟩
theorem zmok_56 : zmok 56 := ⟨by decide, zw_9, zw_7, by decide, by decide, fun _ => rfl, by decide⟩
theorem zmok_57 : zmok 57 := ⟨by decide, zw_79, zw_77, by decide, by decide, fun _ => rfl, by decide⟩
theorem zmok_58 : zmok 58 := ⟨by decide, zw_236, zw_77, by decide, by decide, fun h => absurd h (by decide), by decide⟩
theorem zmok_59 : zmok 59 := ⟨by decide, zw_37, zw_35, by decide, by decide, fun _ => rfl, by decide⟩
theorem zmok_60 : zmok 60 := ⟨by decide, zw_82, zw_35, by decide, by decide, fun h => absurd h (by decide), by decide⟩
theorem zmok_61 : zmok 61 := ⟨by decide, zw_72, zw_35, by decide, by decide, fun h => absurd h (by decide), by decide⟩
theorem zmok_62 : zmok 62 := ⟨by decide, zw_86, zw_35, by decide, by decide, fun h => absurd h (by decide), by decide⟩
theorem zmok_63 : zmok 63 := ⟨by decide, zw_188, zw_35, by decide, by decide, fun h => absurd h (by decide), by decide⟩
theorem zmok_64 : zmok 64 := ⟨by decide, zw_55, zw_35, by decide, by decide, fun h => absurd h (by decide), by decide⟩
theorem zmok_65 : zmok 65 := ⟨by decide, zw_381, zw_273, by decide, by decide, fun _ => rfl, by decide⟩
theorem zmok_66 : zmok 66 := ⟨by decide, zw_277, zw_273, by decide, by decide, fun h => absurd h (by decide), by decide⟩
theorem zmok_67 : zmok 67 := ⟨by decide, zw_272, zw_273, by decide, by decide, fun h => absurd h (by decide), by decide⟩
theorem zmok_68 : zmok 68 := ⟨by decide, zw_388, zw_273, by decide, by decide, fun h => absurd h (by decide), by decide⟩
theorem zmok_69 : zmok 69 := ⟨by decide, zw_288, zw_273, by decide, by decide, fun h => absurd h (by decide), by decide⟩
theorem zmok_70 : zmok 70 := ⟨by decide, zw_281, zw_273, by decide, by decide, fun h => absurd h (by decide), by decide⟩
theorem zmok_71 : zmok 71 := ⟨by decide, zw_285, zw_273, by decide, by decide, fun h => absurd h (by decide), by decide⟩
theorem zmok_72 : zmok 72 := ⟨by decide, zw_292, zw_273, by decide, by decide, fun h => absurd h (by decide), by decide⟩
theorem zmok_73 : zmok 73 := ⟨by decide, zw_396, zw_273, by decide, by decide, fun h => absurd h (by decide), by decide⟩
theorem zmok_74 : zmok 74 := ⟨by decide, zw_404, zw_273, by decide, by decide, fun h => absurd h (by decide), by decide⟩
theorem zmok_75 : zmok 75 := ⟨by decide, zw_412, zw_273, by decide, by decide, fun h => absurd h (by decide), by decide⟩
theorem zmok_76 : zmok 76 := ⟨by decide, zw_420, zw_273, by decide, by decide, fun h => absurd h (by decide), by decide⟩
theorem zmok_77 : zmok 77 := ⟨by decide, zw_428, zw_273, by decide, by decide, fun h => absurd h (by decide), by decide⟩
theorem zmok_78 : zmok 78 := ⟨by decide, zw_436, zw_273, by decide, by decide, fun h => absurd h (by decide), by decide⟩
theorem zmok_79 : zmok 79 := ⟨by decide, zw_308, zw_273, by decide, by decide, fun h => absurd h (by decide), by decide⟩
theorem zmok_80 : zmok 80 := ⟨by decide, zw_295, zw_273, by decide, by decide, fun h => absurd h (by decide), by decide⟩
theorem zmok_81 : zmok 81 := ⟨by decide, zw_299, zw_273, by decide, by decide, fun h => absurd h (by decide), by decide⟩
theorem zmok_82 : zmok 82 := ⟨by decide, zw_316, zw_273, by decide, by decide, fun h => absurd h (by decide), by decide⟩
theorem zmok_83 : zmok 83 := ⟨by decide, zw_324, zw_273, by decide, by decide, fun h => absurd h (by decide), by decide⟩
theorem zmok_84 : zmok 84 := ⟨by decide, zw_320, zw_273, by decide, by decide, fun h => absurd h (by decide), by decide⟩
theorem zmok_85 : zmok 85 := ⟨by decide, zw_328, zw_273, by decide, by decide, fun h => absurd h (by decide), by decide⟩
theorem zmok_86 : zmok 86 := ⟨by decide, zw_449, zw_273, by decide, by decide, fun h => absurd h (by decide), by decide⟩
theorem zmok_87 : zmok 87 := ⟨by decide, zw_304, zw_273, by decide, by decide, fun h => absurd h (by decide), by decide⟩
theorem zmok_88 : zmok 88 := ⟨by decide, zw_312, zw_273, by decide, by decide, fun h => absurd h (by decide), by decide⟩
theorem zmok_89 : zmok 89 := ⟨by decide, zw_344, zw_273, by decide, by decide, fun h => absurd h (by decide), by decide⟩
theorem zmok_90 : zmok 90 := ⟨by decide, zw_332, zw_273, by decide, by decide, fun h => absurd h (by decide), by decide⟩
theorem zmok_91 : zmok 91 := ⟨by decide, zw_348, zw_273, by decide, by decide, fun h => absurd h (by decide), by decide⟩
theorem zmok_92 : zmok 92 := ⟨by decide, zw_358, zw_273, by decide, by decide, fun h => absurd h (by decide), by decide⟩
theorem zmok_93 : zmok 93 := ⟨by decide, zw_354, zw_273, by decide, by decide, fun h => absurd h (by decide), by decide⟩
theorem zmok_94 : zmok 94 := ⟨by decide, zw_336, zw_273, by decide, by decide, fun h => absurd h (by decide), by decide⟩
theorem zmok_95 : zmok 95 := ⟨by decide, zw_366, zw_273, by decide, by decide, fun h => absurd h (by decide), by decide⟩
theorem zmok_96 : zmok 96 := ⟨by decide, zw_362, zw_273, by decide, by decide, fun h => absurd h (by decide), by decide⟩
theorem zmok_97 : zmok 97 := ⟨by decide, zw_340, zw_273, by decide, by decide, fun h => absurd h (by decide), by decide⟩
theorem zmok_98 : zmok 98 := ⟨by decide, zw_457, zw_273, by decide, by decide, fun h => absurd h (by decide), by decide⟩
theorem zmok_99 : zmok 99 := ⟨by decide, zw_370, zw_273, by decide, by decide, fun h => absurd h (by decide), by decide⟩
theorem zmok_100 : zmok 100 := ⟨by decide, zw_467, zw_273, by decide, by decide, fun h => absurd h (by decide), by decide⟩
theorem zmok_101 : zmok 101 := ⟨by decide, zw_475, zw_273, by decide, by decide, fun h => absurd h (by decide), by decide⟩
theorem zmok_102 : zmok 102 := ⟨by decide, zw_483, zw_273, by decide, by decide, fun h => absurd h (by decide), by decide⟩
theorem zmok_103 : zmok 103 := ⟨by decide, zw_491, zw_273, by decide, by decide, fun h => absurd h (by decide), by decide⟩
theorem zmok_104 : zmok 104 := ⟨by decide, zw_499, zw_273, by decide, by decide, fun h => absurd h (by decide), by decide⟩
theorem zmok_105 : zmok 105 := ⟨by decide, zw_507, zw_273, by decide, by decide, fun h => absurd h (by decide), by decide⟩
theorem zmok_106 : zmok 106 := ⟨by decide, zw_515, zw_273, by decide, by decide, fun h => absurd h (by decide), by decide⟩
theorem zmok_107 : zmok 107 := ⟨by decide, zw_523, zw_273, by decide, by decide, fun h => absurd h (by decide), by decide⟩
theorem zmok_108 : zmok 108 := ⟨by decide, zw_531, zw_273, by decide, by decide, fun h => absurd h (by decide), by decide⟩
theorem zmem_p {big ws : List Cond} (ps : List Nat) (hp : ws.map some = ps.map (fun i => big[i]?)) : ∀ w ∈ ws, w ∈ big := by
  intro w hw
  have h1 : some w ∈ ws.map some := List.mem_map.mpr ⟨w, hw, rfl⟩
  rw [hp] at h1
  obtain ⟨i, -, hi⟩ := List.mem_map.mp h1
  exact List.mem_of_getElem? hi
theorem zin_0 : ∀ w ∈ u_ws (zC 0).1 (zC 0).2.1 (zC 0).2.2, w ∈ zWS := fun w hw => List.mem_filter.mpr ⟨List.mem_append_right _ (zmem_p [97, 99, 101, 103, 105, 107, 109, 111, 113, 115] (by decide +kernel) w hw), List.all_eq_true.mp (show (u_ws (zC 0).1 (zC 0).2.1 (zC 0).2.2).all goodWord = true by decide +kernel) w hw⟩
theorem zpa_0 : ∀ k, k < (zC 0).2.2 → parseFieldDescriptor ((zC 0).2.1 k).2.2.1 = some (zft 0 k) := by decide +kernel
theorem znm_0 : ∀ a, a < (zC 0).2.2 → ∀ b, b < (zC 0).2.2 → a ≠ b → ((zC 0).2.1 a).2.1 ≠ ((zC 0).2.1 b).2.1 := by decide +kernel
theorem zin_1 : ∀ w ∈ u_ws (zC 1).1 (zC 1).2.1 (zC 1).2.2, w ∈ zWS := fun w hw => List.mem_filter.mpr ⟨List.mem_append_right _ (zmem_p [51, 53] (by decide +kernel) w hw), List.all_eq_true.mp (show (u_ws (zC 1).1 (zC 1).2.1 (zC 1).2.2).all goodWord = true by decide +kernel) w hw⟩
theorem zpa_1 : ∀ k, k < (zC 1).2.2 → parseFieldDescriptor ((zC 1).2.1 k).2.2.1 = some (zft 1 k) := by decide +kernel
theorem znm_1 : ∀ a, a < (zC 1).2.2 → ∀ b, b < (zC 1).2.2 → a ≠ b → ((zC 1).2.1 a).2.1 ≠ ((zC 1).2.1 b).2.1 := by decide +kernel
theorem zin_2 : ∀ w ∈ u_ws (zC 2).1 (zC 2).2.1 (zC 2).2.2, w ∈ zWS := fun w hw => List.mem_filter.mpr ⟨List.mem_append_right _ (zmem_p [34, 36, 38] (by decide +kernel) w hw), List.all_eq_true.mp (show (u_ws (zC 2).1 (zC 2).2.1 (zC 2).2.2).all goodWord = true by decide +kernel) w hw⟩
theorem zpa_2 : ∀ k, k < (zC 2).2.2 → parseFieldDescriptor ((zC 2).2.1 k).2.2.1 = some (zft 2 k) := by decide +kernel
theorem znm_2 : ∀ a, a < (zC 2).2.2 → ∀ b, b < (zC 2).2.2 → a ≠ b → ((zC 2).2.1 a).2.1 ≠ ((zC 2).2.1 b).2.1 := by decide +kernel
theorem zin_3 : ∀ w ∈ u_ws (zC 3).1 (zC 3).2.1 (zC 3).2.2, w ∈ zWS := fun w hw => List.mem_filter.mpr ⟨List.mem_append_right _ (zmem_p [68, 70, 72, 74, 76, 78] (by decide +kernel) w hw), List.all_eq_true.mp (show (u_ws (zC 3).1 (zC 3).2.1 (zC 3).2.2).all goodWord = true by decide +kernel) w hw⟩
theorem zpa_3 : ∀ k, k < (zC 3).2.2 → parseFieldDescriptor ((zC 3).2.1 k).2.2.1 = some (zft 3 k) := by decide +kernel
theorem znm_3 : ∀ a, a < (zC 3).2.2 → ∀ b, b < (zC 3).2.2 → a ≠ b → ((zC 3).2.1 a).2.1 ≠ ((zC 3).2.1 b).2.1 := by decide +kernel
theorem zin_4 : ∀ w ∈ u_ws (zC 4).1 (zC 4).2.1 (zC 4).2.2, w ∈ zWS := fun w hw => List.mem_filter.mpr ⟨List.mem_append_right _ (zmem_p [215, 217, 219, 221, 223] (by decide +kernel) w hw), List.all_eq_true.mp (show (u_ws (zC 4).1 (zC 4).2.1 (zC 4).2.2).all goodWord = true by decide +kernel) w hw⟩
theorem zpa_4 : ∀ k, k < (zC 4).2.2 → parseFieldDescriptor ((zC 4).2.1 k).2.2.1 = some (zft 4 k) := by decide +kernel
theorem znm_4 : ∀ a, a < (zC 4).2.2 → ∀ b, b < (zC 4).2.2 → a ≠ b → ((zC 4).2.1 a).2.1 ≠ ((zC 4).2.1 b).2.1 := by decide +kernel
theorem zin_5 : ∀ w ∈ u_ws (zC 5).1 (zC 5).2.1 (zC 5).2.2, w ∈ zWS := fun w hw => List.mem_filter.mpr ⟨List.mem_append_right _ (zmem_p [156, 158, 160, 162, 164, 166, 168, 170, 172, 174, 176] (by decide +kernel) w hw), List.all_eq_true.mp (show (u_ws (zC 5).1 (zC 5).2.1 (zC 5).2.2).all goodWord = true by decide +kernel) w hw⟩
theorem zpa_5 : ∀ k, k < (zC 5).2.2 → parseFieldDescriptor ((zC 5).2.1 k).2.2.1 = some (zft 5 k) := by decide +kernel
theorem znm_5 : ∀ a, a < (zC 5).2.2 → ∀ b, b < (zC 5).2.2 → a ≠ b → ((zC 5).2.1 a).2.1 ≠ ((zC 5).2.1 b).2.1 := by decide +kernel
theorem zin_6 : ∀ w ∈ u_ws (zC 6).1 (zC 6).2.1 (zC 6).2.2, w ∈ zWS := fun w hw => List.mem_filter.mpr ⟨List.mem_append_right _ (zmem_p [472, 474, 476, 478, 480, 482, 484, 486, 488, 490, 492, 494, 496, 498, 500, 502, 504, 506, 508, 510, 512, 514, 516, 518, 520, 522, 524, 526, 528, 530, 532, 534, 536, 538] (by decide +kernel) w hw), List.all_eq_true.mp (show (u_ws (zC 6).1 (zC 6).2.1 (zC 6).2.2).all goodWord = true by decide +kernel) w hw⟩
theorem zpa_6 : ∀ k, k < (zC 6).2.2 → parseFieldDescriptor ((zC 6).2.1 k).2.2.1 = some (zft 6 k) := by decide +kernel
theorem znm_6 : ∀ a, a < (zC 6).2.2 → ∀ b, b < (zC 6).2.2 → a ≠ b → ((zC 6).2.1 a).2.1 ≠ ((zC 6).2.1 b).2.1 := by decide +kernel
theorem zcl_ok {ci : Nat} (h : ci < zcl.length) : zcl[ci]? = some (zC ci) ∧ (zC ci).2.2 = zfn ci ∧ (∀ w ∈ u_ws (zC ci).1 (zC ci).2.1 (zC ci).2.2, w ∈ zWS) ∧ (∀ k, k < (zC ci).2.2 → parseFieldDescriptor ((zC ci).2.1 k).2.2.1 = some (zft ci k)) ∧ (∀ a, a < (zC ci).2.2 → ∀ b, b < (zC ci).2.2 → a ≠ b → ((zC ci).2.1 a).2.1 ≠ ((zC ci).2.1 b).2.1) := by
  match ci, h with
  | 0, _ => exact ⟨rfl, rfl, zin_0, zpa_0, znm_0⟩
  | 1, _ => exact ⟨rfl, rfl, zin_1, zpa_1, znm_1⟩
  | 2, _ => exact ⟨rfl, rfl, zin_2, zpa_2, znm_2⟩
  | 3, _ => exact ⟨rfl, rfl, zin_3, zpa_3, znm_3⟩
  | 4, _ => exact ⟨rfl, rfl, zin_4, zpa_4, znm_4⟩
  | 5, _ => exact ⟨rfl, rfl, zin_5, zpa_5, znm_5⟩
  | 6, _ => exact ⟨rfl, rfl, zin_6, zpa_6, znm_6⟩
  | n + 7, h => exact absurd h (by show ¬ n + 7 < 7; omega)
theorem zft_all : ∀ ci, ci < 7 → ∀ k, k < zfn ci → (zrf ci k = false → zft ci k = .int) ∧ (zrf ci k = true → defaultValue (zft ci k) = .null) := by decide +kernel
theorem zrf_int {ci k : Nat} (h : ci < zcl.length) (hk : k < zfn ci) (hr : zrf ci k = false) : zft ci k = .int := (zft_all ci h k hk).1 hr
theorem zrf_nar {ci k : Nat} (hr : zrf ci k = true) (r : Option Nat) : narrow (zft ci k) (va_rf r) = va_rf r := by
  unfold zrf at hr
  split at hr
  · rename_i e; rw [e]; cases r <;> rfl
  · rename_i e; rw [e]; cases r <;> rfl
  · cases hr
theorem zrf_fits {ci k : Nat} (hr : zrf ci k = true) (r : Option Nat) : fits (zft ci k) (va_rf r) = true := by
  unfold zrf at hr
  split at hr
  · rename_i e; rw [e]; cases r <;> rfl
  · rename_i e; rw [e]; cases r <;> rfl
  · cases hr
theorem zft_def {ci j : Nat} (h : ci < zcl.length) (hj : j < zfn ci) : defaultValue (zft ci j) = if zrf ci j = true then va_rf none else .int 0 := by
  cases hr : zrf ci j with
  | false => rw [zrf_int h hj hr]; rfl
  | true => rw [if_pos rfl]; exact (zft_all ci h j hj).2 hr
theorem zty_obj (t : Nat) (h2 : ¬ t < 2) (h : t < zty.length) : ∃ C, zty.getD t .int = .object C := by
  have h' : t < 5 := h
  rcases (show t = 2 ∨ t = 3 ∨ t = 4 by omega) with rfl | rfl | rfl
  · exact ⟨_, rfl⟩
  · exact ⟨_, rfl⟩
  · exact ⟨_, rfl⟩
theorem zRA_prim {t : Nat} (ht : t < 2) {U : State} {c : ClassId} (h : va_RA U c (zty.getD t .int)) : U.vm.findClass ("[" ++ (zty.getD t .int).toString) = some c := by
  rcases (show t = 0 ∨ t = 1 by omega) with rfl | rfl
  · exact h
  · exact h
theorem zdef_prim {t : Nat} (ht : t < 2) : defaultValue (zty.getD t .int) = .int 0 := by
  rcases (show t = 0 ∨ t = 1 by omega) with rfl | rfl <;> rfl
theorem zbytes {n : Nat} (hn : n ≤ 1000) (ty : ArrayType) : n * componentBytes (newarray.typeOf ty) ≤ 536870912 := by
  have h : componentBytes (newarray.typeOf ty) ≤ 8 := by cases ty <;> decide
  have := Nat.mul_le_mul hn h
  omega
def ztab_0 : List (Nat × ZI × Nat) := [(0, (2, 0, 0, 0, []), 1), (1, (41, 0, 0, 1, []), 4), (4, (2, 0, 0, 0, []), 5), (5, (0, 0, 1, 8, []), 7), (7, (32, 2, 5, 9, []), 10), (10, (23, 0, 0, 11, [0]), 13), (13, (2, 0, 0, 0, []), 14), (14, (0, 0, 0, 0, []), 15), (15, (22, 0, 1, 15, [0]), 18), (18, (2, 0, 0, 0, []), 19), (19, (0, 0, 0, 4, []), 20), (20, (32, 3, 3, 19, []), 23), (23, (23, 0, 2, 21, [0]), 26), (26, (0, 0, 0, 0, []), 27), (27, (3, 1, 0, 0, []), 28), (28, (1, 1, 0, 0, []), 29), (29, (0, 0, 0, 4, []), 30), (30, (11, 53, 3, 0, []), 33), (33, (2, 0, 0, 0, []), 34), (34, (21, 0, 2, 21, [0]), 37), (37, (1, 1, 0, 0, []), 38), (38, (31, 3, 0, 19, []), 41), (41, (7, 0, 0, 0, []), 42), (42, (1, 1, 0, 0, []), 43), (43, (40, 56, 2, 25, [2, 3]), 46), (46, (29, 3, 3, 0, []), 47), (47, (5, 1, 0, 1, []), 50), (50, (13, 28, 0, 0, []), 53), (53, (2, 0, 0, 0, []), 54), (54, (31, 1, 0, 28, []), 57), (57, (7, 0, 0, 0, []), 58), (58, (0, 0, 1, 10, []), 60), (60, (40, 47, 2, 30, [2, 1]), 63), (63, (23, 0, 3, 31, [0]), 66), (66, (0, 0, 0, 0, []), 67), (67, (3, 1, 0, 0, []), 68), (68, (1, 1, 0, 0, []), 69), (69, (0, 0, 1, 10, []), 71), (71, (11, 88, 3, 0, []), 74), (74, (2, 0, 0, 0, []), 75), (75, (21, 0, 3, 31, [0]), 78), (78, (1, 1, 0, 0, []), 79), (79, (40, 48, 2, 35, [1, 1]), 82), (82, (5, 1, 0, 1, []), 85), (85, (13, 68, 0, 0, []), 88), (88, (2, 0, 0, 0, []), 89), (89, (0, 0, 1, 10, []), 91), (91, (32, 0, 0, 0, []), 93), (93, (23, 0, 4, 38, [0]), 96), (96, (2, 0, 0, 0, []), 97), (97, (0, 0, 1, 16, []), 99), (99, (32, 0, 0, 0, []), 101), (101, (23, 0, 5, 42, [0]), 104), (104, (0, 0, 0, 0, []), 105), (105, (3, 1, 0, 0, []), 106), (106, (1, 1, 0, 0, []), 107), (107, (0, 0, 1, 16, []), 109), (109, (11, 125, 3, 0, []), 112), (112, (2, 0, 0, 0, []), 113), (113, (21, 0, 5, 42, [0]), 116), (116, (1, 1, 0, 0, []), 117), (117, (0, 0, 0, -1, []), 118), (118, (25, 0, 0, 0, []), 119), (119, (5, 1, 0, 1, []), 122), (122, (13, 106, 0, 0, []), 125), (125, (2, 0, 0, 0, []), 126), (126, (0, 0, 0, 4, []), 127), (127, (32, 1, 0, 0, []), 129), (129, (23, 0, 6, 45, [0]), 132), (132, (2, 0, 0, 0, []), 133), (133, (0, 0, 0, 0, []), 134), (134, (22, 0, 7, 49, [0]), 137), (137, (2, 0, 0, 0, []), 138), (138, (0, 0, 0, 0, []), 139), (139, (22, 0, 8, 52, [0]), 142), (142, (2, 0, 0, 0, []), 143), (143, (0, 0, 0, 0, []), 144), (144, (22, 0, 9, 55, [0]), 147), (147, (50, 0, 0, 0, []), 148)]
def ztab_1 : List (Nat × ZI × Nat) := [(0, (1, 1, 0, 0, []), 1), (1, (40, 21, 1, 58, [0, 0]), 4), (4, (12, 16, 0, 0, []), 7), (7, (2, 0, 0, 0, []), 8), (8, (20, 0, 1, 15, [0]), 11), (11, (0, 0, 1, 8, []), 13), (13, (11, 18, 2, 0, []), 16), (16, (0, 0, 0, -1, []), 17), (17, (51, 0, 0, 0, []), 18), (18, (2, 0, 0, 0, []), 19), (19, (20, 0, 1, 15, [0]), 22), (22, (3, 2, 0, 0, []), 23), (23, (2, 0, 0, 0, []), 24), (24, (21, 0, 0, 11, [0]), 27), (27, (1, 2, 0, 0, []), 28), (28, (31, 5, 0, 9, []), 31), (31, (7, 0, 0, 0, []), 32), (32, (1, 2, 0, 0, []), 33), (33, (1, 1, 0, 0, []), 34), (34, (40, 59, 3, 62, [2, 5]), 37), (37, (29, 2, 5, 0, []), 38), (38, (2, 0, 0, 0, []), 39), (39, (7, 0, 0, 0, []), 40), (40, (20, 0, 1, 15, [0]), 43), (43, (0, 0, 0, 1, []), 44), (44, (6, 0, 0, 0, []), 45), (45, (22, 0, 1, 15, [0]), 48), (48, (1, 2, 0, 0, []), 49), (49, (51, 0, 0, 0, []), 50)]
def ztab_2 : List (Nat × ZI × Nat) := [(0, (1, 2, 0, 0, []), 1), (1, (0, 0, 0, 1, []), 2), (2, (40, 22, 2, 65, [0, 0]), 5), (5, (12, 20, 0, 0, []), 8), (8, (2, 0, 0, 0, []), 9), (9, (1, 1, 0, 0, []), 10), (10, (0, 0, 0, 0, []), 11), (11, (1, 2, 0, 0, []), 12), (12, (0, 0, 0, 1, []), 13), (13, (0, 0, 0, 0, []), 14), (14, (40, 24, 6, 69, [1, 0]), 17), (17, (13, 21, 0, 0, []), 20), (20, (0, 0, 0, -1, []), 21), (21, (51, 0, 0, 0, []), 22)]
def ztab_3 : List (Nat × ZI × Nat) := [(0, (1, 2, 0, 0, []), 1), (1, (0, 0, 0, 1, []), 2), (2, (40, 22, 2, 65, [0, 0]), 5), (5, (12, 23, 0, 0, []), 8), (8, (1, 3, 0, 0, []), 9), (9, (12, 23, 2, 0, []), 12), (12, (1, 3, 0, 0, []), 13), (13, (0, 0, 2, 1000, []), 16), (16, (11, 23, 3, 0, []), 19), (19, (0, 0, 0, 1, []), 20), (20, (13, 24, 0, 0, []), 23), (23, (0, 0, 0, 0, []), 24), (24, (3, 4, 1, 0, []), 26), (26, (1, 4, 1, 0, []), 28), (28, (12, 43, 0, 0, []), 31), (31, (2, 0, 0, 0, []), 32), (32, (1, 1, 0, 0, []), 33), (33, (0, 0, 0, 1, []), 34), (34, (1, 2, 0, 0, []), 35), (35, (0, 0, 0, 1, []), 36), (36, (1, 3, 0, 0, []), 37), (37, (40, 24, 6, 69, [1, 0]), 40), (40, (13, 44, 0, 0, []), 43), (43, (0, 0, 0, -1, []), 44), (44, (51, 0, 0, 0, []), 45)]
def ztab_4 : List (Nat × ZI × Nat) := [(0, (1, 2, 0, 0, []), 1), (1, (1, 3, 0, 0, []), 2), (2, (40, 22, 2, 65, [0, 0]), 5), (5, (12, 29, 0, 0, []), 8), (8, (2, 0, 0, 0, []), 9), (9, (1, 1, 0, 0, []), 10), (10, (0, 0, 0, 2, []), 11), (11, (1, 2, 0, 0, []), 12), (12, (1, 3, 0, 0, []), 13), (13, (1, 4, 1, 0, []), 15), (15, (12, 22, 0, 0, []), 18), (18, (0, 0, 0, 1, []), 19), (19, (13, 23, 0, 0, []), 22), (22, (0, 0, 0, 0, []), 23), (23, (40, 24, 6, 69, [1, 0]), 26), (26, (13, 30, 0, 0, []), 29), (29, (0, 0, 0, -1, []), 30), (30, (51, 0, 0, 0, []), 31)]
def ztab_5 : List (Nat × ZI × Nat) := [(0, (1, 2, 0, 0, []), 1), (1, (1, 3, 0, 0, []), 2), (2, (40, 22, 2, 65, [0, 0]), 5), (5, (12, 20, 0, 0, []), 8), (8, (2, 0, 0, 0, []), 9), (9, (1, 1, 0, 0, []), 10), (10, (0, 0, 0, 3, []), 11), (11, (1, 2, 0, 0, []), 12), (12, (1, 3, 0, 0, []), 13), (13, (0, 0, 0, 0, []), 14), (14, (40, 24, 6, 69, [1, 0]), 17), (17, (13, 21, 0, 0, []), 20), (20, (0, 0, 0, -1, []), 21), (21, (51, 0, 0, 0, []), 22)]
def ztab_6 : List (Nat × ZI × Nat) := [(0, (1, 2, 0, 0, []), 1), (1, (1, 3, 0, 0, []), 2), (2, (40, 22, 2, 65, [0, 0]), 5), (5, (12, 20, 0, 0, []), 8), (8, (2, 0, 0, 0, []), 9), (9, (1, 1, 0, 0, []), 10), (10, (0, 0, 0, 4, []), 11), (11, (1, 2, 0, 0, []), 12), (12, (1, 3, 0, 0, []), 13), (13, (0, 0, 0, 0, []), 14), (14, (40, 24, 6, 69, [1, 0]), 17), (17, (13, 21, 0, 0, []), 20), (20, (0, 0, 0, -1, []), 21), (21, (51, 0, 0, 0, []), 22)]
def ztab_7 : List (Nat × ZI × Nat) := [(0, (1, 2, 0, 0, []), 1), (1, (40, 21, 1, 58, [0, 0]), 4), (4, (12, 19, 0, 0, []), 7), (7, (2, 0, 0, 0, []), 8), (8, (1, 1, 0, 0, []), 9), (9, (0, 0, 0, 5, []), 10), (10, (0, 0, 0, 0, []), 11), (11, (0, 0, 0, 0, []), 12), (12, (1, 2, 0, 0, []), 13), (13, (40, 24, 6, 69, [1, 0]), 16), (16, (13, 20, 0, 0, []), 19), (19, (0, 0, 0, -1, []), 20), (20, (51, 0, 0, 0, []), 21)]
def ztab_8 : List (Nat × ZI × Nat) := [(0, (1, 1, 0, 0, []), 1), (1, (40, 21, 1, 58, [0, 0]), 4), (4, (12, 20, 0, 0, []), 7), (7, (2, 0, 0, 0, []), 8), (8, (2, 0, 0, 0, []), 9), (9, (21, 0, 2, 21, [0]), 12), (12, (1, 1, 0, 0, []), 13), (13, (28, 3, 0, 0, []), 14), (14, (40, 25, 2, 73, [1, 0]), 17), (17, (13, 21, 0, 0, []), 20), (20, (0, 0, 0, -1, []), 21), (21, (51, 0, 0, 0, []), 22)]
def ztab_9 : List (Nat × ZI × Nat) := [(0, (1, 2, 0, 0, []), 1), (1, (0, 0, 0, 1, []), 2), (2, (11, 11, 2, 0, []), 5), (5, (1, 2, 0, 0, []), 6), (6, (0, 0, 1, 16, []), 8), (8, (11, 13, 5, 0, []), 11), (11, (0, 0, 0, -1, []), 12), (12, (51, 0, 0, 0, []), 13), (13, (0, 0, 0, 0, []), 14), (14, (3, 3, 0, 0, []), 15), (15, (0, 0, 0, 0, []), 16), (16, (3, 4, 1, 0, []), 18), (18, (1, 4, 1, 0, []), 20), (20, (1, 2, 0, 0, []), 21), (21, (11, 59, 3, 0, []), 24), (24, (1, 1, 0, 0, []), 25), (25, (0, 0, 0, 2, []), 26), (26, (1, 4, 1, 0, []), 28), (28, (6, 0, 2, 0, []), 29), (29, (6, 0, 6, 0, []), 30), (30, (0, 0, 0, 3, []), 31), (31, (6, 0, 4, 0, []), 32), (32, (3, 5, 1, 0, []), 34), (34, (2, 0, 0, 0, []), 35), (35, (2, 0, 0, 0, []), 36), (36, (21, 0, 2, 21, [0]), 39), (39, (1, 5, 1, 0, []), 41), (41, (28, 3, 0, 0, []), 42), (42, (40, 25, 2, 73, [1, 0]), 45), (45, (0, 0, 1, 16, []), 47), (47, (11, 53, 2, 0, []), 50), (50, (5, 3, 0, 1, []), 53), (53, (5, 4, 0, 1, []), 56), (56, (13, 18, 0, 0, []), 59), (59, (1, 3, 0, 0, []), 60), (60, (51, 0, 0, 0, []), 61)]
def ztab_10 : List (Nat × ZI × Nat) := [(0, (2, 0, 0, 0, []), 1), (1, (1, 1, 0, 0, []), 2), (2, (40, 23, 2, 77, [1, 0]), 5), (5, (4, 3, 0, 0, []), 6), (6, (2, 3, 0, 0, []), 7), (7, (15, 14, 0, 0, []), 10), (10, (0, 0, 0, -1, []), 11), (11, (13, 19, 0, 0, []), 14), (14, (2, 3, 0, 0, []), 15), (15, (1, 2, 0, 0, []), 16), (16, (40, 64, 2, 81, [1, 5]), 19), (19, (51, 0, 0, 0, []), 20)]
def ztab_11 : List (Nat × ZI × Nat) := [(0, (1, 1, 0, 0, []), 1), (1, (40, 21, 1, 58, [0, 0]), 4), (4, (12, 19, 0, 0, []), 7), (7, (2, 0, 0, 0, []), 8), (8, (21, 0, 2, 21, [0]), 11), (11, (1, 1, 0, 0, []), 12), (12, (28, 3, 0, 0, []), 13), (13, (20, 3, 5, 85, [1]), 16), (16, (13, 20, 0, 0, []), 19), (19, (0, 0, 0, -1, []), 20), (20, (51, 0, 0, 0, []), 21)]
def ztab_12 : List (Nat × ZI × Nat) := [(0, (2, 0, 0, 0, []), 1), (1, (2, 0, 0, 0, []), 2), (2, (1, 1, 0, 0, []), 3), (3, (40, 11, 2, 88, [1, 0]), 6), (6, (40, 23, 2, 77, [1, 0]), 9), (9, (4, 2, 0, 0, []), 10), (10, (2, 2, 0, 0, []), 11), (11, (15, 18, 0, 0, []), 14), (14, (0, 0, 0, -1, []), 15), (15, (13, 22, 0, 0, []), 18), (18, (2, 2, 0, 0, []), 19), (19, (20, 5, 5, 91, [1]), 22), (22, (51, 0, 0, 0, []), 23)]
def ztab_13 : List (Nat × ZI × Nat) := [(0, (1, 1, 0, 0, []), 1), (1, (40, 21, 1, 58, [0, 0]), 4), (4, (12, 23, 0, 0, []), 7), (7, (2, 0, 0, 0, []), 8), (8, (21, 0, 2, 21, [0]), 11), (11, (1, 1, 0, 0, []), 12), (12, (28, 3, 0, 0, []), 13), (13, (21, 3, 4, 94, [1]), 16), (16, (1, 2, 0, 0, []), 17), (17, (40, 49, 2, 97, [1, 1]), 20), (20, (13, 24, 0, 0, []), 23), (23, (0, 0, 0, -1, []), 24), (24, (51, 0, 0, 0, []), 25)]
def ztab_14 : List (Nat × ZI × Nat) := [(0, (1, 1, 0, 0, []), 1), (1, (40, 21, 1, 58, [0, 0]), 4), (4, (12, 22, 0, 0, []), 7), (7, (2, 0, 0, 0, []), 8), (8, (21, 0, 2, 21, [0]), 11), (11, (1, 1, 0, 0, []), 12), (12, (28, 3, 0, 0, []), 13), (13, (21, 3, 3, 100, [1]), 16), (16, (20, 1, 1, 103, [1]), 19), (19, (13, 23, 0, 0, []), 22), (22, (0, 0, 0, -1, []), 23), (23, (51, 0, 0, 0, []), 24)]
def ztab_15 : List (Nat × ZI × Nat) := [(0, (1, 1, 0, 0, []), 1), (1, (0, 0, 0, 1, []), 2), (2, (40, 22, 2, 65, [0, 0]), 5), (5, (12, 17, 0, 0, []), 8), (8, (2, 0, 0, 0, []), 9), (9, (21, 0, 5, 42, [0]), 12), (12, (1, 1, 0, 0, []), 13), (13, (24, 0, 0, 0, []), 14), (14, (13, 18, 0, 0, []), 17), (17, (0, 0, 0, -1, []), 18), (18, (51, 0, 0, 0, []), 19)]
def ztab_16 : List (Nat × ZI × Nat) := [(0, (1, 1, 0, 0, []), 1), (1, (40, 21, 1, 58, [0, 0]), 4), (4, (12, 23, 0, 0, []), 7), (7, (2, 0, 0, 0, []), 8), (8, (21, 0, 2, 21, [0]), 11), (11, (1, 1, 0, 0, []), 12), (12, (28, 3, 0, 0, []), 13), (13, (21, 3, 1, 106, [1]), 16), (16, (1, 2, 0, 0, []), 17), (17, (40, 53, 2, 110, [1, 2]), 20), (20, (13, 24, 0, 0, []), 23), (23, (0, 0, 0, -1, []), 24), (24, (51, 0, 0, 0, []), 25)]
def ztab_17 : List (Nat × ZI × Nat) := [(0, (1, 1, 0, 0, []), 1), (1, (12, 19, 2, 0, []), 4), (4, (1, 1, 0, 0, []), 5), (5, (0, 0, 1, 10, []), 7), (7, (11, 19, 3, 0, []), 10), (10, (2, 0, 0, 0, []), 11), (11, (21, 0, 4, 38, [0]), 14), (14, (1, 1, 0, 0, []), 15), (15, (24, 0, 0, 0, []), 16), (16, (13, 20, 0, 0, []), 19), (19, (0, 0, 0, -1, []), 20), (20, (51, 0, 0, 0, []), 21)]
def ztab_18 : List (Nat × ZI × Nat) := [(0, (1, 1, 0, 0, []), 1), (1, (0, 0, 0, 4, []), 2), (2, (11, 13, 1, 0, []), 5), (5, (2, 0, 0, 0, []), 6), (6, (21, 0, 3, 31, [0]), 9), (9, (20, 1, 1, 103, [1]), 12), (12, (51, 0, 0, 0, []), 13), (13, (1, 1, 0, 0, []), 14), (14, (40, 21, 1, 58, [0, 0]), 17), (17, (12, 35, 0, 0, []), 20), (20, (2, 0, 0, 0, []), 21), (21, (21, 0, 2, 21, [0]), 24), (24, (1, 1, 0, 0, []), 25), (25, (28, 3, 0, 0, []), 26), (26, (21, 3, 2, 115, [1]), 29), (29, (20, 1, 1, 103, [1]), 32), (32, (13, 36, 0, 0, []), 35), (35, (0, 0, 0, -1, []), 36), (36, (51, 0, 0, 0, []), 37)]
def ztab_19 : List (Nat × ZI × Nat) := [(0, (2, 0, 0, 0, []), 1), (1, (20, 0, 7, 49, [0]), 4), (4, (2, 0, 0, 0, []), 5), (5, (20, 0, 8, 52, [0]), 8), (8, (6, 0, 1, 0, []), 9), (9, (51, 0, 0, 0, []), 10)]
def ztab_20 : List (Nat × ZI × Nat) := [(0, (2, 0, 0, 0, []), 1), (1, (20, 0, 9, 55, [0]), 4), (4, (51, 0, 0, 0, []), 5)]
def ztab_21 : List (Nat × ZI × Nat) := [(0, (1, 0, 0, 0, []), 1), (1, (12, 13, 2, 0, []), 4), (4, (1, 0, 0, 0, []), 5), (5, (0, 0, 0, 4, []), 6), (6, (11, 13, 3, 0, []), 9), (9, (0, 0, 0, 1, []), 10), (10, (13, 14, 0, 0, []), 13), (13, (0, 0, 0, 0, []), 14), (14, (51, 0, 1, 0, []), 15)]
def ztab_22 : List (Nat × ZI × Nat) := [(0, (1, 1, 0, 0, []), 1), (1, (0, 0, 0, 1, []), 2), (2, (11, 26, 2, 0, []), 5), (5, (1, 1, 0, 0, []), 6), (6, (0, 0, 0, 4, []), 7), (7, (11, 26, 4, 0, []), 10), (10, (1, 0, 0, 0, []), 11), (11, (12, 26, 2, 0, []), 14), (14, (1, 0, 0, 0, []), 15), (15, (0, 0, 1, 16, []), 17), (17, (1, 1, 0, 0, []), 18), (18, (6, 0, 1, 0, []), 19), (19, (11, 26, 4, 0, []), 22), (22, (0, 0, 0, 1, []), 23), (23, (13, 27, 0, 0, []), 26), (26, (0, 0, 0, 0, []), 27), (27, (51, 0, 1, 0, []), 28)]
def ztab_23 : List (Nat × ZI × Nat) := [(0, (1, 1, 0, 0, []), 1), (1, (12, 21, 2, 0, []), 4), (4, (1, 1, 0, 0, []), 5), (5, (2, 0, 0, 0, []), 6), (6, (20, 0, 1, 15, [0]), 9), (9, (11, 21, 3, 0, []), 12), (12, (2, 0, 0, 0, []), 13), (13, (21, 0, 0, 11, [0]), 16), (16, (1, 1, 0, 0, []), 17), (17, (28, 2, 0, 0, []), 18), (18, (13, 22, 0, 0, []), 21), (21, (17, 0, 0, 0, []), 22), (22, (52, 0, 0, 0, []), 23)]
def ztab_24 : List (Nat × ZI × Nat) := [(0, (2, 0, 0, 0, []), 1), (1, (1, 1, 0, 0, []), 2), (2, (40, 23, 2, 77, [1, 0]), 5), (5, (4, 6, 1, 0, []), 7), (7, (2, 6, 1, 0, []), 9), (9, (14, 22, 0, 0, []), 12), (12, (2, 6, 1, 0, []), 14), (14, (20, 5, 2, 118, [1]), 17), (17, (0, 0, 1, 10, []), 19), (19, (11, 24, 2, 0, []), 22), (22, (0, 0, 0, -1, []), 23), (23, (51, 0, 0, 0, []), 24), (24, (2, 6, 1, 0, []), 26), (26, (40, 61, 1, 121, [1, 5]), 29), (29, (15, 36, 0, 0, []), 32), (32, (0, 0, 0, 1, []), 33), (33, (13, 37, 0, 0, []), 36), (36, (0, 0, 0, 0, []), 37), (37, (3, 7, 1, 0, []), 39), (39, (2, 6, 1, 0, []), 41), (41, (31, 4, 0, 125, []), 44), (44, (7, 0, 0, 0, []), 45), (45, (1, 2, 0, 0, []), 46), (46, (1, 3, 0, 0, []), 47), (47, (1, 4, 1, 0, []), 49), (49, (1, 5, 1, 0, []), 51), (51, (40, 57, 5, 127, [2, 4]), 54), (54, (40, 60, 2, 130, [1, 5]), 57), (57, (3, 8, 1, 0, []), 59), (59, (1, 7, 1, 0, []), 61), (61, (12, 90, 0, 0, []), 64), (64, (2, 6, 1, 0, []), 66), (66, (40, 62, 1, 134, [1, 5]), 69), (69, (2, 0, 0, 0, []), 70), (70, (21, 0, 2, 21, [0]), 73), (73, (2, 6, 1, 0, []), 75), (75, (20, 5, 4, 137, [1]), 78), (78, (28, 3, 0, 0, []), 79), (79, (21, 3, 4, 94, [1]), 82), (82, (2, 6, 1, 0, []), 84), (84, (20, 5, 0, 140, [1]), 87), (87, (40, 48, 2, 35, [1, 1]), 90), (90, (1, 8, 1, 0, []), 92), (92, (51, 0, 0, 0, []), 93)]
def ztab_25 : List (Nat × ZI × Nat) := [(0, (2, 0, 0, 0, []), 1), (1, (7, 0, 0, 0, []), 2), (2, (20, 0, 9, 55, [0]), 5), (5, (0, 0, 0, 1, []), 6), (6, (6, 0, 0, 0, []), 7), (7, (22, 0, 9, 55, [0]), 10), (10, (2, 1, 0, 0, []), 11), (11, (21, 3, 3, 100, [1]), 14), (14, (20, 1, 1, 103, [1]), 17), (17, (12, 27, 5, 0, []), 20), (20, (2, 0, 0, 0, []), 21), (21, (2, 1, 0, 0, []), 22), (22, (40, 26, 2, 143, [1, 0]), 25), (25, (0, 0, 0, 1, []), 26), (26, (51, 0, 0, 0, []), 27), (27, (2, 0, 0, 0, []), 28), (28, (2, 1, 0, 0, []), 29), (29, (20, 3, 5, 85, [1]), 32), (32, (40, 23, 2, 77, [1, 0]), 35), (35, (4, 2, 0, 0, []), 36), (36, (2, 2, 0, 0, []), 37), (37, (15, 44, 0, 0, []), 40), (40, (17, 0, 0, 0, []), 41), (41, (13, 48, 0, 0, []), 44), (44, (2, 2, 0, 0, []), 45), (45, (40, 61, 1, 121, [1, 5]), 48), (48, (4, 3, 0, 0, []), 49), (49, (2, 3, 0, 0, []), 50), (50, (15, 59, 0, 0, []), 53), (53, (2, 0, 0, 0, []), 54), (54, (2, 1, 0, 0, []), 55), (55, (40, 27, 2, 147, [1, 0]), 58), (58, (51, 0, 0, 0, []), 59), (59, (2, 2, 0, 0, []), 60), (60, (20, 5, 5, 91, [1]), 63), (63, (3, 4, 1, 0, []), 65), (65, (2, 0, 0, 0, []), 66), (66, (2, 2, 0, 0, []), 67), (67, (2, 3, 0, 0, []), 68), (68, (2, 1, 0, 0, []), 69), (69, (40, 30, 4, 150, [1, 0]), 72), (72, (12, 78, 1, 0, []), 75), (75, (1, 4, 1, 0, []), 77), (77, (51, 0, 0, 0, []), 78), (78, (2, 0, 0, 0, []), 79), (79, (2, 2, 0, 0, []), 80), (80, (2, 3, 0, 0, []), 81), (81, (2, 1, 0, 0, []), 82), (82, (40, 29, 4, 154, [1, 0]), 85), (85, (1, 4, 1, 0, []), 87), (87, (0, 0, 1, 16, []), 89), (89, (6, 0, 0, 0, []), 90), (90, (51, 0, 0, 0, []), 91)]
def ztab_26 : List (Nat × ZI × Nat) := [(0, (2, 0, 0, 0, []), 1), (1, (2, 1, 0, 0, []), 2), (2, (21, 3, 3, 100, [1]), 5), (5, (40, 50, 1, 158, [1, 1]), 8), (8, (40, 23, 2, 77, [1, 0]), 11), (11, (4, 2, 0, 0, []), 12), (12, (2, 2, 0, 0, []), 13), (13, (15, 20, 0, 0, []), 16), (16, (17, 0, 0, 0, []), 17), (17, (13, 24, 0, 0, []), 20), (20, (2, 2, 0, 0, []), 21), (21, (40, 61, 1, 121, [1, 5]), 24), (24, (4, 3, 0, 0, []), 25), (25, (2, 3, 0, 0, []), 26), (26, (14, 54, 0, 0, []), 29), (29, (2, 1, 0, 0, []), 30), (30, (21, 3, 1, 106, [1]), 33), (33, (2, 3, 0, 0, []), 34), (34, (20, 4, 1, 162, [1]), 37), (37, (2, 3, 0, 0, []), 38), (38, (20, 4, 2, 165, [1]), 41), (41, (40, 55, 3, 168, [1, 2]), 44), (44, (2, 2, 0, 0, []), 45), (45, (7, 0, 0, 0, []), 46), (46, (20, 5, 8, 171, [1]), 49), (49, (0, 0, 0, 1, []), 50), (50, (6, 0, 1, 0, []), 51), (51, (22, 5, 8, 171, [1]), 54), (54, (50, 0, 0, 0, []), 55)]
def ztab_27 : List (Nat × ZI × Nat) := [(0, (2, 1, 0, 0, []), 1), (1, (21, 3, 4, 94, [1]), 4), (4, (20, 1, 1, 103, [1]), 7), (7, (12, 23, 5, 0, []), 10), (10, (2, 1, 0, 0, []), 11), (11, (2, 1, 0, 0, []), 12), (12, (21, 3, 4, 94, [1]), 15), (15, (40, 50, 1, 158, [1, 1]), 18), (18, (22, 3, 5, 85, [1]), 21), (21, (0, 0, 0, 2, []), 22), (22, (51, 0, 0, 0, []), 23), (23, (2, 0, 0, 0, []), 24), (24, (40, 28, 1, 174, [1, 0]), 27), (27, (4, 2, 0, 0, []), 28), (28, (2, 2, 0, 0, []), 29), (29, (20, 1, 1, 103, [1]), 32), (32, (0, 0, 0, 2, []), 33), (33, (11, 38, 3, 0, []), 36), (36, (0, 0, 0, 0, []), 37), (37, (51, 0, 0, 0, []), 38), (38, (2, 1, 0, 0, []), 39), (39, (2, 2, 0, 0, []), 40), (40, (40, 51, 1, 178, [1, 1]), 43), (43, (22, 3, 5, 85, [1]), 46), (46, (0, 0, 0, 3, []), 47), (47, (51, 0, 0, 0, []), 48)]
def ztab_28 : List (Nat × ZI × Nat) := [(0, (2, 0, 0, 0, []), 1), (1, (21, 0, 2, 21, [0]), 4), (4, (0, 0, 0, 0, []), 5), (5, (28, 3, 0, 0, []), 6), (6, (21, 3, 4, 94, [1]), 9), (9, (4, 1, 0, 0, []), 10), (10, (0, 0, 0, 1, []), 11), (11, (3, 2, 0, 0, []), 12), (12, (1, 2, 0, 0, []), 13), (13, (0, 0, 0, 4, []), 14), (14, (11, 52, 3, 0, []), 17), (17, (2, 0, 0, 0, []), 18), (18, (21, 0, 2, 21, [0]), 21), (21, (1, 2, 0, 0, []), 22), (22, (28, 3, 0, 0, []), 23), (23, (21, 3, 4, 94, [1]), 26), (26, (20, 1, 1, 103, [1]), 29), (29, (2, 1, 0, 0, []), 30), (30, (20, 1, 1, 103, [1]), 33), (33, (11, 46, 5, 0, []), 36), (36, (2, 0, 0, 0, []), 37), (37, (21, 0, 2, 21, [0]), 40), (40, (1, 2, 0, 0, []), 41), (41, (28, 3, 0, 0, []), 42), (42, (21, 3, 4, 94, [1]), 45), (45, (4, 1, 0, 0, []), 46), (46, (5, 2, 0, 1, []), 49), (49, (13, 12, 0, 0, []), 52), (52, (2, 1, 0, 0, []), 53), (53, (52, 0, 0, 0, []), 54)]
def ztab_29 : List (Nat × ZI × Nat) := [(0, (2, 2, 0, 0, []), 1), (1, (2, 1, 0, 0, []), 2), (2, (20, 5, 9, 181, [1]), 5), (5, (22, 4, 4, 184, [1]), 8), (8, (2, 1, 0, 0, []), 9), (9, (7, 0, 0, 0, []), 10), (10, (20, 5, 3, 187, [1]), 13), (13, (0, 0, 0, 1, []), 14), (14, (6, 0, 0, 0, []), 15), (15, (22, 5, 3, 187, [1]), 18), (18, (2, 1, 0, 0, []), 19), (19, (40, 61, 1, 121, [1, 5]), 22), (22, (14, 29, 0, 0, []), 25), (25, (0, 0, 0, 1, []), 26), (26, (13, 30, 0, 0, []), 29), (29, (0, 0, 0, 0, []), 30), (30, (3, 4, 1, 0, []), 32), (32, (1, 4, 1, 0, []), 34), (34, (12, 41, 0, 0, []), 37), (37, (2, 1, 0, 0, []), 38), (38, (40, 62, 1, 134, [1, 5]), 41), (41, (2, 2, 0, 0, []), 42), (42, (20, 4, 0, 190, [1]), 45), (45, (0, 0, 0, 5, []), 46), (46, (11, 53, 1, 0, []), 49), (49, (0, 0, 0, 1, []), 50), (50, (13, 54, 0, 0, []), 53), (53, (0, 0, 0, 0, []), 54), (54, (3, 5, 1, 0, []), 56), (56, (1, 4, 1, 0, []), 58), (58, (12, 77, 0, 0, []), 61), (61, (1, 5, 1, 0, []), 63), (63, (12, 77, 1, 0, []), 66), (66, (2, 3, 0, 0, []), 67), (67, (21, 3, 4, 94, [1]), 70), (70, (20, 1, 1, 103, [1]), 73), (73, (12, 77, 1, 0, []), 76), (76, (50, 0, 0, 0, []), 77), (77, (2, 3, 0, 0, []), 78), (78, (0, 0, 0, -1, []), 79), (79, (22, 3, 5, 85, [1]), 82), (82, (2, 1, 0, 0, []), 83), (83, (1, 5, 1, 0, []), 85), (85, (12, 95, 0, 0, []), 88), (88, (2, 2, 0, 0, []), 89), (89, (20, 4, 3, 193, [1]), 92), (92, (13, 99, 0, 0, []), 95), (95, (2, 3, 0, 0, []), 96), (96, (20, 3, 0, 196, [1]), 99), (99, (22, 5, 4, 137, [1]), 102), (102, (1, 4, 1, 0, []), 104), (104, (12, 126, 0, 0, []), 107), (107, (2, 0, 0, 0, []), 108), (108, (21, 0, 2, 21, [0]), 111), (111, (2, 1, 0, 0, []), 112), (112, (20, 5, 4, 137, [1]), 115), (115, (28, 3, 0, 0, []), 116), (116, (21, 3, 4, 94, [1]), 119), (119, (2, 1, 0, 0, []), 120), (120, (20, 5, 0, 140, [1]), 123), (123, (40, 48, 2, 35, [1, 1]), 126), (126, (50, 0, 0, 0, []), 127)]
def ztab_30 : List (Nat × ZI × Nat) := [(0, (2, 1, 0, 0, []), 1), (1, (20, 5, 5, 91, [1]), 4), (4, (16, 157, 0, 4, [64, 72, 79, 87, 94, 102, 111, 120, 129, 137, 145]), 64), (64, (2, 0, 0, 0, []), 65), (65, (2, 1, 0, 0, []), 66), (66, (2, 2, 0, 0, []), 67), (67, (2, 3, 0, 0, []), 68), (68, (40, 31, 4, 197, [1, 0]), 71), (71, (51, 0, 1, 0, []), 72), (72, (2, 0, 0, 0, []), 73), (73, (2, 1, 0, 0, []), 74), (74, (2, 2, 0, 0, []), 75), (75, (40, 32, 3, 200, [1, 0]), 78), (78, (51, 0, 1, 0, []), 79), (79, (2, 0, 0, 0, []), 80), (80, (2, 1, 0, 0, []), 81), (81, (2, 2, 0, 0, []), 82), (82, (2, 3, 0, 0, []), 83), (83, (40, 33, 4, 204, [1, 0]), 86), (86, (51, 0, 1, 0, []), 87), (87, (2, 0, 0, 0, []), 88), (88, (2, 1, 0, 0, []), 89), (89, (40, 34, 2, 207, [1, 0]), 92), (92, (0, 0, 0, 0, []), 93), (93, (51, 0, 1, 0, []), 94), (94, (2, 0, 0, 0, []), 95), (95, (2, 1, 0, 0, []), 96), (96, (2, 2, 0, 0, []), 97), (97, (40, 35, 3, 211, [1, 0]), 100), (100, (0, 0, 0, 0, []), 101), (101, (51, 0, 1, 0, []), 102), (102, (2, 0, 0, 0, []), 103), (103, (2, 1, 0, 0, []), 104), (104, (2, 2, 0, 0, []), 105), (105, (2, 3, 0, 0, []), 106), (106, (40, 36, 4, 215, [1, 0]), 109), (109, (0, 0, 0, 0, []), 110), (110, (51, 0, 1, 0, []), 111), (111, (2, 0, 0, 0, []), 112), (112, (2, 1, 0, 0, []), 113), (113, (2, 2, 0, 0, []), 114), (114, (2, 3, 0, 0, []), 115), (115, (40, 38, 4, 218, [1, 0]), 118), (118, (0, 0, 0, 0, []), 119), (119, (51, 0, 1, 0, []), 120), (120, (2, 0, 0, 0, []), 121), (121, (2, 1, 0, 0, []), 122), (122, (2, 2, 0, 0, []), 123), (123, (2, 3, 0, 0, []), 124), (124, (40, 42, 4, 221, [1, 0]), 127), (127, (0, 0, 0, 0, []), 128), (128, (51, 0, 1, 0, []), 129), (129, (2, 0, 0, 0, []), 130), (130, (2, 1, 0, 0, []), 131), (131, (2, 2, 0, 0, []), 132), (132, (40, 43, 3, 224, [1, 0]), 135), (135, (0, 0, 0, 0, []), 136), (136, (51, 0, 1, 0, []), 137), (137, (2, 0, 0, 0, []), 138), (138, (2, 1, 0, 0, []), 139), (139, (2, 3, 0, 0, []), 140), (140, (40, 44, 3, 227, [1, 0]), 143), (143, (0, 0, 0, 0, []), 144), (144, (51, 0, 1, 0, []), 145), (145, (2, 0, 0, 0, []), 146), (146, (7, 0, 0, 0, []), 147), (147, (20, 0, 8, 52, [0]), 150), (150, (0, 0, 0, 1, []), 151), (151, (6, 0, 0, 0, []), 152), (152, (22, 0, 8, 52, [0]), 155), (155, (0, 0, 0, 1, []), 156), (156, (51, 0, 1, 0, []), 157), (157, (0, 0, 0, 1, []), 158), (158, (51, 0, 1, 0, []), 159)]
def ztab_31 : List (Nat × ZI × Nat) := [(0, (2, 3, 0, 0, []), 1), (1, (21, 3, 1, 106, [1]), 4), (4, (2, 2, 0, 0, []), 5), (5, (20, 4, 1, 162, [1]), 8), (8, (40, 53, 2, 110, [1, 2]), 11), (11, (3, 4, 1, 0, []), 13), (13, (1, 4, 1, 0, []), 15), (15, (0, 0, 0, -1, []), 16), (16, (11, 26, 1, 0, []), 19), (19, (2, 1, 0, 0, []), 20), (20, (0, 0, 0, 5, []), 21), (21, (22, 5, 5, 91, [1]), 24), (24, (0, 0, 0, 0, []), 25), (25, (51, 0, 1, 0, []), 26), (26, (2, 2, 0, 0, []), 27), (27, (20, 4, 0, 190, [1]), 30), (30, (0, 0, 0, 1, []), 31), (31, (11, 50, 1, 0, []), 34), (34, (1, 4, 1, 0, []), 36), (36, (40, 45, 1, 231, [0, 0]), 39), (39, (12, 50, 1, 0, []), 42), (42, (2, 1, 0, 0, []), 43), (43, (0, 0, 1, -2, []), 45), (45, (22, 5, 9, 181, [1]), 48), (48, (0, 0, 0, 1, []), 49), (49, (51, 0, 1, 0, []), 50), (50, (1, 4, 1, 0, []), 52), (52, (40, 46, 1, 234, [0, 0]), 55), (55, (3, 5, 1, 0, []), 57), (57, (2, 1, 0, 0, []), 58), (58, (2, 0, 0, 0, []), 59), (59, (21, 0, 4, 38, [0]), 62), (62, (1, 5, 1, 0, []), 64), (64, (24, 0, 0, 0, []), 65), (65, (22, 5, 9, 181, [1]), 68), (68, (2, 2, 0, 0, []), 69), (69, (20, 4, 0, 190, [1]), 72), (72, (0, 0, 0, 1, []), 73), (73, (11, 87, 1, 0, []), 76), (76, (2, 0, 0, 0, []), 77), (77, (21, 0, 4, 38, [0]), 80), (80, (1, 5, 1, 0, []), 82), (82, (2, 2, 0, 0, []), 83), (83, (20, 4, 3, 193, [1]), 86), (86, (25, 0, 0, 0, []), 87), (87, (0, 0, 0, 1, []), 88), (88, (51, 0, 1, 0, []), 89)]
def ztab_32 : List (Nat × ZI × Nat) := [(0, (2, 0, 0, 0, []), 1), (1, (21, 0, 6, 45, [0]), 4), (4, (2, 2, 0, 0, []), 5), (5, (20, 4, 1, 162, [1]), 8), (8, (0, 0, 0, 4, []), 9), (9, (6, 0, 3, 0, []), 10), (10, (26, 0, 0, 0, []), 11), (11, (12, 22, 1, 0, []), 14), (14, (2, 1, 0, 0, []), 15), (15, (0, 0, 1, -2, []), 17), (17, (22, 5, 9, 181, [1]), 20), (20, (0, 0, 0, 1, []), 21), (21, (51, 0, 1, 0, []), 22), (22, (2, 1, 0, 0, []), 23), (23, (0, 0, 1, 6, []), 25), (25, (22, 5, 5, 91, [1]), 28), (28, (0, 0, 0, 0, []), 29), (29, (51, 0, 1, 0, []), 30)]
def ztab_33 : List (Nat × ZI × Nat) := [(0, (2, 0, 0, 0, []), 1), (1, (21, 0, 5, 42, [0]), 4), (4, (2, 2, 0, 0, []), 5), (5, (20, 4, 1, 162, [1]), 8), (8, (24, 0, 0, 0, []), 9), (9, (3, 4, 1, 0, []), 11), (11, (1, 4, 1, 0, []), 13), (13, (0, 0, 0, -1, []), 14), (14, (11, 33, 0, 0, []), 17), (17, (2, 2, 0, 0, []), 18), (18, (20, 4, 0, 190, [1]), 21), (21, (0, 0, 0, 1, []), 22), (22, (11, 41, 1, 0, []), 25), (25, (1, 4, 1, 0, []), 27), (27, (40, 45, 1, 231, [0, 0]), 30), (30, (12, 41, 1, 0, []), 33), (33, (2, 1, 0, 0, []), 34), (34, (0, 0, 1, -2, []), 36), (36, (22, 5, 9, 181, [1]), 39), (39, (0, 0, 0, 1, []), 40), (40, (51, 0, 1, 0, []), 41), (41, (2, 3, 0, 0, []), 42), (42, (21, 3, 1, 106, [1]), 45), (45, (2, 2, 0, 0, []), 46), (46, (20, 4, 1, 162, [1]), 49), (49, (1, 4, 1, 0, []), 51), (51, (40, 54, 3, 237, [1, 2]), 54), (54, (2, 1, 0, 0, []), 55), (55, (0, 0, 0, 4, []), 56), (56, (22, 5, 5, 91, [1]), 59), (59, (0, 0, 0, 0, []), 60), (60, (51, 0, 1, 0, []), 61)]
def ztab_34 : List (Nat × ZI × Nat) := [(0, (2, 1, 0, 0, []), 1), (1, (2, 0, 0, 0, []), 2), (2, (20, 0, 7, 49, [0]), 5), (5, (22, 5, 7, 240, [1]), 8), (8, (2, 0, 0, 0, []), 9), (9, (7, 0, 0, 0, []), 10), (10, (20, 0, 7, 49, [0]), 13), (13, (0, 0, 0, 1, []), 14), (14, (6, 0, 0, 0, []), 15), (15, (22, 0, 7, 49, [0]), 18), (18, (2, 1, 0, 0, []), 19), (19, (0, 0, 1, 8, []), 21), (21, (22, 5, 5, 91, [1]), 24), (24, (50, 0, 0, 0, []), 25)]
def ztab_35 : List (Nat × ZI × Nat) := [(0, (2, 0, 0, 0, []), 1), (1, (20, 0, 8, 52, [0]), 4), (4, (2, 1, 0, 0, []), 5), (5, (20, 5, 7, 240, [1]), 8), (8, (11, 30, 1, 0, []), 11), (11, (2, 1, 0, 0, []), 12), (12, (2, 2, 0, 0, []), 13), (13, (20, 4, 0, 190, [1]), 16), (16, (0, 0, 0, 2, []), 17), (17, (11, 25, 1, 0, []), 20), (20, (0, 0, 1, 9, []), 22), (22, (13, 27, 0, 0, []), 25), (25, (0, 0, 1, 10, []), 27), (27, (22, 5, 5, 91, [1]), 30), (30, (50, 0, 0, 0, []), 31)]
def ztab_36 : List (Nat × ZI × Nat) := [(0, (2, 3, 0, 0, []), 1), (1, (21, 3, 2, 115, [1]), 4), (4, (20, 1, 1, 103, [1]), 7), (7, (2, 0, 0, 0, []), 8), (8, (21, 0, 3, 31, [0]), 11), (11, (20, 1, 1, 103, [1]), 14), (14, (6, 0, 0, 0, []), 15), (15, (2, 2, 0, 0, []), 16), (16, (20, 4, 2, 165, [1]), 19), (19, (11, 26, 2, 0, []), 22), (22, (0, 0, 0, 1, []), 23), (23, (13, 27, 0, 0, []), 26), (26, (0, 0, 0, 0, []), 27), (27, (3, 4, 1, 0, []), 29), (29, (1, 4, 1, 0, []), 31), (31, (12, 58, 0, 0, []), 34), (34, (2, 0, 0, 0, []), 35), (35, (2, 2, 0, 0, []), 36), (36, (20, 4, 1, 162, [1]), 39), (39, (2, 2, 0, 0, []), 40), (40, (20, 4, 2, 165, [1]), 43), (43, (40, 37, 3, 243, [1, 0]), 46), (46, (12, 58, 0, 0, []), 49), (49, (2, 1, 0, 0, []), 50), (50, (0, 0, 1, 10, []), 52), (52, (22, 5, 5, 91, [1]), 55), (55, (13, 70, 0, 0, []), 58), (58, (2, 1, 0, 0, []), 59), (59, (0, 0, 1, -3, []), 61), (61, (22, 5, 9, 181, [1]), 64), (64, (2, 1, 0, 0, []), 65), (65, (0, 0, 1, 14, []), 67), (67, (22, 5, 5, 91, [1]), 70), (70, (50, 0, 0, 0, []), 71)]
def ztab_37 : List (Nat × ZI × Nat) := [(0, (1, 1, 0, 0, []), 1), (1, (3, 3, 0, 0, []), 2), (2, (1, 3, 0, 0, []), 3), (3, (1, 1, 0, 0, []), 4), (4, (1, 2, 0, 0, []), 5), (5, (6, 0, 0, 0, []), 6), (6, (11, 27, 3, 0, []), 9), (9, (2, 0, 0, 0, []), 10), (10, (21, 0, 5, 42, [0]), 13), (13, (1, 3, 0, 0, []), 14), (14, (24, 0, 0, 0, []), 15), (15, (0, 0, 0, -1, []), 16), (16, (11, 21, 0, 0, []), 19), (19, (0, 0, 0, 0, []), 20), (20, (51, 0, 1, 0, []), 21), (21, (5, 3, 0, 1, []), 24), (24, (13, 2, 0, 0, []), 27), (27, (0, 0, 0, 1, []), 28), (28, (51, 0, 1, 0, []), 29)]
def ztab_38 : List (Nat × ZI × Nat) := [(0, (2, 2, 0, 0, []), 1), (1, (20, 4, 1, 162, [1]), 4), (4, (2, 1, 0, 0, []), 5), (5, (20, 5, 6, 246, [1]), 8), (8, (6, 0, 0, 0, []), 9), (9, (3, 4, 1, 0, []), 11), (11, (2, 2, 0, 0, []), 12), (12, (20, 4, 0, 190, [1]), 15), (15, (0, 0, 0, 2, []), 16), (16, (11, 35, 1, 0, []), 19), (19, (2, 0, 0, 0, []), 20), (20, (1, 4, 1, 0, []), 22), (22, (2, 2, 0, 0, []), 23), (23, (20, 4, 3, 193, [1]), 26), (26, (2, 3, 0, 0, []), 27), (27, (40, 39, 4, 249, [1, 0]), 30), (30, (3, 5, 1, 0, []), 32), (32, (13, 63, 0, 0, []), 35), (35, (2, 2, 0, 0, []), 36), (36, (20, 4, 0, 190, [1]), 39), (39, (0, 0, 0, 3, []), 40), (40, (11, 55, 1, 0, []), 43), (43, (2, 0, 0, 0, []), 44), (44, (1, 4, 1, 0, []), 46), (46, (2, 1, 0, 0, []), 47), (47, (40, 40, 3, 253, [1, 0]), 50), (50, (3, 5, 1, 0, []), 52), (52, (13, 63, 0, 0, []), 55), (55, (2, 0, 0, 0, []), 56), (56, (1, 4, 1, 0, []), 58), (58, (40, 41, 2, 257, [1, 0]), 61), (61, (3, 5, 1, 0, []), 63), (63, (1, 5, 1, 0, []), 65), (65, (12, 78, 0, 0, []), 68), (68, (2, 1, 0, 0, []), 69), (69, (7, 0, 0, 0, []), 70), (70, (20, 5, 9, 181, [1]), 73), (73, (0, 0, 0, 1, []), 74), (74, (6, 0, 0, 0, []), 75), (75, (22, 5, 9, 181, [1]), 78), (78, (2, 1, 0, 0, []), 79), (79, (7, 0, 0, 0, []), 80), (80, (20, 5, 6, 246, [1]), 83), (83, (0, 0, 0, 1, []), 84), (84, (6, 0, 0, 0, []), 85), (85, (22, 5, 6, 246, [1]), 88), (88, (2, 1, 0, 0, []), 89), (89, (20, 5, 6, 246, [1]), 92), (92, (2, 2, 0, 0, []), 93), (93, (20, 4, 2, 165, [1]), 96), (96, (11, 137, 2, 0, []), 99), (99, (2, 2, 0, 0, []), 100), (100, (20, 4, 0, 190, [1]), 103), (103, (0, 0, 0, 2, []), 104), (104, (11, 118, 0, 0, []), 107), (107, (2, 1, 0, 0, []), 108), (108, (20, 5, 9, 181, [1]), 111), (111, (12, 118, 5, 0, []), 114), (114, (0, 0, 0, 1, []), 115), (115, (13, 119, 0, 0, []), 118), (118, (0, 0, 0, 0, []), 119), (119, (3, 6, 1, 0, []), 121), (121, (2, 1, 0, 0, []), 122), (122, (1, 6, 1, 0, []), 124), (124, (12, 132, 0, 0, []), 127), (127, (0, 0, 1, 11, []), 129), (129, (13, 134, 0, 0, []), 132), (132, (0, 0, 1, 14, []), 134), (134, (40, 63, 2, 260, [1, 5]), 137), (137, (50, 0, 0, 0, []), 138)]
def ztab_39 : List (Nat × ZI × Nat) := [(0, (2, 3, 0, 0, []), 1), (1, (21, 3, 2, 115, [1]), 4), (4, (20, 1, 1, 103, [1]), 7), (7, (12, 20, 5, 0, []), 10), (10, (2, 3, 0, 0, []), 11), (11, (21, 3, 2, 115, [1]), 14), (14, (40, 51, 1, 178, [1, 1]), 17), (17, (13, 27, 0, 0, []), 20), (20, (2, 0, 0, 0, []), 21), (21, (21, 0, 3, 31, [0]), 24), (24, (40, 50, 1, 158, [1, 1]), 27), (27, (3, 4, 1, 0, []), 29), (29, (1, 4, 1, 0, []), 31), (31, (0, 0, 0, -1, []), 32), (32, (11, 37, 1, 0, []), 35), (35, (0, 0, 0, 0, []), 36), (36, (51, 0, 1, 0, []), 37), (37, (2, 0, 0, 0, []), 38), (38, (21, 0, 4, 38, [0]), 41), (41, (1, 4, 1, 0, []), 43), (43, (0, 0, 0, 0, []), 44), (44, (25, 0, 0, 0, []), 45), (45, (2, 0, 0, 0, []), 46), (46, (21, 0, 5, 42, [0]), 49), (49, (1, 1, 0, 0, []), 50), (50, (0, 0, 0, 2, []), 51), (51, (1, 4, 1, 0, []), 53), (53, (6, 0, 2, 0, []), 54), (54, (1, 2, 0, 0, []), 55), (55, (6, 0, 0, 0, []), 56), (56, (25, 0, 0, 0, []), 57), (57, (2, 0, 0, 0, []), 58), (58, (21, 0, 6, 45, [0]), 61), (61, (1, 1, 0, 0, []), 62), (62, (0, 0, 0, 4, []), 63), (63, (6, 0, 3, 0, []), 64), (64, (0, 0, 0, 1, []), 65), (65, (27, 0, 0, 0, []), 66), (66, (0, 0, 0, 1, []), 67), (67, (51, 0, 1, 0, []), 68)]
def ztab_40 : List (Nat × ZI × Nat) := [(0, (2, 0, 0, 0, []), 1), (1, (21, 0, 5, 42, [0]), 4), (4, (1, 1, 0, 0, []), 5), (5, (24, 0, 0, 0, []), 6), (6, (3, 3, 0, 0, []), 7), (7, (1, 3, 0, 0, []), 8), (8, (0, 0, 0, -1, []), 9), (9, (11, 14, 1, 0, []), 12), (12, (0, 0, 0, 0, []), 13), (13, (51, 0, 1, 0, []), 14), (14, (2, 0, 0, 0, []), 15), (15, (21, 0, 5, 42, [0]), 18), (18, (1, 1, 0, 0, []), 19), (19, (0, 0, 0, -1, []), 20), (20, (25, 0, 0, 0, []), 21), (21, (2, 2, 0, 0, []), 22), (22, (21, 5, 10, 263, [1]), 25), (25, (1, 3, 0, 0, []), 26), (26, (40, 46, 1, 234, [0, 0]), 29), (29, (40, 48, 2, 35, [1, 1]), 32), (32, (0, 0, 0, 1, []), 33), (33, (51, 0, 1, 0, []), 34)]
def ztab_41 : List (Nat × ZI × Nat) := [(0, (2, 0, 0, 0, []), 1), (1, (21, 0, 5, 42, [0]), 4), (4, (1, 1, 0, 0, []), 5), (5, (24, 0, 0, 0, []), 6), (6, (3, 2, 0, 0, []), 7), (7, (1, 2, 0, 0, []), 8), (8, (0, 0, 0, -1, []), 9), (9, (11, 19, 0, 0, []), 12), (12, (1, 2, 0, 0, []), 13), (13, (40, 45, 1, 231, [0, 0]), 16), (16, (12, 21, 1, 0, []), 19), (19, (0, 0, 0, 0, []), 20), (20, (51, 0, 1, 0, []), 21), (21, (2, 0, 0, 0, []), 22), (22, (21, 0, 5, 42, [0]), 25), (25, (1, 1, 0, 0, []), 26), (26, (1, 2, 0, 0, []), 27), (27, (0, 0, 0, 1, []), 28), (28, (6, 0, 1, 0, []), 29), (29, (25, 0, 0, 0, []), 30), (30, (0, 0, 0, 1, []), 31), (31, (51, 0, 1, 0, []), 32)]
def ztab_42 : List (Nat × ZI × Nat) := [(0, (2, 1, 0, 0, []), 1), (1, (20, 5, 6, 246, [1]), 4), (4, (2, 3, 0, 0, []), 5), (5, (20, 3, 0, 196, [1]), 8), (8, (11, 29, 1, 0, []), 11), (11, (2, 3, 0, 0, []), 12), (12, (21, 3, 1, 106, [1]), 15), (15, (2, 2, 0, 0, []), 16), (16, (20, 4, 1, 162, [1]), 19), (19, (2, 2, 0, 0, []), 20), (20, (20, 4, 2, 165, [1]), 23), (23, (40, 55, 3, 168, [1, 2]), 26), (26, (13, 58, 0, 0, []), 29), (29, (2, 0, 0, 0, []), 30), (30, (21, 0, 2, 21, [0]), 33), (33, (2, 1, 0, 0, []), 34), (34, (20, 5, 6, 246, [1]), 37), (37, (28, 3, 0, 0, []), 38), (38, (21, 3, 3, 100, [1]), 41), (41, (2, 1, 0, 0, []), 42), (42, (20, 5, 0, 140, [1]), 45), (45, (40, 48, 2, 35, [1, 1]), 48), (48, (2, 1, 0, 0, []), 49), (49, (7, 0, 0, 0, []), 50), (50, (20, 5, 8, 171, [1]), 53), (53, (0, 0, 0, 1, []), 54), (54, (6, 0, 0, 0, []), 55), (55, (22, 5, 8, 171, [1]), 58), (58, (2, 1, 0, 0, []), 59), (59, (7, 0, 0, 0, []), 60), (60, (20, 5, 6, 246, [1]), 63), (63, (0, 0, 0, 1, []), 64), (64, (6, 0, 0, 0, []), 65), (65, (22, 5, 6, 246, [1]), 68), (68, (2, 1, 0, 0, []), 69), (69, (20, 5, 6, 246, [1]), 72), (72, (0, 0, 0, 4, []), 73), (73, (11, 82, 2, 0, []), 76), (76, (2, 1, 0, 0, []), 77), (77, (0, 0, 1, 12, []), 79), (79, (40, 63, 2, 260, [1, 5]), 82), (82, (50, 0, 0, 0, []), 83)]
def ztab_43 : List (Nat × ZI × Nat) := [(0, (2, 1, 0, 0, []), 1), (1, (20, 5, 8, 171, [1]), 4), (4, (12, 26, 1, 0, []), 7), (7, (2, 1, 0, 0, []), 8), (8, (2, 2, 0, 0, []), 9), (9, (20, 4, 0, 190, [1]), 12), (12, (0, 0, 0, 3, []), 13), (13, (11, 21, 1, 0, []), 16), (16, (0, 0, 1, 13, []), 18), (18, (13, 23, 0, 0, []), 21), (21, (0, 0, 1, 14, []), 23), (23, (22, 5, 5, 91, [1]), 26), (26, (50, 0, 0, 0, []), 27)]
def ztab_44 : List (Nat × ZI × Nat) := [(0, (2, 1, 0, 0, []), 1), (1, (21, 5, 10, 263, [1]), 4), (4, (40, 50, 1, 158, [1, 1]), 7), (7, (3, 3, 0, 0, []), 8), (8, (2, 2, 0, 0, []), 9), (9, (21, 3, 2, 115, [1]), 12), (12, (20, 1, 1, 103, [1]), 15), (15, (0, 0, 0, 2, []), 16), (16, (11, 30, 3, 0, []), 19), (19, (2, 2, 0, 0, []), 20), (20, (21, 3, 2, 115, [1]), 23), (23, (1, 3, 0, 0, []), 24), (24, (40, 48, 2, 35, [1, 1]), 27), (27, (13, 38, 0, 0, []), 30), (30, (2, 0, 0, 0, []), 31), (31, (21, 0, 3, 31, [0]), 34), (34, (1, 3, 0, 0, []), 35), (35, (40, 48, 2, 35, [1, 1]), 38), (38, (2, 1, 0, 0, []), 39), (39, (21, 5, 10, 263, [1]), 42), (42, (20, 1, 1, 103, [1]), 45), (45, (12, 54, 1, 0, []), 48), (48, (2, 1, 0, 0, []), 49), (49, (0, 0, 1, 14, []), 51), (51, (22, 5, 5, 91, [1]), 54), (54, (50, 0, 0, 0, []), 55)]
def ztab_45 : List (Nat × ZI × Nat) := [(0, (1, 0, 0, 0, []), 1), (1, (0, 0, 0, 1, []), 2), (2, (6, 0, 4, 0, []), 3), (3, (0, 0, 0, 1, []), 4), (4, (11, 11, 1, 0, []), 7), (7, (0, 0, 0, 1, []), 8), (8, (13, 12, 0, 0, []), 11), (11, (0, 0, 0, 0, []), 12), (12, (51, 0, 1, 0, []), 13)]
def ztab_46 : List (Nat × ZI × Nat) := [(0, (1, 0, 0, 0, []), 1), (1, (0, 0, 0, 1, []), 2), (2, (6, 0, 5, 0, []), 3), (3, (51, 0, 0, 0, []), 4)]
def ztab_47 : List (Nat × ZI × Nat) := [(0, (2, 0, 0, 0, []), 1), (1, (41, 0, 0, 3, []), 4), (4, (2, 0, 0, 0, []), 5), (5, (1, 1, 0, 0, []), 6), (6, (32, 0, 0, 0, []), 8), (8, (23, 1, 0, 9, [0]), 11), (11, (2, 0, 0, 0, []), 12), (12, (0, 0, 0, 0, []), 13), (13, (22, 1, 1, 15, [0]), 16), (16, (50, 0, 0, 0, []), 17)]
def ztab_48 : List (Nat × ZI × Nat) := [(0, (2, 0, 0, 0, []), 1), (1, (20, 1, 1, 15, [0]), 4), (4, (2, 0, 0, 0, []), 5), (5, (21, 1, 0, 9, [0]), 8), (8, (30, 0, 0, 0, []), 9), (9, (11, 32, 3, 0, []), 12), (12, (2, 0, 0, 0, []), 13), (13, (21, 1, 0, 9, [0]), 16), (16, (2, 0, 0, 0, []), 17), (17, (20, 1, 1, 15, [0]), 20), (20, (1, 1, 0, 0, []), 21), (21, (25, 0, 0, 0, []), 22), (22, (2, 0, 0, 0, []), 23), (23, (7, 0, 0, 0, []), 24), (24, (20, 1, 1, 15, [0]), 27), (27, (0, 0, 0, 1, []), 28), (28, (6, 0, 0, 0, []), 29), (29, (22, 1, 1, 15, [0]), 32), (32, (50, 0, 0, 0, []), 33)]
def ztab_49 : List (Nat × ZI × Nat) := [(0, (1, 1, 0, 0, []), 1), (1, (12, 21, 2, 0, []), 4), (4, (1, 1, 0, 0, []), 5), (5, (2, 0, 0, 0, []), 6), (6, (20, 1, 1, 15, [0]), 9), (9, (11, 21, 3, 0, []), 12), (12, (2, 0, 0, 0, []), 13), (13, (21, 1, 0, 9, [0]), 16), (16, (1, 1, 0, 0, []), 17), (17, (24, 0, 0, 0, []), 18), (18, (13, 22, 0, 0, []), 21), (21, (0, 0, 0, -1, []), 22), (22, (51, 0, 0, 0, []), 23)]
def ztab_50 : List (Nat × ZI × Nat) := [(0, (2, 0, 0, 0, []), 1), (1, (20, 1, 1, 15, [0]), 4), (4, (12, 9, 1, 0, []), 7), (7, (0, 0, 0, -1, []), 8), (8, (51, 0, 0, 0, []), 9), (9, (2, 0, 0, 0, []), 10), (10, (21, 1, 0, 9, [0]), 13), (13, (0, 0, 0, 0, []), 14), (14, (24, 0, 0, 0, []), 15), (15, (3, 1, 0, 0, []), 16), (16, (2, 0, 0, 0, []), 17), (17, (7, 0, 0, 0, []), 18), (18, (20, 1, 1, 15, [0]), 21), (21, (0, 0, 0, 1, []), 22), (22, (6, 0, 1, 0, []), 23), (23, (22, 1, 1, 15, [0]), 26), (26, (0, 0, 0, 0, []), 27), (27, (3, 2, 0, 0, []), 28), (28, (1, 2, 0, 0, []), 29), (29, (2, 0, 0, 0, []), 30), (30, (20, 1, 1, 15, [0]), 33), (33, (11, 56, 3, 0, []), 36), (36, (2, 0, 0, 0, []), 37), (37, (21, 1, 0, 9, [0]), 40), (40, (1, 2, 0, 0, []), 41), (41, (2, 0, 0, 0, []), 42), (42, (21, 1, 0, 9, [0]), 45), (45, (1, 2, 0, 0, []), 46), (46, (0, 0, 0, 1, []), 47), (47, (6, 0, 0, 0, []), 48), (48, (24, 0, 0, 0, []), 49), (49, (25, 0, 0, 0, []), 50), (50, (5, 2, 0, 1, []), 53), (53, (13, 28, 0, 0, []), 56), (56, (1, 1, 0, 0, []), 57), (57, (51, 0, 0, 0, []), 58)]
def ztab_51 : List (Nat × ZI × Nat) := [(0, (2, 0, 0, 0, []), 1), (1, (20, 1, 1, 15, [0]), 4), (4, (12, 9, 1, 0, []), 7), (7, (0, 0, 0, -1, []), 8), (8, (51, 0, 0, 0, []), 9), (9, (2, 0, 0, 0, []), 10), (10, (7, 0, 0, 0, []), 11), (11, (20, 1, 1, 15, [0]), 14), (14, (0, 0, 0, 1, []), 15), (15, (6, 0, 1, 0, []), 16), (16, (22, 1, 1, 15, [0]), 19), (19, (2, 0, 0, 0, []), 20), (20, (21, 1, 0, 9, [0]), 23), (23, (2, 0, 0, 0, []), 24), (24, (20, 1, 1, 15, [0]), 27), (27, (24, 0, 0, 0, []), 28), (28, (51, 0, 0, 0, []), 29)]
def ztab_52 : List (Nat × ZI × Nat) := [(0, (2, 0, 0, 0, []), 1), (1, (41, 0, 0, 3, []), 4), (4, (2, 0, 0, 0, []), 5), (5, (0, 0, 0, 3, []), 6), (6, (32, 0, 0, 0, []), 8), (8, (23, 2, 0, 9, [0]), 11), (11, (2, 0, 0, 0, []), 12), (12, (0, 0, 0, 3, []), 13), (13, (32, 0, 0, 0, []), 15), (15, (23, 2, 1, 15, [0]), 18), (18, (2, 0, 0, 0, []), 19), (19, (0, 0, 0, 0, []), 20), (20, (22, 2, 2, 18, [0]), 23), (23, (50, 0, 0, 0, []), 24)]
def ztab_53 : List (Nat × ZI × Nat) := [(0, (0, 0, 0, 0, []), 1), (1, (3, 2, 0, 0, []), 2), (2, (1, 2, 0, 0, []), 3), (3, (2, 0, 0, 0, []), 4), (4, (20, 2, 2, 18, [0]), 7), (7, (11, 33, 3, 0, []), 10), (10, (2, 0, 0, 0, []), 11), (11, (21, 2, 0, 9, [0]), 14), (14, (1, 2, 0, 0, []), 15), (15, (24, 0, 0, 0, []), 16), (16, (1, 1, 0, 0, []), 17), (17, (11, 27, 1, 0, []), 20), (20, (2, 0, 0, 0, []), 21), (21, (21, 2, 1, 15, [0]), 24), (24, (1, 2, 0, 0, []), 25), (25, (24, 0, 0, 0, []), 26), (26, (51, 0, 0, 0, []), 27), (27, (5, 2, 0, 1, []), 30), (30, (13, 2, 0, 0, []), 33), (33, (0, 0, 0, -1, []), 34), (34, (51, 0, 0, 0, []), 35)]
def ztab_54 : List (Nat × ZI × Nat) := [(0, (2, 0, 0, 0, []), 1), (1, (20, 2, 2, 18, [0]), 4), (4, (0, 0, 0, 3, []), 5), (5, (11, 19, 1, 0, []), 8), (8, (2, 0, 0, 0, []), 9), (9, (2, 0, 0, 0, []), 10), (10, (21, 2, 0, 9, [0]), 13), (13, (0, 0, 0, 0, []), 14), (14, (24, 0, 0, 0, []), 15), (15, (0, 0, 0, 1, []), 16), (16, (40, 55, 3, 22, [1, 2]), 19), (19, (2, 0, 0, 0, []), 20), (20, (20, 2, 2, 18, [0]), 23), (23, (0, 0, 0, 3, []), 24), (24, (11, 57, 3, 0, []), 27), (27, (2, 0, 0, 0, []), 28), (28, (21, 2, 0, 9, [0]), 31), (31, (2, 0, 0, 0, []), 32), (32, (20, 2, 2, 18, [0]), 35), (35, (1, 1, 0, 0, []), 36), (36, (25, 0, 0, 0, []), 37), (37, (2, 0, 0, 0, []), 38), (38, (21, 2, 1, 15, [0]), 41), (41, (2, 0, 0, 0, []), 42), (42, (20, 2, 2, 18, [0]), 45), (45, (1, 2, 0, 0, []), 46), (46, (25, 0, 0, 0, []), 47), (47, (2, 0, 0, 0, []), 48), (48, (7, 0, 0, 0, []), 49), (49, (20, 2, 2, 18, [0]), 52), (52, (0, 0, 0, 1, []), 53), (53, (6, 0, 0, 0, []), 54), (54, (22, 2, 2, 18, [0]), 57), (57, (50, 0, 0, 0, []), 58)]
def ztab_55 : List (Nat × ZI × Nat) := [(0, (0, 0, 0, 0, []), 1), (1, (3, 3, 0, 0, []), 2), (2, (0, 0, 0, 0, []), 3), (3, (3, 4, 1, 0, []), 5), (5, (1, 4, 1, 0, []), 7), (7, (2, 0, 0, 0, []), 8), (8, (20, 2, 2, 18, [0]), 11), (11, (11, 73, 3, 0, []), 14), (14, (2, 0, 0, 0, []), 15), (15, (21, 2, 0, 9, [0]), 18), (18, (1, 4, 1, 0, []), 20), (20, (24, 0, 0, 0, []), 21), (21, (1, 1, 0, 0, []), 22), (22, (11, 38, 2, 0, []), 25), (25, (2, 0, 0, 0, []), 26), (26, (21, 2, 0, 9, [0]), 29), (29, (1, 4, 1, 0, []), 31), (31, (24, 0, 0, 0, []), 32), (32, (1, 1, 0, 0, []), 33), (33, (1, 2, 0, 0, []), 34), (34, (6, 0, 0, 0, []), 35), (35, (11, 67, 2, 0, []), 38), (38, (2, 0, 0, 0, []), 39), (39, (21, 2, 0, 9, [0]), 42), (42, (1, 3, 0, 0, []), 43), (43, (2, 0, 0, 0, []), 44), (44, (21, 2, 0, 9, [0]), 47), (47, (1, 4, 1, 0, []), 49), (49, (24, 0, 0, 0, []), 50), (50, (25, 0, 0, 0, []), 51), (51, (2, 0, 0, 0, []), 52), (52, (21, 2, 1, 15, [0]), 55), (55, (1, 3, 0, 0, []), 56), (56, (2, 0, 0, 0, []), 57), (57, (21, 2, 1, 15, [0]), 60), (60, (1, 4, 1, 0, []), 62), (62, (24, 0, 0, 0, []), 63), (63, (25, 0, 0, 0, []), 64), (64, (5, 3, 0, 1, []), 67), (67, (5, 4, 0, 1, []), 70), (70, (13, 5, 0, 0, []), 73), (73, (2, 0, 0, 0, []), 74), (74, (1, 3, 0, 0, []), 75), (75, (22, 2, 2, 18, [0]), 78), (78, (50, 0, 0, 0, []), 79)]
def ztab_56 : List (Nat × ZI × Nat) := [(0, (2, 0, 0, 0, []), 1), (1, (41, 0, 0, 3, []), 4), (4, (2, 0, 0, 0, []), 5), (5, (1, 1, 0, 0, []), 6), (6, (22, 3, 0, 9, [0]), 9), (9, (2, 0, 0, 0, []), 10), (10, (31, 2, 0, 15, []), 13), (13, (7, 0, 0, 0, []), 14), (14, (40, 52, 1, 17, [2, 2]), 17), (17, (23, 3, 1, 18, [0]), 20), (20, (2, 0, 0, 0, []), 21), (21, (31, 1, 0, 22, []), 24), (24, (7, 0, 0, 0, []), 25), (25, (0, 0, 0, 2, []), 26), (26, (40, 47, 2, 24, [2, 1]), 29), (29, (23, 3, 2, 27, [0]), 32), (32, (2, 0, 0, 0, []), 33), (33, (31, 1, 0, 22, []), 36), (36, (7, 0, 0, 0, []), 37), (37, (0, 0, 1, 8, []), 39), (39, (40, 47, 2, 24, [2, 1]), 42), (42, (23, 3, 3, 31, [0]), 45), (45, (2, 0, 0, 0, []), 46), (46, (31, 1, 0, 22, []), 49), (49, (7, 0, 0, 0, []), 50), (50, (0, 0, 1, 8, []), 52), (52, (40, 47, 2, 24, [2, 1]), 55), (55, (23, 3, 4, 34, [0]), 58), (58, (2, 0, 0, 0, []), 59), (59, (0, 0, 0, -1, []), 60), (60, (22, 3, 5, 37, [0]), 63), (63, (50, 0, 0, 0, []), 64)]
def ztab_57 : List (Nat × ZI × Nat) := [(0, (2, 0, 0, 0, []), 1), (1, (41, 0, 0, 3, []), 4), (4, (2, 0, 0, 0, []), 5), (5, (1, 1, 0, 0, []), 6), (6, (22, 4, 0, 9, [0]), 9), (9, (2, 0, 0, 0, []), 10), (10, (1, 2, 0, 0, []), 11), (11, (22, 4, 1, 15, [0]), 14), (14, (2, 0, 0, 0, []), 15), (15, (1, 3, 0, 0, []), 16), (16, (22, 4, 2, 18, [0]), 19), (19, (2, 0, 0, 0, []), 20), (20, (1, 4, 1, 0, []), 22), (22, (22, 4, 3, 21, [0]), 25), (25, (2, 0, 0, 0, []), 26), (26, (0, 0, 0, -1, []), 27), (27, (22, 4, 4, 24, [0]), 30), (30, (50, 0, 0, 0, []), 31)]
def ztab_58 : List (Nat × ZI × Nat) := [(0, (2, 0, 0, 0, []), 1), (1, (20, 4, 0, 9, [0]), 4), (4, (0, 0, 0, 5, []), 5), (5, (11, 11, 1, 0, []), 8), (8, (0, 0, 1, 15, []), 10), (10, (51, 0, 0, 0, []), 11), (11, (2, 0, 0, 0, []), 12), (12, (20, 4, 0, 9, [0]), 15), (15, (12, 26, 0, 0, []), 18), (18, (2, 0, 0, 0, []), 19), (19, (20, 4, 0, 9, [0]), 22), (22, (0, 0, 0, 1, []), 23), (23, (11, 30, 1, 0, []), 26), (26, (0, 0, 0, 4, []), 27), (27, (13, 32, 0, 0, []), 30), (30, (0, 0, 1, 7, []), 32), (32, (51, 0, 0, 0, []), 33)]
def ztab_59 : List (Nat × ZI × Nat) := [(0, (2, 0, 0, 0, []), 1), (1, (41, 0, 0, 3, []), 4), (4, (2, 0, 0, 0, []), 5), (5, (1, 1, 0, 0, []), 6), (6, (22, 5, 0, 9, [0]), 9), (9, (2, 0, 0, 0, []), 10), (10, (1, 2, 0, 0, []), 11), (11, (22, 5, 4, 15, [0]), 14), (14, (2, 0, 0, 0, []), 15), (15, (0, 0, 1, 10, []), 17), (17, (32, 4, 4, 18, []), 20), (20, (23, 5, 1, 20, [0]), 23), (23, (2, 0, 0, 0, []), 24), (24, (31, 1, 0, 24, []), 27), (27, (7, 0, 0, 0, []), 28), (28, (0, 0, 0, 4, []), 29), (29, (40, 47, 2, 26, [2, 1]), 32), (32, (23, 5, 10, 29, [0]), 35), (35, (2, 0, 0, 0, []), 36), (36, (0, 0, 0, 0, []), 37), (37, (22, 5, 2, 33, [0]), 40), (40, (2, 0, 0, 0, []), 41), (41, (0, 0, 0, 0, []), 42), (42, (22, 5, 3, 36, [0]), 45), (45, (2, 0, 0, 0, []), 46), (46, (0, 0, 0, -1, []), 47), (47, (22, 5, 5, 39, [0]), 50), (50, (2, 0, 0, 0, []), 51), (51, (0, 0, 0, 0, []), 52), (52, (22, 5, 6, 42, [0]), 55), (55, (2, 0, 0, 0, []), 56), (56, (0, 0, 0, -1, []), 57), (57, (22, 5, 7, 45, [0]), 60), (60, (2, 0, 0, 0, []), 61), (61, (0, 0, 0, 0, []), 62), (62, (22, 5, 8, 48, [0]), 65), (65, (2, 0, 0, 0, []), 66), (66, (0, 0, 0, 0, []), 67), (67, (22, 5, 9, 51, [0]), 70), (70, (50, 0, 0, 0, []), 71)]
def ztab_60 : List (Nat × ZI × Nat) := [(0, (2, 0, 0, 0, []), 1), (1, (20, 5, 2, 33, [0]), 4), (4, (0, 0, 1, 10, []), 6), (6, (11, 11, 2, 0, []), 9), (9, (0, 0, 0, -1, []), 10), (10, (51, 0, 0, 0, []), 11), (11, (2, 0, 0, 0, []), 12), (12, (21, 5, 1, 20, [0]), 15), (15, (2, 0, 0, 0, []), 16), (16, (20, 5, 2, 33, [0]), 19), (19, (2, 1, 0, 0, []), 20), (20, (29, 4, 4, 0, []), 21), (21, (2, 0, 0, 0, []), 22), (22, (7, 0, 0, 0, []), 23), (23, (20, 5, 2, 33, [0]), 26), (26, (0, 0, 0, 1, []), 27), (27, (6, 0, 0, 0, []), 28), (28, (22, 5, 2, 33, [0]), 31), (31, (2, 0, 0, 0, []), 32), (32, (20, 5, 2, 33, [0]), 35), (35, (0, 0, 0, 1, []), 36), (36, (6, 0, 1, 0, []), 37), (37, (51, 0, 0, 0, []), 38)]
def ztab_61 : List (Nat × ZI × Nat) := [(0, (2, 0, 0, 0, []), 1), (1, (20, 5, 3, 36, [0]), 4), (4, (2, 0, 0, 0, []), 5), (5, (20, 5, 2, 33, [0]), 8), (8, (11, 23, 3, 0, []), 11), (11, (2, 0, 0, 0, []), 12), (12, (21, 5, 1, 20, [0]), 15), (15, (2, 0, 0, 0, []), 16), (16, (20, 5, 3, 36, [0]), 19), (19, (28, 4, 0, 0, []), 20), (20, (13, 24, 0, 0, []), 23), (23, (17, 0, 0, 0, []), 24), (24, (52, 0, 0, 0, []), 25)]
def ztab_62 : List (Nat × ZI × Nat) := [(0, (2, 0, 0, 0, []), 1), (1, (40, 61, 1, 54, [1, 5]), 4), (4, (4, 1, 0, 0, []), 5), (5, (2, 1, 0, 0, []), 6), (6, (14, 22, 0, 0, []), 9), (9, (2, 0, 0, 0, []), 10), (10, (0, 0, 0, 0, []), 11), (11, (22, 5, 9, 51, [0]), 14), (14, (2, 0, 0, 0, []), 15), (15, (2, 1, 0, 0, []), 16), (16, (40, 58, 1, 58, [1, 4]), 19), (19, (40, 63, 2, 62, [1, 5]), 22), (22, (50, 0, 0, 0, []), 23)]
def ztab_63 : List (Nat × ZI × Nat) := [(0, (2, 0, 0, 0, []), 1), (1, (1, 1, 0, 0, []), 2), (2, (22, 5, 5, 39, [0]), 5), (5, (2, 0, 0, 0, []), 6), (6, (0, 0, 0, 0, []), 7), (7, (22, 5, 6, 42, [0]), 10), (10, (50, 0, 0, 0, []), 11)]
def ztab_64 : List (Nat × ZI × Nat) := [(0, (1, 1, 0, 0, []), 1), (1, (12, 12, 2, 0, []), 4), (4, (1, 1, 0, 0, []), 5), (5, (2, 0, 0, 0, []), 6), (6, (20, 5, 3, 36, [0]), 9), (9, (11, 14, 2, 0, []), 12), (12, (0, 0, 0, -1, []), 13), (13, (51, 0, 0, 0, []), 14), (14, (2, 0, 0, 0, []), 15), (15, (21, 5, 1, 20, [0]), 18), (18, (1, 1, 0, 0, []), 19), (19, (28, 4, 0, 0, []), 20), (20, (4, 2, 0, 0, []), 21), (21, (2, 2, 0, 0, []), 22), (22, (15, 29, 0, 0, []), 25), (25, (0, 0, 0, -1, []), 26), (26, (13, 33, 0, 0, []), 29), (29, (2, 2, 0, 0, []), 30), (30, (20, 4, 4, 65, [1]), 33), (33, (51, 0, 0, 0, []), 34)]
def ztab_65 : List (Nat × ZI × Nat) := [(0, (2, 0, 0, 0, []), 1), (1, (41, 0, 0, 1, []), 4), (4, (2, 0, 0, 0, []), 5), (5, (0, 0, 1, 8, []), 7), (7, (32, 0, 0, 0, []), 9), (9, (23, 6, 1, 7, [0]), 12), (12, (2, 0, 0, 0, []), 13), (13, (0, 0, 1, 8, []), 15), (15, (32, 0, 0, 0, []), 17), (17, (23, 6, 2, 13, [0]), 20), (20, (2, 0, 0, 0, []), 21), (21, (0, 0, 1, 80, []), 23), (23, (32, 0, 0, 0, []), 25), (25, (23, 6, 3, 16, [0]), 28), (28, (2, 0, 0, 0, []), 29), (29, (0, 0, 1, 80, []), 31), (31, (32, 0, 0, 0, []), 33), (33, (23, 6, 4, 19, [0]), 36), (36, (2, 0, 0, 0, []), 37), (37, (0, 0, 1, 80, []), 39), (39, (32, 0, 0, 0, []), 41), (41, (23, 6, 5, 22, [0]), 44), (44, (2, 0, 0, 0, []), 45), (45, (0, 0, 1, 80, []), 47), (47, (32, 0, 0, 0, []), 49), (49, (23, 6, 6, 25, [0]), 52), (52, (2, 0, 0, 0, []), 53), (53, (0, 0, 1, 80, []), 55), (55, (32, 0, 0, 0, []), 57), (57, (23, 6, 7, 28, [0]), 60), (60, (2, 0, 0, 0, []), 61), (61, (0, 0, 1, 8, []), 63), (63, (32, 0, 0, 0, []), 65), (65, (23, 6, 8, 31, [0]), 68), (68, (2, 0, 0, 0, []), 69), (69, (0, 0, 1, 8, []), 71), (71, (32, 0, 0, 0, []), 73), (73, (23, 6, 9, 34, [0]), 76), (76, (2, 0, 0, 0, []), 77), (77, (0, 0, 1, 8, []), 79), (79, (32, 0, 0, 0, []), 81), (81, (23, 6, 10, 37, [0]), 84), (84, (2, 0, 0, 0, []), 85), (85, (0, 0, 1, 8, []), 87), (87, (32, 0, 0, 0, []), 89), (89, (23, 6, 12, 40, [0]), 92), (92, (2, 0, 0, 0, []), 93), (93, (0, 0, 1, 8, []), 95), (95, (32, 0, 0, 0, []), 97), (97, (23, 6, 13, 43, [0]), 100), (100, (2, 0, 0, 0, []), 101), (101, (0, 0, 1, 8, []), 103), (103, (32, 0, 0, 0, []), 105), (105, (23, 6, 14, 46, [0]), 108), (108, (2, 0, 0, 0, []), 109), (109, (0, 0, 1, 8, []), 111), (111, (32, 0, 0, 0, []), 113), (113, (23, 6, 15, 49, [0]), 116), (116, (2, 0, 0, 0, []), 117), (117, (0, 0, 1, 8, []), 119), (119, (32, 0, 0, 0, []), 121), (121, (23, 6, 16, 52, [0]), 124), (124, (2, 0, 0, 0, []), 125), (125, (0, 0, 1, 8, []), 127), (127, (32, 1, 0, 0, []), 129), (129, (23, 6, 17, 55, [0]), 132), (132, (2, 0, 0, 0, []), 133), (133, (0, 0, 1, 32, []), 135), (135, (32, 0, 0, 0, []), 137), (137, (23, 6, 18, 59, [0]), 140), (140, (2, 0, 0, 0, []), 141), (141, (0, 0, 1, 8, []), 143), (143, (32, 0, 0, 0, []), 145), (145, (23, 6, 19, 62, [0]), 148), (148, (2, 0, 0, 0, []), 149), (149, (0, 0, 1, 16, []), 151), (151, (32, 0, 0, 0, []), 153), (153, (23, 6, 22, 65, [0]), 156), (156, (2, 0, 0, 0, []), 157), (157, (0, 0, 1, 16, []), 159), (159, (32, 1, 0, 0, []), 161), (161, (23, 6, 23, 68, [0]), 164), (164, (2, 0, 0, 0, []), 165), (165, (0, 0, 0, 4, []), 166), (166, (32, 1, 0, 0, []), 168), (168, (23, 6, 24, 71, [0]), 171), (171, (2, 0, 0, 0, []), 172), (172, (0, 0, 1, 10, []), 174), (174, (32, 0, 0, 0, []), 176), (176, (23, 6, 25, 74, [0]), 179), (179, (2, 0, 0, 0, []), 180), (180, (0, 0, 1, 64, []), 182), (182, (32, 0, 0, 0, []), 184), (184, (23, 6, 26, 77, [0]), 187), (187, (2, 0, 0, 0, []), 188), (188, (0, 0, 1, 64, []), 190), (190, (32, 0, 0, 0, []), 192), (192, (23, 6, 27, 80, [0]), 195), (195, (2, 0, 0, 0, []), 196), (196, (0, 0, 1, 64, []), 198), (198, (32, 1, 0, 0, []), 200), (200, (23, 6, 28, 83, [0]), 203), (203, (2, 0, 0, 0, []), 204), (204, (0, 0, 1, 10, []), 206), (206, (32, 0, 0, 0, []), 208), (208, (23, 6, 29, 86, [0]), 211), (211, (2, 0, 0, 0, []), 212), (212, (0, 0, 1, 10, []), 214), (214, (32, 0, 0, 0, []), 216), (216, (23, 6, 30, 89, [0]), 219), (219, (2, 0, 0, 0, []), 220), (220, (0, 0, 0, 4, []), 221), (221, (32, 1, 0, 0, []), 223), (223, (23, 6, 31, 92, [0]), 226), (226, (2, 0, 0, 0, []), 227), (227, (0, 0, 0, 4, []), 228), (228, (32, 0, 0, 0, []), 230), (230, (23, 6, 32, 95, [0]), 233), (233, (0, 0, 0, 0, []), 234), (234, (3, 1, 0, 0, []), 235), (235, (1, 1, 0, 0, []), 236), (236, (0, 0, 1, 16, []), 238), (238, (11, 254, 3, 0, []), 241), (241, (2, 0, 0, 0, []), 242), (242, (21, 6, 22, 65, [0]), 245), (245, (1, 1, 0, 0, []), 246), (246, (0, 0, 0, -1, []), 247), (247, (25, 0, 0, 0, []), 248), (248, (5, 1, 0, 1, []), 251), (251, (13, 235, 0, 0, []), 254), (254, (0, 0, 0, 0, []), 255), (255, (3, 1, 0, 0, []), 256), (256, (1, 1, 0, 0, []), 257), (257, (0, 0, 1, 10, []), 259), (259, (11, 282, 3, 0, []), 262), (262, (2, 0, 0, 0, []), 263), (263, (21, 6, 29, 86, [0]), 266), (266, (1, 1, 0, 0, []), 267), (267, (0, 0, 0, 4, []), 268), (268, (25, 0, 0, 0, []), 269), (269, (2, 0, 0, 0, []), 270), (270, (21, 6, 30, 89, [0]), 273), (273, (1, 1, 0, 0, []), 274), (274, (1, 1, 0, 0, []), 275), (275, (25, 0, 0, 0, []), 276), (276, (5, 1, 0, 1, []), 279), (279, (13, 256, 0, 0, []), 282), (282, (2, 0, 0, 0, []), 283), (283, (0, 0, 1, 10, []), 285), (285, (22, 6, 11, 98, [0]), 288), (288, (50, 0, 0, 0, []), 289)]
def ztab_66 : List (Nat × ZI × Nat) := [(0, (2, 0, 0, 0, []), 1), (1, (7, 0, 0, 0, []), 2), (2, (20, 6, 11, 98, [0]), 5), (5, (0, 0, 0, 1, []), 6), (6, (6, 0, 0, 0, []), 7), (7, (22, 6, 11, 98, [0]), 10), (10, (2, 0, 0, 0, []), 11), (11, (20, 6, 11, 98, [0]), 14), (14, (51, 0, 0, 0, []), 15)]
def ztab_67 : List (Nat × ZI × Nat) := [(0, (1, 0, 0, 0, []), 1), (1, (12, 9, 2, 0, []), 4), (4, (1, 0, 0, 0, []), 5), (5, (0, 0, 0, 3, []), 6), (6, (11, 13, 5, 0, []), 9), (9, (0, 0, 0, 1, []), 10), (10, (13, 14, 0, 0, []), 13), (13, (0, 0, 0, 0, []), 14), (14, (51, 0, 1, 0, []), 15)]
def ztab_68 : List (Nat × ZI × Nat) := [(0, (1, 1, 0, 0, []), 1), (1, (40, 67, 1, 102, [0, 0]), 4), (4, (12, 16, 1, 0, []), 7), (7, (2, 0, 0, 0, []), 8), (8, (20, 6, 0, 106, [0]), 11), (11, (0, 0, 1, 8, []), 13), (13, (11, 18, 1, 0, []), 16), (16, (0, 0, 0, -1, []), 17), (17, (51, 0, 0, 0, []), 18), (18, (2, 0, 0, 0, []), 19), (19, (21, 6, 8, 31, [0]), 22), (22, (2, 0, 0, 0, []), 23), (23, (20, 6, 0, 106, [0]), 26), (26, (1, 1, 0, 0, []), 27), (27, (25, 0, 0, 0, []), 28), (28, (2, 0, 0, 0, []), 29), (29, (21, 6, 9, 34, [0]), 32), (32, (2, 0, 0, 0, []), 33), (33, (20, 6, 0, 106, [0]), 36), (36, (0, 0, 0, 0, []), 37), (37, (25, 0, 0, 0, []), 38), (38, (2, 0, 0, 0, []), 39), (39, (7, 0, 0, 0, []), 40), (40, (20, 6, 0, 106, [0]), 43), (43, (0, 0, 0, 1, []), 44), (44, (6, 0, 0, 0, []), 45), (45, (22, 6, 0, 106, [0]), 48), (48, (2, 0, 0, 0, []), 49), (49, (20, 6, 0, 106, [0]), 52), (52, (0, 0, 0, 1, []), 53), (53, (6, 0, 1, 0, []), 54), (54, (51, 0, 0, 0, []), 55)]
def ztab_69 : List (Nat × ZI × Nat) := [(0, (1, 1, 0, 0, []), 1), (1, (12, 23, 2, 0, []), 4), (4, (1, 1, 0, 0, []), 5), (5, (2, 0, 0, 0, []), 6), (6, (20, 6, 0, 106, [0]), 9), (9, (11, 23, 3, 0, []), 12), (12, (2, 0, 0, 0, []), 13), (13, (21, 6, 1, 7, [0]), 16), (16, (1, 1, 0, 0, []), 17), (17, (24, 0, 0, 0, []), 18), (18, (0, 0, 1, 10, []), 20), (20, (11, 25, 1, 0, []), 23), (23, (0, 0, 0, -1, []), 24), (24, (51, 0, 0, 0, []), 25), (25, (0, 0, 1, 10, []), 27), (27, (1, 1, 0, 0, []), 28), (28, (6, 0, 2, 0, []), 29), (29, (2, 0, 0, 0, []), 30), (30, (21, 6, 1, 7, [0]), 33), (33, (1, 1, 0, 0, []), 34), (34, (24, 0, 0, 0, []), 35), (35, (6, 0, 0, 0, []), 36), (36, (3, 6, 1, 0, []), 38), (38, (2, 0, 0, 0, []), 39), (39, (21, 6, 3, 16, [0]), 42), (42, (1, 6, 1, 0, []), 44), (44, (1, 2, 0, 0, []), 45), (45, (25, 0, 0, 0, []), 46), (46, (2, 0, 0, 0, []), 47), (47, (21, 6, 4, 19, [0]), 50), (50, (1, 6, 1, 0, []), 52), (52, (1, 3, 0, 0, []), 53), (53, (25, 0, 0, 0, []), 54), (54, (2, 0, 0, 0, []), 55), (55, (21, 6, 5, 22, [0]), 58), (58, (1, 6, 1, 0, []), 60), (60, (1, 4, 1, 0, []), 62), (62, (25, 0, 0, 0, []), 63), (63, (2, 0, 0, 0, []), 64), (64, (21, 6, 6, 25, [0]), 67), (67, (1, 6, 1, 0, []), 69), (69, (1, 5, 1, 0, []), 71), (71, (25, 0, 0, 0, []), 72), (72, (2, 0, 0, 0, []), 73), (73, (21, 6, 1, 7, [0]), 76), (76, (1, 1, 0, 0, []), 77), (77, (8, 0, 0, 0, []), 78), (78, (24, 0, 0, 0, []), 79), (79, (0, 0, 0, 1, []), 80), (80, (6, 0, 0, 0, []), 81), (81, (25, 0, 0, 0, []), 82), (82, (2, 0, 0, 0, []), 83), (83, (21, 6, 9, 34, [0]), 86), (86, (1, 1, 0, 0, []), 87), (87, (24, 0, 0, 0, []), 88), (88, (12, 113, 1, 0, []), 91), (91, (2, 0, 0, 0, []), 92), (92, (21, 6, 9, 34, [0]), 95), (95, (1, 1, 0, 0, []), 96), (96, (0, 0, 0, 1, []), 97), (97, (25, 0, 0, 0, []), 98), (98, (2, 0, 0, 0, []), 99), (99, (21, 6, 10, 37, [0]), 102), (102, (1, 1, 0, 0, []), 103), (103, (2, 0, 0, 0, []), 104), (104, (40, 66, 1, 109, [1, 6]), 107), (107, (25, 0, 0, 0, []), 108), (108, (2, 0, 0, 0, []), 109), (109, (1, 1, 0, 0, []), 110), (110, (40, 70, 2, 113, [1, 6]), 113), (113, (2, 0, 0, 0, []), 114), (114, (21, 6, 1, 7, [0]), 117), (117, (1, 1, 0, 0, []), 118), (118, (24, 0, 0, 0, []), 119), (119, (0, 0, 0, 1, []), 120), (120, (6, 0, 1, 0, []), 121), (121, (51, 0, 0, 0, []), 122)]
def ztab_70 : List (Nat × ZI × Nat) := [(0, (2, 0, 0, 0, []), 1), (1, (21, 6, 3, 16, [0]), 4), (4, (0, 0, 1, 10, []), 6), (6, (1, 1, 0, 0, []), 7), (7, (6, 0, 2, 0, []), 8), (8, (2, 0, 0, 0, []), 9), (9, (21, 6, 2, 13, [0]), 12), (12, (1, 1, 0, 0, []), 13), (13, (24, 0, 0, 0, []), 14), (14, (6, 0, 0, 0, []), 15), (15, (24, 0, 0, 0, []), 16), (16, (3, 2, 0, 0, []), 17), (17, (2, 0, 0, 0, []), 18), (18, (21, 6, 12, 40, [0]), 21), (21, (1, 1, 0, 0, []), 22), (22, (1, 2, 0, 0, []), 23), (23, (0, 0, 0, 1, []), 24), (24, (11, 31, 4, 0, []), 27), (27, (0, 0, 0, 4, []), 28), (28, (13, 43, 0, 0, []), 31), (31, (1, 2, 0, 0, []), 32), (32, (0, 0, 0, 5, []), 33), (33, (11, 41, 1, 0, []), 36), (36, (0, 0, 1, 15, []), 38), (38, (13, 43, 0, 0, []), 41), (41, (0, 0, 1, 7, []), 43), (43, (25, 0, 0, 0, []), 44), (44, (2, 0, 0, 0, []), 45), (45, (21, 6, 14, 46, [0]), 48), (48, (1, 1, 0, 0, []), 49), (49, (0, 0, 0, 0, []), 50), (50, (25, 0, 0, 0, []), 51), (51, (2, 0, 0, 0, []), 52), (52, (21, 6, 15, 49, [0]), 55), (55, (1, 1, 0, 0, []), 56), (56, (0, 0, 0, 0, []), 57), (57, (25, 0, 0, 0, []), 58), (58, (2, 0, 0, 0, []), 59), (59, (21, 6, 16, 52, [0]), 62), (62, (1, 1, 0, 0, []), 63), (63, (0, 0, 0, 0, []), 64), (64, (25, 0, 0, 0, []), 65), (65, (2, 0, 0, 0, []), 66), (66, (21, 6, 19, 62, [0]), 69), (69, (1, 1, 0, 0, []), 70), (70, (0, 0, 0, 0, []), 71), (71, (25, 0, 0, 0, []), 72), (72, (2, 0, 0, 0, []), 73), (73, (21, 6, 17, 55, [0]), 76), (76, (1, 1, 0, 0, []), 77), (77, (0, 0, 0, 0, []), 78), (78, (27, 0, 0, 0, []), 79), (79, (50, 0, 0, 0, []), 80)]
def ztab_71 : List (Nat × ZI × Nat) := [(0, (1, 0, 0, 0, []), 1), (1, (12, 10, 2, 0, []), 4), (4, (1, 0, 0, 0, []), 5), (5, (0, 0, 1, 15, []), 7), (7, (11, 14, 5, 0, []), 10), (10, (0, 0, 0, 1, []), 11), (11, (13, 15, 0, 0, []), 14), (14, (0, 0, 0, 0, []), 15), (15, (51, 0, 1, 0, []), 16)]
def ztab_72 : List (Nat × ZI × Nat) := [(0, (1, 1, 0, 0, []), 1), (1, (0, 0, 0, 1, []), 2), (2, (11, 22, 2, 0, []), 5), (5, (1, 1, 0, 0, []), 6), (6, (0, 0, 0, 4, []), 7), (7, (11, 22, 4, 0, []), 10), (10, (1, 0, 0, 0, []), 11), (11, (12, 22, 2, 0, []), 14), (14, (1, 0, 0, 0, []), 15), (15, (0, 0, 1, 16, []), 17), (17, (1, 1, 0, 0, []), 18), (18, (6, 0, 1, 0, []), 19), (19, (11, 26, 5, 0, []), 22), (22, (0, 0, 0, 1, []), 23), (23, (13, 27, 0, 0, []), 26), (26, (0, 0, 0, 0, []), 27), (27, (51, 0, 1, 0, []), 28)]
def ztab_73 : List (Nat × ZI × Nat) := [(0, (1, 2, 0, 0, []), 1), (1, (40, 71, 1, 117, [0, 0]), 4), (4, (12, 11, 0, 0, []), 7), (7, (0, 0, 0, -1, []), 8), (8, (13, 20, 0, 0, []), 11), (11, (2, 0, 0, 0, []), 12), (12, (1, 1, 0, 0, []), 13), (13, (0, 0, 0, 0, []), 14), (14, (1, 2, 0, 0, []), 15), (15, (0, 0, 0, 1, []), 16), (16, (0, 0, 0, 0, []), 17), (17, (40, 69, 6, 120, [1, 6]), 20), (20, (51, 0, 0, 0, []), 21)]
def ztab_74 : List (Nat × ZI × Nat) := [(0, (1, 2, 0, 0, []), 1), (1, (40, 71, 1, 117, [0, 0]), 4), (4, (12, 18, 1, 0, []), 7), (7, (1, 3, 0, 0, []), 8), (8, (12, 18, 2, 0, []), 11), (11, (1, 3, 0, 0, []), 12), (12, (0, 0, 2, 999, []), 15), (15, (11, 22, 5, 0, []), 18), (18, (0, 0, 0, -1, []), 19), (19, (13, 31, 0, 0, []), 22), (22, (2, 0, 0, 0, []), 23), (23, (1, 1, 0, 0, []), 24), (24, (0, 0, 0, 1, []), 25), (25, (1, 2, 0, 0, []), 26), (26, (0, 0, 0, 1, []), 27), (27, (1, 3, 0, 0, []), 28), (28, (40, 69, 6, 120, [1, 6]), 31), (31, (51, 0, 0, 0, []), 32)]
def ztab_75 : List (Nat × ZI × Nat) := [(0, (1, 2, 0, 0, []), 1), (1, (1, 3, 0, 0, []), 2), (2, (40, 72, 2, 124, [0, 0]), 5), (5, (12, 12, 0, 0, []), 8), (8, (0, 0, 0, -1, []), 9), (9, (13, 30, 0, 0, []), 12), (12, (2, 0, 0, 0, []), 13), (13, (1, 1, 0, 0, []), 14), (14, (0, 0, 0, 2, []), 15), (15, (1, 2, 0, 0, []), 16), (16, (1, 3, 0, 0, []), 17), (17, (1, 4, 1, 0, []), 19), (19, (12, 26, 0, 0, []), 22), (22, (0, 0, 0, 1, []), 23), (23, (13, 27, 0, 0, []), 26), (26, (0, 0, 0, 0, []), 27), (27, (40, 69, 6, 120, [1, 6]), 30), (30, (51, 0, 0, 0, []), 31)]
def ztab_76 : List (Nat × ZI × Nat) := [(0, (1, 2, 0, 0, []), 1), (1, (1, 3, 0, 0, []), 2), (2, (40, 72, 2, 124, [0, 0]), 5), (5, (12, 12, 0, 0, []), 8), (8, (0, 0, 0, -1, []), 9), (9, (13, 21, 0, 0, []), 12), (12, (2, 0, 0, 0, []), 13), (13, (1, 1, 0, 0, []), 14), (14, (0, 0, 0, 3, []), 15), (15, (1, 2, 0, 0, []), 16), (16, (1, 3, 0, 0, []), 17), (17, (0, 0, 0, 0, []), 18), (18, (40, 69, 6, 120, [1, 6]), 21), (21, (51, 0, 0, 0, []), 22)]
def ztab_77 : List (Nat × ZI × Nat) := [(0, (1, 2, 0, 0, []), 1), (1, (1, 3, 0, 0, []), 2), (2, (40, 72, 2, 124, [0, 0]), 5), (5, (12, 12, 0, 0, []), 8), (8, (0, 0, 0, -1, []), 9), (9, (13, 21, 0, 0, []), 12), (12, (2, 0, 0, 0, []), 13), (13, (1, 1, 0, 0, []), 14), (14, (0, 0, 0, 4, []), 15), (15, (1, 2, 0, 0, []), 16), (16, (1, 3, 0, 0, []), 17), (17, (0, 0, 0, 0, []), 18), (18, (40, 69, 6, 120, [1, 6]), 21), (21, (51, 0, 0, 0, []), 22)]
def ztab_78 : List (Nat × ZI × Nat) := [(0, (1, 2, 0, 0, []), 1), (1, (40, 67, 1, 102, [0, 0]), 4), (4, (12, 11, 0, 0, []), 7), (7, (0, 0, 0, -1, []), 8), (8, (13, 20, 0, 0, []), 11), (11, (2, 0, 0, 0, []), 12), (12, (1, 1, 0, 0, []), 13), (13, (0, 0, 0, 5, []), 14), (14, (1, 2, 0, 0, []), 15), (15, (0, 0, 0, 1, []), 16), (16, (0, 0, 0, 0, []), 17), (17, (40, 69, 6, 120, [1, 6]), 20), (20, (51, 0, 0, 0, []), 21)]
def ztab_79 : List (Nat × ZI × Nat) := [(0, (0, 0, 0, -1, []), 1), (1, (3, 2, 0, 0, []), 2), (2, (0, 0, 0, 0, []), 3), (3, (3, 3, 0, 0, []), 4), (4, (1, 3, 0, 0, []), 5), (5, (2, 0, 0, 0, []), 6), (6, (20, 6, 0, 106, [0]), 9), (9, (11, 44, 3, 0, []), 12), (12, (2, 0, 0, 0, []), 13), (13, (21, 6, 9, 34, [0]), 16), (16, (1, 3, 0, 0, []), 17), (17, (24, 0, 0, 0, []), 18), (18, (0, 0, 0, 2, []), 19), (19, (11, 36, 1, 0, []), 22), (22, (2, 0, 0, 0, []), 23), (23, (21, 6, 8, 31, [0]), 26), (26, (1, 3, 0, 0, []), 27), (27, (24, 0, 0, 0, []), 28), (28, (1, 1, 0, 0, []), 29), (29, (11, 36, 1, 0, []), 32), (32, (1, 3, 0, 0, []), 33), (33, (13, 37, 0, 0, []), 36), (36, (1, 2, 0, 0, []), 37), (37, (3, 2, 0, 0, []), 38), (38, (5, 3, 0, 1, []), 41), (41, (13, 4, 0, 0, []), 44), (44, (1, 2, 0, 0, []), 45), (45, (51, 0, 0, 0, []), 46)]
def ztab_80 : List (Nat × ZI × Nat) := [(0, (0, 0, 0, 0, []), 1), (1, (3, 3, 0, 0, []), 2), (2, (0, 0, 0, 0, []), 3), (3, (3, 4, 1, 0, []), 5), (5, (1, 4, 1, 0, []), 7), (7, (2, 0, 0, 0, []), 8), (8, (20, 6, 0, 106, [0]), 11), (11, (11, 66, 3, 0, []), 14), (14, (1, 3, 0, 0, []), 15), (15, (2, 0, 0, 0, []), 16), (16, (21, 6, 9, 34, [0]), 19), (19, (1, 4, 1, 0, []), 21), (21, (24, 0, 0, 0, []), 22), (22, (0, 0, 0, 1, []), 23), (23, (11, 57, 1, 0, []), 26), (26, (2, 0, 0, 0, []), 27), (27, (21, 6, 8, 31, [0]), 30), (30, (1, 4, 1, 0, []), 32), (32, (24, 0, 0, 0, []), 33), (33, (1, 1, 0, 0, []), 34), (34, (11, 57, 1, 0, []), 37), (37, (2, 0, 0, 0, []), 38), (38, (21, 6, 10, 37, [0]), 41), (41, (1, 4, 1, 0, []), 43), (43, (24, 0, 0, 0, []), 44), (44, (2, 0, 0, 0, []), 45), (45, (21, 6, 10, 37, [0]), 48), (48, (1, 2, 0, 0, []), 49), (49, (24, 0, 0, 0, []), 50), (50, (11, 57, 3, 0, []), 53), (53, (0, 0, 0, 1, []), 54), (54, (13, 58, 0, 0, []), 57), (57, (0, 0, 0, 0, []), 58), (58, (6, 0, 0, 0, []), 59), (59, (3, 3, 0, 0, []), 60), (60, (5, 4, 0, 1, []), 63), (63, (13, 5, 0, 0, []), 66), (66, (1, 3, 0, 0, []), 67), (67, (51, 0, 0, 0, []), 68)]
def ztab_81 : List (Nat × ZI × Nat) := [(0, (0, 0, 0, 0, []), 1), (1, (3, 2, 0, 0, []), 2), (2, (0, 0, 0, 0, []), 3), (3, (3, 3, 0, 0, []), 4), (4, (1, 3, 0, 0, []), 5), (5, (2, 0, 0, 0, []), 6), (6, (20, 6, 0, 106, [0]), 9), (9, (11, 46, 3, 0, []), 12), (12, (1, 2, 0, 0, []), 13), (13, (2, 0, 0, 0, []), 14), (14, (21, 6, 9, 34, [0]), 17), (17, (1, 3, 0, 0, []), 18), (18, (24, 0, 0, 0, []), 19), (19, (0, 0, 0, 1, []), 20), (20, (11, 37, 1, 0, []), 23), (23, (2, 0, 0, 0, []), 24), (24, (21, 6, 8, 31, [0]), 27), (27, (1, 3, 0, 0, []), 28), (28, (24, 0, 0, 0, []), 29), (29, (1, 1, 0, 0, []), 30), (30, (11, 37, 1, 0, []), 33), (33, (0, 0, 0, 1, []), 34), (34, (13, 38, 0, 0, []), 37), (37, (0, 0, 0, 0, []), 38), (38, (6, 0, 0, 0, []), 39), (39, (3, 2, 0, 0, []), 40), (40, (5, 3, 0, 1, []), 43), (43, (13, 4, 0, 0, []), 46), (46, (1, 2, 0, 0, []), 47), (47, (51, 0, 0, 0, []), 48)]
def ztab_82 : List (Nat × ZI × Nat) := [(0, (0, 0, 0, -1, []), 1), (1, (3, 3, 0, 0, []), 2), (2, (0, 0, 0, 0, []), 3), (3, (3, 4, 1, 0, []), 5), (5, (1, 4, 1, 0, []), 7), (7, (2, 0, 0, 0, []), 8), (8, (20, 6, 0, 106, [0]), 11), (11, (11, 60, 3, 0, []), 14), (14, (2, 0, 0, 0, []), 15), (15, (21, 6, 9, 34, [0]), 18), (18, (1, 4, 1, 0, []), 20), (20, (24, 0, 0, 0, []), 21), (21, (0, 0, 0, 1, []), 22), (22, (11, 52, 1, 0, []), 25), (25, (2, 0, 0, 0, []), 26), (26, (21, 6, 8, 31, [0]), 29), (29, (1, 4, 1, 0, []), 31), (31, (24, 0, 0, 0, []), 32), (32, (1, 1, 0, 0, []), 33), (33, (11, 52, 1, 0, []), 36), (36, (2, 0, 0, 0, []), 37), (37, (1, 1, 0, 0, []), 38), (38, (1, 4, 1, 0, []), 40), (40, (40, 80, 3, 128, [1, 6]), 43), (43, (1, 2, 0, 0, []), 44), (44, (11, 52, 1, 0, []), 47), (47, (1, 4, 1, 0, []), 49), (49, (13, 53, 0, 0, []), 52), (52, (1, 3, 0, 0, []), 53), (53, (3, 3, 0, 0, []), 54), (54, (5, 4, 0, 1, []), 57), (57, (13, 5, 0, 0, []), 60), (60, (1, 3, 0, 0, []), 61), (61, (51, 0, 0, 0, []), 62)]
def ztab_83 : List (Nat × ZI × Nat) := [(0, (0, 0, 0, 0, []), 1), (1, (3, 1, 0, 0, []), 2), (2, (0, 0, 0, 1, []), 3), (3, (3, 2, 0, 0, []), 4), (4, (1, 2, 0, 0, []), 5), (5, (0, 0, 0, 4, []), 6), (6, (11, 34, 3, 0, []), 9), (9, (2, 0, 0, 0, []), 10), (10, (1, 2, 0, 0, []), 11), (11, (40, 81, 2, 132, [1, 6]), 14), (14, (2, 0, 0, 0, []), 15), (15, (1, 1, 0, 0, []), 16), (16, (40, 81, 2, 132, [1, 6]), 19), (19, (11, 26, 5, 0, []), 22), (22, (1, 2, 0, 0, []), 23), (23, (13, 27, 0, 0, []), 26), (26, (1, 1, 0, 0, []), 27), (27, (3, 1, 0, 0, []), 28), (28, (5, 2, 0, 1, []), 31), (31, (13, 4, 0, 0, []), 34), (34, (1, 1, 0, 0, []), 35), (35, (51, 0, 0, 0, []), 36)]
def ztab_84 : List (Nat × ZI × Nat) := [(0, (2, 0, 0, 0, []), 1), (1, (21, 6, 9, 34, [0]), 4), (4, (1, 2, 0, 0, []), 5), (5, (0, 0, 0, 2, []), 6), (6, (25, 0, 0, 0, []), 7), (7, (2, 0, 0, 0, []), 8), (8, (21, 6, 8, 31, [0]), 11), (11, (1, 2, 0, 0, []), 12), (12, (1, 1, 0, 0, []), 13), (13, (25, 0, 0, 0, []), 14), (14, (50, 0, 0, 0, []), 15)]
def ztab_85 : List (Nat × ZI × Nat) := [(0, (1, 1, 0, 0, []), 1), (1, (40, 67, 1, 102, [0, 0]), 4), (4, (12, 9, 0, 0, []), 7), (7, (0, 0, 0, -1, []), 8), (8, (51, 0, 0, 0, []), 9), (9, (2, 0, 0, 0, []), 10), (10, (7, 0, 0, 0, []), 11), (11, (20, 6, 33, 136, [0]), 14), (14, (0, 0, 0, 1, []), 15), (15, (6, 0, 0, 0, []), 16), (16, (22, 6, 33, 136, [0]), 19), (19, (2, 0, 0, 0, []), 20), (20, (21, 6, 31, 92, [0]), 23), (23, (1, 1, 0, 0, []), 24), (24, (26, 0, 0, 0, []), 25), (25, (12, 60, 0, 0, []), 28), (28, (2, 0, 0, 0, []), 29), (29, (21, 6, 32, 95, [0]), 32), (32, (1, 1, 0, 0, []), 33), (33, (24, 0, 0, 0, []), 34), (34, (3, 2, 0, 0, []), 35), (35, (2, 0, 0, 0, []), 36), (36, (21, 6, 31, 92, [0]), 39), (39, (1, 1, 0, 0, []), 40), (40, (0, 0, 0, 0, []), 41), (41, (27, 0, 0, 0, []), 42), (42, (2, 0, 0, 0, []), 43), (43, (1, 1, 0, 0, []), 44), (44, (1, 2, 0, 0, []), 45), (45, (40, 87, 3, 139, [1, 6]), 48), (48, (2, 0, 0, 0, []), 49), (49, (21, 6, 15, 49, [0]), 52), (52, (1, 2, 0, 0, []), 53), (53, (8, 0, 0, 0, []), 54), (54, (24, 0, 0, 0, []), 55), (55, (0, 0, 0, 1, []), 56), (56, (6, 0, 1, 0, []), 57), (57, (25, 0, 0, 0, []), 58), (58, (0, 0, 0, 1, []), 59), (59, (51, 0, 0, 0, []), 60), (60, (2, 0, 0, 0, []), 61), (61, (1, 1, 0, 0, []), 62), (62, (40, 79, 2, 143, [1, 6]), 65), (65, (3, 2, 0, 0, []), 66), (66, (1, 2, 0, 0, []), 67), (67, (12, 77, 2, 0, []), 70), (70, (2, 0, 0, 0, []), 71), (71, (1, 1, 0, 0, []), 72), (72, (1, 2, 0, 0, []), 73), (73, (40, 88, 3, 146, [1, 6]), 76), (76, (51, 0, 0, 0, []), 77), (77, (2, 0, 0, 0, []), 78), (78, (1, 1, 0, 0, []), 79), (79, (0, 0, 0, 0, []), 80), (80, (40, 82, 3, 149, [1, 6]), 83), (83, (3, 3, 0, 0, []), 84), (84, (1, 3, 0, 0, []), 85), (85, (12, 96, 2, 0, []), 88), (88, (2, 0, 0, 0, []), 89), (89, (1, 1, 0, 0, []), 90), (90, (1, 3, 0, 0, []), 91), (91, (40, 84, 3, 152, [1, 6]), 94), (94, (0, 0, 0, 2, []), 95), (95, (51, 0, 0, 0, []), 96), (96, (2, 0, 0, 0, []), 97), (97, (40, 83, 1, 155, [1, 6]), 100), (100, (3, 4, 1, 0, []), 102), (102, (2, 0, 0, 0, []), 103), (103, (1, 4, 1, 0, []), 105), (105, (40, 81, 2, 132, [1, 6]), 108), (108, (3, 5, 1, 0, []), 110), (110, (1, 5, 1, 0, []), 112), (112, (0, 0, 0, 2, []), 113), (113, (11, 118, 3, 0, []), 116), (116, (0, 0, 0, 0, []), 117), (117, (51, 0, 0, 0, []), 118), (118, (2, 0, 0, 0, []), 119), (119, (1, 4, 1, 0, []), 121), (121, (1, 5, 1, 0, []), 123), (123, (0, 0, 0, 1, []), 124), (124, (6, 0, 1, 0, []), 125), (125, (40, 82, 3, 149, [1, 6]), 128), (128, (3, 6, 1, 0, []), 130), (130, (2, 0, 0, 0, []), 131), (131, (1, 1, 0, 0, []), 132), (132, (1, 6, 1, 0, []), 134), (134, (40, 84, 3, 152, [1, 6]), 137), (137, (0, 0, 0, 3, []), 138), (138, (51, 0, 0, 0, []), 139)]
def ztab_86 : List (Nat × ZI × Nat) := [(0, (1, 2, 0, 0, []), 1), (1, (0, 0, 0, 1, []), 2), (2, (11, 11, 2, 0, []), 5), (5, (1, 2, 0, 0, []), 6), (6, (0, 0, 1, 16, []), 8), (8, (11, 13, 5, 0, []), 11), (11, (0, 0, 0, -1, []), 12), (12, (51, 0, 0, 0, []), 13), (13, (0, 0, 0, 0, []), 14), (14, (3, 3, 0, 0, []), 15), (15, (0, 0, 0, 0, []), 16), (16, (3, 4, 1, 0, []), 18), (18, (1, 4, 1, 0, []), 20), (20, (1, 2, 0, 0, []), 21), (21, (11, 59, 3, 0, []), 24), (24, (2, 0, 0, 0, []), 25), (25, (1, 1, 0, 0, []), 26), (26, (0, 0, 0, 2, []), 27), (27, (1, 4, 1, 0, []), 29), (29, (6, 0, 2, 0, []), 30), (30, (6, 0, 5, 0, []), 31), (31, (0, 0, 0, 3, []), 32), (32, (6, 0, 4, 0, []), 33), (33, (40, 85, 2, 158, [1, 6]), 36), (36, (3, 5, 1, 0, []), 38), (38, (1, 3, 0, 0, []), 39), (39, (1, 5, 1, 0, []), 41), (41, (0, 0, 1, 16, []), 43), (43, (11, 50, 2, 0, []), 46), (46, (0, 0, 0, 1, []), 47), (47, (13, 51, 0, 0, []), 50), (50, (0, 0, 0, 0, []), 51), (51, (6, 0, 0, 0, []), 52), (52, (3, 3, 0, 0, []), 53), (53, (5, 4, 0, 1, []), 56), (56, (13, 18, 0, 0, []), 59), (59, (1, 3, 0, 0, []), 60), (60, (51, 0, 0, 0, []), 61)]
def ztab_87 : List (Nat × ZI × Nat) := [(0, (0, 0, 1, 10, []), 2), (2, (1, 2, 0, 0, []), 3), (3, (6, 0, 2, 0, []), 4), (4, (2, 0, 0, 0, []), 5), (5, (21, 6, 2, 13, [0]), 8), (8, (1, 2, 0, 0, []), 9), (9, (24, 0, 0, 0, []), 10), (10, (6, 0, 0, 0, []), 11), (11, (3, 3, 0, 0, []), 12), (12, (0, 0, 0, 0, []), 13), (13, (3, 4, 1, 0, []), 15), (15, (1, 4, 1, 0, []), 17), (17, (2, 0, 0, 0, []), 18), (18, (21, 6, 5, 22, [0]), 21), (21, (1, 3, 0, 0, []), 22), (22, (24, 0, 0, 0, []), 23), (23, (11, 52, 3, 0, []), 26), (26, (2, 0, 0, 0, []), 27), (27, (21, 6, 26, 77, [0]), 30), (30, (0, 0, 1, 16, []), 32), (32, (1, 1, 0, 0, []), 33), (33, (6, 0, 2, 0, []), 34), (34, (2, 0, 0, 0, []), 35), (35, (21, 6, 4, 19, [0]), 38), (38, (1, 3, 0, 0, []), 39), (39, (24, 0, 0, 0, []), 40), (40, (6, 0, 0, 0, []), 41), (41, (1, 4, 1, 0, []), 43), (43, (6, 0, 0, 0, []), 44), (44, (0, 0, 0, 0, []), 45), (45, (25, 0, 0, 0, []), 46), (46, (5, 4, 0, 1, []), 49), (49, (13, 15, 0, 0, []), 52), (52, (50, 0, 0, 0, []), 53)]
def ztab_88 : List (Nat × ZI × Nat) := [(0, (2, 0, 0, 0, []), 1), (1, (21, 6, 12, 40, [0]), 4), (4, (1, 2, 0, 0, []), 5), (5, (24, 0, 0, 0, []), 6), (6, (3, 3, 0, 0, []), 7), (7, (0, 0, 1, 10, []), 9), (9, (1, 2, 0, 0, []), 10), (10, (6, 0, 2, 0, []), 11), (11, (2, 0, 0, 0, []), 12), (12, (21, 6, 2, 13, [0]), 15), (15, (1, 2, 0, 0, []), 16), (16, (24, 0, 0, 0, []), 17), (17, (6, 0, 0, 0, []), 18), (18, (3, 4, 1, 0, []), 20), (20, (1, 3, 0, 0, []), 21), (21, (0, 0, 1, 6, []), 23), (23, (11, 37, 4, 0, []), 26), (26, (2, 0, 0, 0, []), 27), (27, (1, 1, 0, 0, []), 28), (28, (1, 2, 0, 0, []), 29), (29, (1, 4, 1, 0, []), 31), (31, (40, 90, 4, 161, [1, 6]), 34), (34, (13, 62, 0, 0, []), 37), (37, (1, 3, 0, 0, []), 38), (38, (0, 0, 1, 10, []), 40), (40, (11, 54, 4, 0, []), 43), (43, (2, 0, 0, 0, []), 44), (44, (1, 1, 0, 0, []), 45), (45, (1, 2, 0, 0, []), 46), (46, (1, 4, 1, 0, []), 48), (48, (40, 94, 4, 165, [1, 6]), 51), (51, (13, 62, 0, 0, []), 54), (54, (2, 0, 0, 0, []), 55), (55, (1, 1, 0, 0, []), 56), (56, (1, 2, 0, 0, []), 57), (57, (1, 4, 1, 0, []), 59), (59, (40, 97, 4, 168, [1, 6]), 62), (62, (3, 5, 1, 0, []), 64), (64, (1, 5, 1, 0, []), 66), (66, (12, 71, 1, 0, []), 69), (69, (1, 3, 0, 0, []), 70), (70, (51, 0, 0, 0, []), 71), (71, (1, 3, 0, 0, []), 72), (72, (0, 0, 1, 15, []), 74), (74, (11, 87, 1, 0, []), 77), (77, (2, 0, 0, 0, []), 78), (78, (21, 6, 4, 19, [0]), 81), (81, (1, 4, 1, 0, []), 83), (83, (24, 0, 0, 0, []), 84), (84, (13, 88, 0, 0, []), 87), (87, (1, 1, 0, 0, []), 88), (88, (3, 6, 1, 0, []), 90), (90, (2, 0, 0, 0, []), 91), (91, (21, 6, 2, 13, [0]), 94), (94, (1, 2, 0, 0, []), 95), (95, (8, 0, 0, 0, []), 96), (96, (24, 0, 0, 0, []), 97), (97, (0, 0, 0, 1, []), 98), (98, (6, 0, 0, 0, []), 99), (99, (25, 0, 0, 0, []), 100), (100, (2, 0, 0, 0, []), 101), (101, (21, 6, 2, 13, [0]), 104), (104, (1, 2, 0, 0, []), 105), (105, (24, 0, 0, 0, []), 106), (106, (2, 0, 0, 0, []), 107), (107, (21, 6, 1, 7, [0]), 110), (110, (1, 2, 0, 0, []), 111), (111, (24, 0, 0, 0, []), 112), (112, (11, 119, 3, 0, []), 115), (115, (0, 0, 0, 1, []), 116), (116, (13, 120, 0, 0, []), 119), (119, (0, 0, 0, 0, []), 120), (120, (3, 7, 1, 0, []), 122), (122, (1, 3, 0, 0, []), 123), (123, (0, 0, 1, 15, []), 125), (125, (11, 141, 0, 0, []), 128), (128, (1, 7, 1, 0, []), 130), (130, (12, 141, 0, 0, []), 133), (133, (2, 0, 0, 0, []), 134), (134, (1, 1, 0, 0, []), 135), (135, (40, 81, 2, 132, [1, 6]), 138), (138, (12, 145, 5, 0, []), 141), (141, (0, 0, 0, 1, []), 142), (142, (13, 146, 0, 0, []), 145), (145, (0, 0, 0, 0, []), 146), (146, (3, 8, 1, 0, []), 148), (148, (1, 8, 1, 0, []), 150), (150, (12, 187, 0, 0, []), 153), (153, (2, 0, 0, 0, []), 154), (154, (21, 6, 8, 31, [0]), 157), (157, (1, 2, 0, 0, []), 158), (158, (1, 6, 1, 0, []), 160), (160, (25, 0, 0, 0, []), 161), (161, (2, 0, 0, 0, []), 162), (162, (21, 6, 9, 34, [0]), 165), (165, (1, 2, 0, 0, []), 166), (166, (1, 7, 1, 0, []), 168), (168, (12, 175, 0, 0, []), 171), (171, (0, 0, 0, 1, []), 172), (172, (13, 176, 0, 0, []), 175), (175, (0, 0, 0, 0, []), 176), (176, (25, 0, 0, 0, []), 177), (177, (2, 0, 0, 0, []), 178), (178, (21, 6, 10, 37, [0]), 181), (181, (1, 2, 0, 0, []), 182), (182, (2, 0, 0, 0, []), 183), (183, (40, 66, 1, 109, [1, 6]), 186), (186, (25, 0, 0, 0, []), 187), (187, (1, 7, 1, 0, []), 189), (189, (12, 197, 0, 0, []), 192), (192, (2, 0, 0, 0, []), 193), (193, (1, 2, 0, 0, []), 194), (194, (40, 70, 2, 113, [1, 6]), 197), (197, (1, 3, 0, 0, []), 198), (198, (0, 0, 1, 16, []), 200), (200, (6, 0, 0, 0, []), 201), (201, (51, 0, 0, 0, []), 202)]
def ztab_89 : List (Nat × ZI × Nat) := [(0, (2, 0, 0, 0, []), 1), (1, (21, 6, 7, 28, [0]), 4), (4, (1, 1, 0, 0, []), 5), (5, (1, 2, 0, 0, []), 6), (6, (25, 0, 0, 0, []), 7), (7, (0, 0, 0, 1, []), 8), (8, (51, 0, 1, 0, []), 9)]
def ztab_90 : List (Nat × ZI × Nat) := [(0, (2, 0, 0, 0, []), 1), (1, (21, 6, 4, 19, [0]), 4), (4, (1, 3, 0, 0, []), 5), (5, (24, 0, 0, 0, []), 6), (6, (3, 4, 1, 0, []), 8), (8, (0, 0, 1, 16, []), 10), (10, (1, 1, 0, 0, []), 11), (11, (6, 0, 2, 0, []), 12), (12, (1, 4, 1, 0, []), 14), (14, (6, 0, 0, 0, []), 15), (15, (3, 5, 1, 0, []), 17), (17, (2, 0, 0, 0, []), 18), (18, (21, 6, 3, 16, [0]), 21), (21, (1, 3, 0, 0, []), 22), (22, (24, 0, 0, 0, []), 23), (23, (0, 0, 0, 1, []), 24), (24, (11, 31, 1, 0, []), 27), (27, (0, 0, 0, 1, []), 28), (28, (13, 32, 0, 0, []), 31), (31, (0, 0, 0, 0, []), 32), (32, (3, 6, 1, 0, []), 34), (34, (2, 0, 0, 0, []), 35), (35, (21, 6, 12, 40, [0]), 38), (38, (1, 2, 0, 0, []), 39), (39, (24, 0, 0, 0, []), 40), (40, (0, 0, 0, 4, []), 41), (41, (11, 131, 1, 0, []), 44), (44, (2, 0, 0, 0, []), 45), (45, (21, 6, 26, 77, [0]), 48), (48, (1, 5, 1, 0, []), 50), (50, (24, 0, 0, 0, []), 51), (51, (12, 63, 1, 0, []), 54), (54, (2, 0, 0, 0, []), 55), (55, (21, 6, 12, 40, [0]), 58), (58, (1, 2, 0, 0, []), 59), (59, (0, 0, 0, 5, []), 60), (60, (25, 0, 0, 0, []), 61), (61, (0, 0, 0, 0, []), 62), (62, (51, 0, 1, 0, []), 63), (63, (1, 6, 1, 0, []), 65), (65, (12, 86, 0, 0, []), 68), (68, (2, 0, 0, 0, []), 69), (69, (21, 6, 28, 83, [0]), 72), (72, (1, 5, 1, 0, []), 74), (74, (26, 0, 0, 0, []), 75), (75, (12, 86, 1, 0, []), 78), (78, (2, 0, 0, 0, []), 79), (79, (1, 3, 0, 0, []), 80), (80, (0, 0, 1, -2, []), 82), (82, (40, 89, 3, 171, [1, 6]), 85), (85, (51, 0, 1, 0, []), 86), (86, (2, 0, 0, 0, []), 87), (87, (21, 6, 25, 74, [0]), 90), (90, (2, 0, 0, 0, []), 91), (91, (21, 6, 27, 80, [0]), 94), (94, (1, 5, 1, 0, []), 96), (96, (24, 0, 0, 0, []), 97), (97, (24, 0, 0, 0, []), 98), (98, (3, 7, 1, 0, []), 100), (100, (1, 6, 1, 0, []), 102), (102, (12, 123, 0, 0, []), 105), (105, (2, 0, 0, 0, []), 106), (106, (21, 6, 25, 74, [0]), 109), (109, (2, 0, 0, 0, []), 110), (110, (21, 6, 27, 80, [0]), 113), (113, (1, 5, 1, 0, []), 115), (115, (24, 0, 0, 0, []), 116), (116, (2, 0, 0, 0, []), 117), (117, (21, 6, 6, 25, [0]), 120), (120, (1, 3, 0, 0, []), 121), (121, (24, 0, 0, 0, []), 122), (122, (25, 0, 0, 0, []), 123), (123, (2, 0, 0, 0, []), 124), (124, (1, 3, 0, 0, []), 125), (125, (1, 7, 1, 0, []), 127), (127, (40, 89, 3, 171, [1, 6]), 130), (130, (51, 0, 1, 0, []), 131), (131, (2, 0, 0, 0, []), 132), (132, (21, 6, 12, 40, [0]), 135), (135, (1, 2, 0, 0, []), 136), (136, (24, 0, 0, 0, []), 137), (137, (0, 0, 0, 5, []), 138), (138, (11, 171, 1, 0, []), 141), (141, (2, 0, 0, 0, []), 142), (142, (21, 6, 24, 71, [0]), 145), (145, (1, 4, 1, 0, []), 147), (147, (0, 0, 0, 4, []), 148), (148, (6, 0, 3, 0, []), 149), (149, (26, 0, 0, 0, []), 150), (150, (12, 161, 1, 0, []), 153), (153, (2, 0, 0, 0, []), 154), (154, (1, 3, 0, 0, []), 155), (155, (0, 0, 1, -2, []), 157), (157, (40, 89, 3, 171, [1, 6]), 160), (160, (51, 0, 1, 0, []), 161), (161, (2, 0, 0, 0, []), 162), (162, (21, 6, 12, 40, [0]), 165), (165, (1, 2, 0, 0, []), 166), (166, (0, 0, 1, 6, []), 168), (168, (25, 0, 0, 0, []), 169), (169, (0, 0, 0, 0, []), 170), (170, (51, 0, 1, 0, []), 171), (171, (2, 0, 0, 0, []), 172), (172, (21, 6, 22, 65, [0]), 175), (175, (1, 4, 1, 0, []), 177), (177, (24, 0, 0, 0, []), 178), (178, (12, 196, 2, 0, []), 181), (181, (1, 6, 1, 0, []), 183), (183, (12, 204, 0, 0, []), 186), (186, (2, 0, 0, 0, []), 187), (187, (21, 6, 23, 68, [0]), 190), (190, (1, 4, 1, 0, []), 192), (192, (26, 0, 0, 0, []), 193), (193, (12, 204, 1, 0, []), 196), (196, (2, 0, 0, 0, []), 197), (197, (1, 3, 0, 0, []), 198), (198, (0, 0, 1, -2, []), 200), (200, (40, 89, 3, 171, [1, 6]), 203), (203, (51, 0, 1, 0, []), 204), (204, (2, 0, 0, 0, []), 205), (205, (1, 1, 0, 0, []), 206), (206, (1, 4, 1, 0, []), 208), (208, (40, 91, 3, 174, [1, 6]), 211), (211, (2, 0, 0, 0, []), 212), (212, (21, 6, 12, 40, [0]), 215), (215, (1, 2, 0, 0, []), 216), (216, (0, 0, 0, 4, []), 217), (217, (25, 0, 0, 0, []), 218), (218, (0, 0, 0, 0, []), 219), (219, (51, 0, 1, 0, []), 220)]
def ztab_91 : List (Nat × ZI × Nat) := [(0, (0, 0, 0, 0, []), 1), (1, (3, 3, 0, 0, []), 2), (2, (0, 0, 0, -1, []), 3), (3, (3, 4, 1, 0, []), 5), (5, (0, 0, 1, 16, []), 7), (7, (1, 1, 0, 0, []), 8), (8, (6, 0, 2, 0, []), 9), (9, (3, 5, 1, 0, []), 11), (11, (1, 5, 1, 0, []), 13), (13, (0, 0, 1, 16, []), 15), (15, (1, 1, 0, 0, []), 16), (16, (6, 0, 2, 0, []), 17), (17, (0, 0, 1, 16, []), 19), (19, (6, 0, 0, 0, []), 20), (20, (11, 73, 3, 0, []), 23), (23, (2, 0, 0, 0, []), 24), (24, (21, 6, 26, 77, [0]), 27), (27, (1, 5, 1, 0, []), 29), (29, (24, 0, 0, 0, []), 30), (30, (12, 67, 5, 0, []), 33), (33, (5, 3, 0, 1, []), 36), (36, (1, 4, 1, 0, []), 38), (38, (12, 58, 2, 0, []), 41), (41, (2, 0, 0, 0, []), 42), (42, (21, 6, 26, 77, [0]), 45), (45, (1, 5, 1, 0, []), 47), (47, (24, 0, 0, 0, []), 48), (48, (2, 0, 0, 0, []), 49), (49, (21, 6, 26, 77, [0]), 52), (52, (1, 4, 1, 0, []), 54), (54, (24, 0, 0, 0, []), 55), (55, (11, 63, 3, 0, []), 58), (58, (1, 5, 1, 0, []), 60), (60, (13, 65, 0, 0, []), 63), (63, (1, 4, 1, 0, []), 65), (65, (3, 4, 1, 0, []), 67), (67, (5, 5, 0, 1, []), 70), (70, (13, 11, 0, 0, []), 73), (73, (1, 3, 0, 0, []), 74), (74, (0, 0, 0, 3, []), 75), (75, (11, 86, 1, 0, []), 78), (78, (2, 0, 0, 0, []), 79), (79, (21, 6, 26, 77, [0]), 82), (82, (1, 4, 1, 0, []), 84), (84, (0, 0, 0, 0, []), 85), (85, (25, 0, 0, 0, []), 86), (86, (2, 0, 0, 0, []), 87), (87, (21, 6, 26, 77, [0]), 90), (90, (0, 0, 1, 16, []), 92), (92, (1, 1, 0, 0, []), 93), (93, (6, 0, 2, 0, []), 94), (94, (1, 2, 0, 0, []), 95), (95, (6, 0, 0, 0, []), 96), (96, (2, 0, 0, 0, []), 97), (97, (40, 66, 1, 109, [1, 6]), 100), (100, (25, 0, 0, 0, []), 101), (101, (2, 0, 0, 0, []), 102), (102, (21, 6, 27, 80, [0]), 105), (105, (0, 0, 1, 16, []), 107), (107, (1, 1, 0, 0, []), 108), (108, (6, 0, 2, 0, []), 109), (109, (1, 2, 0, 0, []), 110), (110, (6, 0, 0, 0, []), 111), (111, (2, 0, 0, 0, []), 112), (112, (21, 6, 22, 65, [0]), 115), (115, (1, 2, 0, 0, []), 116), (116, (24, 0, 0, 0, []), 117), (117, (25, 0, 0, 0, []), 118), (118, (2, 0, 0, 0, []), 119), (119, (21, 6, 28, 83, [0]), 122), (122, (0, 0, 1, 16, []), 124), (124, (1, 1, 0, 0, []), 125), (125, (6, 0, 2, 0, []), 126), (126, (1, 2, 0, 0, []), 127), (127, (6, 0, 0, 0, []), 128), (128, (2, 0, 0, 0, []), 129), (129, (21, 6, 23, 68, [0]), 132), (132, (1, 2, 0, 0, []), 133), (133, (26, 0, 0, 0, []), 134), (134, (27, 0, 0, 0, []), 135), (135, (50, 0, 0, 0, []), 136)]
def ztab_92 : List (Nat × ZI × Nat) := [(0, (0, 0, 0, 0, []), 1), (1, (3, 2, 0, 0, []), 2), (2, (0, 0, 0, 0, []), 3), (3, (3, 3, 0, 0, []), 4), (4, (1, 3, 0, 0, []), 5), (5, (0, 0, 1, 10, []), 7), (7, (11, 34, 3, 0, []), 10), (10, (1, 2, 0, 0, []), 11), (11, (2, 0, 0, 0, []), 12), (12, (21, 6, 29, 86, [0]), 15), (15, (1, 3, 0, 0, []), 16), (16, (24, 0, 0, 0, []), 17), (17, (1, 1, 0, 0, []), 18), (18, (11, 25, 1, 0, []), 21), (21, (0, 0, 0, 1, []), 22), (22, (13, 26, 0, 0, []), 25), (25, (0, 0, 0, 0, []), 26), (26, (6, 0, 0, 0, []), 27), (27, (3, 2, 0, 0, []), 28), (28, (5, 3, 0, 1, []), 31), (31, (13, 4, 0, 0, []), 34), (34, (1, 2, 0, 0, []), 35), (35, (51, 0, 0, 0, []), 36)]
def ztab_93 : List (Nat × ZI × Nat) := [(0, (0, 0, 0, 0, []), 1), (1, (3, 2, 0, 0, []), 2), (2, (0, 0, 0, 0, []), 3), (3, (3, 3, 0, 0, []), 4), (4, (1, 3, 0, 0, []), 5), (5, (2, 0, 0, 0, []), 6), (6, (21, 6, 5, 22, [0]), 9), (9, (1, 1, 0, 0, []), 10), (10, (24, 0, 0, 0, []), 11), (11, (11, 46, 3, 0, []), 14), (14, (1, 2, 0, 0, []), 15), (15, (12, 34, 1, 0, []), 18), (18, (2, 0, 0, 0, []), 19), (19, (21, 6, 22, 65, [0]), 22), (22, (2, 0, 0, 0, []), 23), (23, (21, 6, 4, 19, [0]), 26), (26, (1, 1, 0, 0, []), 27), (27, (24, 0, 0, 0, []), 28), (28, (1, 3, 0, 0, []), 29), (29, (6, 0, 0, 0, []), 30), (30, (24, 0, 0, 0, []), 31), (31, (12, 38, 2, 0, []), 34), (34, (0, 0, 0, 1, []), 35), (35, (13, 39, 0, 0, []), 38), (38, (0, 0, 0, 0, []), 39), (39, (3, 2, 0, 0, []), 40), (40, (5, 3, 0, 1, []), 43), (43, (13, 4, 0, 0, []), 46), (46, (1, 2, 0, 0, []), 47), (47, (51, 0, 1, 0, []), 48)]
def ztab_94 : List (Nat × ZI × Nat) := [(0, (2, 0, 0, 0, []), 1), (1, (21, 6, 12, 40, [0]), 4), (4, (1, 2, 0, 0, []), 5), (5, (24, 0, 0, 0, []), 6), (6, (0, 0, 1, 7, []), 8), (8, (11, 42, 1, 0, []), 11), (11, (2, 0, 0, 0, []), 12), (12, (21, 6, 13, 43, [0]), 15), (15, (1, 2, 0, 0, []), 16), (16, (2, 0, 0, 0, []), 17), (17, (20, 6, 20, 177, [0]), 20), (20, (25, 0, 0, 0, []), 21), (21, (2, 0, 0, 0, []), 22), (22, (7, 0, 0, 0, []), 23), (23, (20, 6, 20, 177, [0]), 26), (26, (0, 0, 0, 1, []), 27), (27, (6, 0, 0, 0, []), 28), (28, (22, 6, 20, 177, [0]), 31), (31, (2, 0, 0, 0, []), 32), (32, (21, 6, 12, 40, [0]), 35), (35, (1, 2, 0, 0, []), 36), (36, (0, 0, 1, 8, []), 38), (38, (25, 0, 0, 0, []), 39), (39, (13, 272, 0, 0, []), 42), (42, (2, 0, 0, 0, []), 43), (43, (21, 6, 12, 40, [0]), 46), (46, (1, 2, 0, 0, []), 47), (47, (24, 0, 0, 0, []), 48), (48, (0, 0, 1, 8, []), 50), (50, (11, 92, 1, 0, []), 53), (53, (2, 0, 0, 0, []), 54), (54, (20, 6, 21, 180, [0]), 57), (57, (2, 0, 0, 0, []), 58), (58, (21, 6, 13, 43, [0]), 61), (61, (1, 2, 0, 0, []), 62), (62, (24, 0, 0, 0, []), 63), (63, (11, 272, 1, 0, []), 66), (66, (2, 0, 0, 0, []), 67), (67, (21, 6, 12, 40, [0]), 70), (70, (1, 2, 0, 0, []), 71), (71, (2, 0, 0, 0, []), 72), (72, (21, 6, 3, 16, [0]), 75), (75, (1, 3, 0, 0, []), 76), (76, (24, 0, 0, 0, []), 77), (77, (0, 0, 0, 2, []), 78), (78, (11, 86, 1, 0, []), 81), (81, (0, 0, 1, 9, []), 83), (83, (13, 88, 0, 0, []), 86), (86, (0, 0, 1, 10, []), 88), (88, (25, 0, 0, 0, []), 89), (89, (13, 272, 0, 0, []), 92), (92, (2, 0, 0, 0, []), 93), (93, (21, 6, 12, 40, [0]), 96), (96, (1, 2, 0, 0, []), 97), (97, (24, 0, 0, 0, []), 98), (98, (0, 0, 1, 9, []), 100), (100, (11, 167, 1, 0, []), 103), (103, (2, 0, 0, 0, []), 104), (104, (21, 6, 17, 55, [0]), 107), (107, (1, 2, 0, 0, []), 108), (108, (2, 0, 0, 0, []), 109), (109, (1, 3, 0, 0, []), 110), (110, (40, 93, 2, 183, [1, 6]), 113), (113, (12, 136, 1, 0, []), 116), (116, (2, 0, 0, 0, []), 117), (117, (1, 1, 0, 0, []), 118), (118, (40, 92, 2, 186, [1, 6]), 121), (121, (2, 0, 0, 0, []), 122), (122, (0, 0, 0, 4, []), 123), (123, (40, 92, 2, 186, [1, 6]), 126), (126, (6, 0, 0, 0, []), 127), (127, (2, 0, 0, 0, []), 128), (128, (21, 6, 5, 22, [0]), 131), (131, (1, 3, 0, 0, []), 132), (132, (24, 0, 0, 0, []), 133), (133, (11, 140, 3, 0, []), 136), (136, (0, 0, 0, 1, []), 137), (137, (13, 141, 0, 0, []), 140), (140, (0, 0, 0, 0, []), 141), (141, (27, 0, 0, 0, []), 142), (142, (2, 0, 0, 0, []), 143), (143, (21, 6, 12, 40, [0]), 146), (146, (1, 2, 0, 0, []), 147), (147, (2, 0, 0, 0, []), 148), (148, (21, 6, 17, 55, [0]), 151), (151, (1, 2, 0, 0, []), 152), (152, (26, 0, 0, 0, []), 153), (153, (12, 161, 0, 0, []), 156), (156, (0, 0, 1, 14, []), 158), (158, (13, 163, 0, 0, []), 161), (161, (0, 0, 1, 10, []), 163), (163, (25, 0, 0, 0, []), 164), (164, (13, 272, 0, 0, []), 167), (167, (2, 0, 0, 0, []), 168), (168, (21, 6, 4, 19, [0]), 171), (171, (1, 3, 0, 0, []), 172), (172, (24, 0, 0, 0, []), 173), (173, (2, 0, 0, 0, []), 174), (174, (21, 6, 14, 46, [0]), 177), (177, (1, 2, 0, 0, []), 178), (178, (24, 0, 0, 0, []), 179), (179, (6, 0, 0, 0, []), 180), (180, (3, 4, 1, 0, []), 182), (182, (2, 0, 0, 0, []), 183), (183, (21, 6, 16, 52, [0]), 186), (186, (1, 2, 0, 0, []), 187), (187, (8, 0, 0, 0, []), 188), (188, (24, 0, 0, 0, []), 189), (189, (2, 0, 0, 0, []), 190), (190, (1, 1, 0, 0, []), 191), (191, (1, 2, 0, 0, []), 192), (192, (1, 3, 0, 0, []), 193), (193, (1, 4, 1, 0, []), 195), (195, (40, 96, 5, 189, [1, 6]), 198), (198, (12, 205, 0, 0, []), 201), (201, (0, 0, 0, 1, []), 202), (202, (13, 206, 0, 0, []), 205), (205, (0, 0, 0, 0, []), 206), (206, (6, 0, 0, 0, []), 207), (207, (25, 0, 0, 0, []), 208), (208, (2, 0, 0, 0, []), 209), (209, (21, 6, 14, 46, [0]), 212), (212, (1, 2, 0, 0, []), 213), (213, (8, 0, 0, 0, []), 214), (214, (24, 0, 0, 0, []), 215), (215, (0, 0, 0, 1, []), 216), (216, (6, 0, 0, 0, []), 217), (217, (25, 0, 0, 0, []), 218), (218, (2, 0, 0, 0, []), 219), (219, (21, 6, 14, 46, [0]), 222), (222, (1, 2, 0, 0, []), 223), (223, (24, 0, 0, 0, []), 224), (224, (2, 0, 0, 0, []), 225), (225, (21, 6, 5, 22, [0]), 228), (228, (1, 3, 0, 0, []), 229), (229, (24, 0, 0, 0, []), 230), (230, (11, 272, 1, 0, []), 233), (233, (2, 0, 0, 0, []), 234), (234, (21, 6, 14, 46, [0]), 237), (237, (1, 2, 0, 0, []), 238), (238, (0, 0, 0, 0, []), 239), (239, (25, 0, 0, 0, []), 240), (240, (2, 0, 0, 0, []), 241), (241, (21, 6, 12, 40, [0]), 244), (244, (1, 2, 0, 0, []), 245), (245, (2, 0, 0, 0, []), 246), (246, (21, 6, 3, 16, [0]), 249), (249, (1, 3, 0, 0, []), 250), (250, (24, 0, 0, 0, []), 251), (251, (0, 0, 0, 2, []), 252), (252, (11, 269, 0, 0, []), 255), (255, (2, 0, 0, 0, []), 256), (256, (21, 6, 16, 52, [0]), 259), (259, (1, 2, 0, 0, []), 260), (260, (24, 0, 0, 0, []), 261), (261, (12, 269, 5, 0, []), 264), (264, (0, 0, 1, 11, []), 266), (266, (13, 271, 0, 0, []), 269), (269, (0, 0, 1, 14, []), 271), (271, (25, 0, 0, 0, []), 272), (272, (0, 0, 0, 0, []), 273), (273, (51, 0, 1, 0, []), 274)]
def ztab_95 : List (Nat × ZI × Nat) := [(0, (0, 0, 0, -1, []), 1), (1, (3, 2, 0, 0, []), 2), (2, (0, 0, 0, 0, []), 3), (3, (3, 3, 0, 0, []), 4), (4, (1, 3, 0, 0, []), 5), (5, (0, 0, 1, 10, []), 7), (7, (11, 51, 3, 0, []), 10), (10, (2, 0, 0, 0, []), 11), (11, (21, 6, 29, 86, [0]), 14), (14, (1, 3, 0, 0, []), 15), (15, (24, 0, 0, 0, []), 16), (16, (1, 1, 0, 0, []), 17), (17, (11, 43, 1, 0, []), 20), (20, (1, 2, 0, 0, []), 21), (21, (12, 39, 2, 0, []), 24), (24, (2, 0, 0, 0, []), 25), (25, (21, 6, 30, 89, [0]), 28), (28, (1, 3, 0, 0, []), 29), (29, (24, 0, 0, 0, []), 30), (30, (2, 0, 0, 0, []), 31), (31, (21, 6, 30, 89, [0]), 34), (34, (1, 2, 0, 0, []), 35), (35, (24, 0, 0, 0, []), 36), (36, (11, 43, 5, 0, []), 39), (39, (1, 3, 0, 0, []), 40), (40, (13, 44, 0, 0, []), 43), (43, (1, 2, 0, 0, []), 44), (44, (3, 2, 0, 0, []), 45), (45, (5, 3, 0, 1, []), 48), (48, (13, 4, 0, 0, []), 51), (51, (1, 2, 0, 0, []), 52), (52, (12, 57, 2, 0, []), 55), (55, (1, 2, 0, 0, []), 56), (56, (51, 0, 0, 0, []), 57), (57, (0, 0, 0, 0, []), 58), (58, (3, 3, 0, 0, []), 59), (59, (1, 3, 0, 0, []), 60), (60, (0, 0, 1, 10, []), 62), (62, (11, 106, 3, 0, []), 65), (65, (2, 0, 0, 0, []), 66), (66, (21, 6, 29, 86, [0]), 69), (69, (1, 3, 0, 0, []), 70), (70, (24, 0, 0, 0, []), 71), (71, (0, 0, 0, 4, []), 72), (72, (11, 98, 1, 0, []), 75), (75, (1, 2, 0, 0, []), 76), (76, (12, 94, 2, 0, []), 79), (79, (2, 0, 0, 0, []), 80), (80, (21, 6, 30, 89, [0]), 83), (83, (1, 3, 0, 0, []), 84), (84, (24, 0, 0, 0, []), 85), (85, (2, 0, 0, 0, []), 86), (86, (21, 6, 30, 89, [0]), 89), (89, (1, 2, 0, 0, []), 90), (90, (24, 0, 0, 0, []), 91), (91, (11, 98, 3, 0, []), 94), (94, (1, 3, 0, 0, []), 95), (95, (13, 99, 0, 0, []), 98), (98, (1, 2, 0, 0, []), 99), (99, (3, 2, 0, 0, []), 100), (100, (5, 3, 0, 1, []), 103), (103, (13, 59, 0, 0, []), 106), (106, (1, 2, 0, 0, []), 107), (107, (51, 0, 0, 0, []), 108)]
def ztab_96 : List (Nat × ZI × Nat) := [(0, (2, 0, 0, 0, []), 1), (1, (21, 6, 3, 16, [0]), 4), (4, (1, 3, 0, 0, []), 5), (5, (24, 0, 0, 0, []), 6), (6, (0, 0, 0, 2, []), 7), (7, (11, 76, 1, 0, []), 10), (10, (2, 0, 0, 0, []), 11), (11, (1, 1, 0, 0, []), 12), (12, (40, 95, 2, 193, [1, 6]), 15), (15, (3, 5, 1, 0, []), 17), (17, (2, 0, 0, 0, []), 18), (18, (21, 6, 29, 86, [0]), 21), (21, (1, 5, 1, 0, []), 23), (23, (0, 0, 0, -1, []), 24), (24, (25, 0, 0, 0, []), 25), (25, (2, 0, 0, 0, []), 26), (26, (21, 6, 25, 74, [0]), 29), (29, (1, 5, 1, 0, []), 31), (31, (0, 0, 0, 0, []), 32), (32, (25, 0, 0, 0, []), 33), (33, (2, 0, 0, 0, []), 34), (34, (21, 6, 22, 65, [0]), 37), (37, (1, 4, 1, 0, []), 39), (39, (1, 5, 1, 0, []), 41), (41, (25, 0, 0, 0, []), 42), (42, (2, 0, 0, 0, []), 43), (43, (21, 6, 23, 68, [0]), 46), (46, (1, 4, 1, 0, []), 48), (48, (2, 0, 0, 0, []), 49), (49, (21, 6, 6, 25, [0]), 52), (52, (1, 3, 0, 0, []), 53), (53, (24, 0, 0, 0, []), 54), (54, (0, 0, 0, 1, []), 55), (55, (11, 62, 1, 0, []), 58), (58, (0, 0, 0, 1, []), 59), (59, (13, 63, 0, 0, []), 62), (62, (0, 0, 0, 0, []), 63), (63, (27, 0, 0, 0, []), 64), (64, (2, 0, 0, 0, []), 65), (65, (21, 6, 24, 71, [0]), 68), (68, (1, 4, 1, 0, []), 70), (70, (0, 0, 0, 4, []), 71), (71, (6, 0, 3, 0, []), 72), (72, (0, 0, 0, 1, []), 73), (73, (27, 0, 0, 0, []), 74), (74, (0, 0, 0, 1, []), 75), (75, (51, 0, 1, 0, []), 76), (76, (2, 0, 0, 0, []), 77), (77, (21, 6, 22, 65, [0]), 80), (80, (1, 4, 1, 0, []), 82), (82, (24, 0, 0, 0, []), 83), (83, (12, 106, 2, 0, []), 86), (86, (2, 0, 0, 0, []), 87), (87, (21, 6, 3, 16, [0]), 90), (90, (1, 3, 0, 0, []), 91), (91, (24, 0, 0, 0, []), 92), (92, (0, 0, 0, 4, []), 93), (93, (11, 108, 1, 0, []), 96), (96, (2, 0, 0, 0, []), 97), (97, (21, 6, 23, 68, [0]), 100), (100, (1, 4, 1, 0, []), 102), (102, (26, 0, 0, 0, []), 103), (103, (12, 108, 1, 0, []), 106), (106, (0, 0, 0, 0, []), 107), (107, (51, 0, 1, 0, []), 108), (108, (2, 0, 0, 0, []), 109), (109, (21, 6, 3, 16, [0]), 112), (112, (1, 3, 0, 0, []), 113), (113, (24, 0, 0, 0, []), 114), (114, (0, 0, 0, 4, []), 115), (115, (11, 128, 1, 0, []), 118), (118, (2, 0, 0, 0, []), 119), (119, (21, 6, 23, 68, [0]), 122), (122, (1, 4, 1, 0, []), 124), (124, (0, 0, 0, 0, []), 125), (125, (27, 0, 0, 0, []), 126), (126, (0, 0, 0, 1, []), 127), (127, (51, 0, 1, 0, []), 128), (128, (2, 0, 0, 0, []), 129), (129, (21, 6, 18, 59, [0]), 132), (132, (0, 0, 0, 4, []), 133), (133, (1, 2, 0, 0, []), 134), (134, (6, 0, 2, 0, []), 135), (135, (2, 0, 0, 0, []), 136), (136, (21, 6, 19, 62, [0]), 139), (139, (1, 2, 0, 0, []), 140), (140, (24, 0, 0, 0, []), 141), (141, (6, 0, 0, 0, []), 142), (142, (2, 0, 0, 0, []), 143), (143, (21, 6, 22, 65, [0]), 146), (146, (1, 4, 1, 0, []), 148), (148, (24, 0, 0, 0, []), 149), (149, (25, 0, 0, 0, []), 150), (150, (2, 0, 0, 0, []), 151), (151, (21, 6, 19, 62, [0]), 154), (154, (1, 2, 0, 0, []), 155), (155, (8, 0, 0, 0, []), 156), (156, (24, 0, 0, 0, []), 157), (157, (0, 0, 0, 1, []), 158), (158, (6, 0, 0, 0, []), 159), (159, (25, 0, 0, 0, []), 160), (160, (2, 0, 0, 0, []), 161), (161, (21, 6, 22, 65, [0]), 164), (164, (1, 4, 1, 0, []), 166), (166, (0, 0, 0, -1, []), 167), (167, (25, 0, 0, 0, []), 168), (168, (0, 0, 0, 1, []), 169), (169, (51, 0, 1, 0, []), 170)]
def ztab_97 : List (Nat × ZI × Nat) := [(0, (2, 0, 0, 0, []), 1), (1, (21, 6, 12, 40, [0]), 4), (4, (1, 2, 0, 0, []), 5), (5, (24, 0, 0, 0, []), 6), (6, (0, 0, 1, 11, []), 8), (8, (11, 99, 1, 0, []), 11), (11, (2, 0, 0, 0, []), 12), (12, (21, 6, 14, 46, [0]), 15), (15, (1, 2, 0, 0, []), 16), (16, (24, 0, 0, 0, []), 17), (17, (1, 1, 0, 0, []), 18), (18, (11, 30, 1, 0, []), 21), (21, (2, 0, 0, 0, []), 22), (22, (1, 1, 0, 0, []), 23), (23, (1, 2, 0, 0, []), 24), (24, (40, 87, 3, 139, [1, 6]), 27), (27, (13, 64, 0, 0, []), 30), (30, (2, 0, 0, 0, []), 31), (31, (21, 6, 31, 92, [0]), 34), (34, (2, 0, 0, 0, []), 35), (35, (21, 6, 14, 46, [0]), 38), (38, (1, 2, 0, 0, []), 39), (39, (24, 0, 0, 0, []), 40), (40, (0, 0, 0, 1, []), 41), (41, (27, 0, 0, 0, []), 42), (42, (2, 0, 0, 0, []), 43), (43, (21, 6, 32, 95, [0]), 46), (46, (2, 0, 0, 0, []), 47), (47, (21, 6, 14, 46, [0]), 50), (50, (1, 2, 0, 0, []), 51), (51, (24, 0, 0, 0, []), 52), (52, (1, 2, 0, 0, []), 53), (53, (25, 0, 0, 0, []), 54), (54, (2, 0, 0, 0, []), 55), (55, (21, 6, 15, 49, [0]), 58), (58, (1, 2, 0, 0, []), 59), (59, (8, 0, 0, 0, []), 60), (60, (24, 0, 0, 0, []), 61), (61, (0, 0, 0, 1, []), 62), (62, (6, 0, 0, 0, []), 63), (63, (25, 0, 0, 0, []), 64), (64, (2, 0, 0, 0, []), 65), (65, (21, 6, 14, 46, [0]), 68), (68, (1, 2, 0, 0, []), 69), (69, (8, 0, 0, 0, []), 70), (70, (24, 0, 0, 0, []), 71), (71, (0, 0, 0, 1, []), 72), (72, (6, 0, 0, 0, []), 73), (73, (25, 0, 0, 0, []), 74), (74, (2, 0, 0, 0, []), 75), (75, (21, 6, 12, 40, [0]), 78), (78, (1, 2, 0, 0, []), 79), (79, (2, 0, 0, 0, []), 80), (80, (21, 6, 14, 46, [0]), 83), (83, (1, 2, 0, 0, []), 84), (84, (24, 0, 0, 0, []), 85), (85, (0, 0, 0, 4, []), 86), (86, (11, 94, 1, 0, []), 89), (89, (0, 0, 1, 12, []), 91), (91, (13, 96, 0, 0, []), 94), (94, (0, 0, 1, 11, []), 96), (96, (25, 0, 0, 0, []), 97), (97, (0, 0, 0, 0, []), 98), (98, (51, 0, 1, 0, []), 99), (99, (2, 0, 0, 0, []), 100), (100, (21, 6, 12, 40, [0]), 103), (103, (1, 2, 0, 0, []), 104), (104, (24, 0, 0, 0, []), 105), (105, (0, 0, 1, 12, []), 107), (107, (11, 151, 1, 0, []), 110), (110, (2, 0, 0, 0, []), 111), (111, (21, 6, 14, 46, [0]), 114), (114, (1, 2, 0, 0, []), 115), (115, (0, 0, 0, 0, []), 116), (116, (25, 0, 0, 0, []), 117), (117, (2, 0, 0, 0, []), 118), (118, (21, 6, 15, 49, [0]), 121), (121, (1, 2, 0, 0, []), 122), (122, (24, 0, 0, 0, []), 123), (123, (12, 149, 1, 0, []), 126), (126, (2, 0, 0, 0, []), 127), (127, (21, 6, 12, 40, [0]), 130), (130, (1, 2, 0, 0, []), 131), (131, (2, 0, 0, 0, []), 132), (132, (21, 6, 3, 16, [0]), 135), (135, (1, 3, 0, 0, []), 136), (136, (24, 0, 0, 0, []), 137), (137, (0, 0, 0, 3, []), 138), (138, (11, 146, 1, 0, []), 141), (141, (0, 0, 1, 13, []), 143), (143, (13, 148, 0, 0, []), 146), (146, (0, 0, 1, 14, []), 148), (148, (25, 0, 0, 0, []), 149), (149, (0, 0, 0, 0, []), 150), (150, (51, 0, 1, 0, []), 151), (151, (2, 0, 0, 0, []), 152), (152, (21, 6, 12, 40, [0]), 155), (155, (1, 2, 0, 0, []), 156), (156, (24, 0, 0, 0, []), 157), (157, (0, 0, 1, 13, []), 159), (159, (11, 251, 1, 0, []), 162), (162, (2, 0, 0, 0, []), 163), (163, (21, 6, 18, 59, [0]), 166), (166, (0, 0, 0, 4, []), 167), (167, (1, 2, 0, 0, []), 168), (168, (6, 0, 2, 0, []), 169), (169, (2, 0, 0, 0, []), 170), (170, (21, 6, 14, 46, [0]), 173), (173, (1, 2, 0, 0, []), 174), (174, (24, 0, 0, 0, []), 175), (175, (6, 0, 0, 0, []), 176), (176, (24, 0, 0, 0, []), 177), (177, (3, 4, 1, 0, []), 179), (179, (2, 0, 0, 0, []), 180), (180, (21, 6, 29, 86, [0]), 183), (183, (1, 4, 1, 0, []), 185), (185, (2, 0, 0, 0, []), 186), (186, (1, 1, 0, 0, []), 187), (187, (40, 92, 2, 186, [1, 6]), 190), (190, (0, 0, 0, 2, []), 191), (191, (11, 198, 3, 0, []), 194), (194, (1, 1, 0, 0, []), 195), (195, (13, 199, 0, 0, []), 198), (198, (0, 0, 0, 4, []), 199), (199, (25, 0, 0, 0, []), 200), (200, (2, 0, 0, 0, []), 201), (201, (21, 6, 30, 89, [0]), 204), (204, (1, 4, 1, 0, []), 206), (206, (2, 0, 0, 0, []), 207), (207, (40, 66, 1, 109, [1, 6]), 210), (210, (25, 0, 0, 0, []), 211), (211, (2, 0, 0, 0, []), 212), (212, (21, 6, 14, 46, [0]), 215), (215, (1, 2, 0, 0, []), 216), (216, (8, 0, 0, 0, []), 217), (217, (24, 0, 0, 0, []), 218), (218, (0, 0, 0, 1, []), 219), (219, (6, 0, 0, 0, []), 220), (220, (25, 0, 0, 0, []), 221), (221, (2, 0, 0, 0, []), 222), (222, (21, 6, 12, 40, [0]), 225), (225, (1, 2, 0, 0, []), 226), (226, (2, 0, 0, 0, []), 227), (227, (21, 6, 14, 46, [0]), 230), (230, (1, 2, 0, 0, []), 231), (231, (24, 0, 0, 0, []), 232), (232, (2, 0, 0, 0, []), 233), (233, (21, 6, 19, 62, [0]), 236), (236, (1, 2, 0, 0, []), 237), (237, (24, 0, 0, 0, []), 238), (238, (11, 246, 1, 0, []), 241), (241, (0, 0, 1, 14, []), 243), (243, (13, 248, 0, 0, []), 246), (246, (0, 0, 1, 13, []), 248), (248, (25, 0, 0, 0, []), 249), (249, (0, 0, 0, 0, []), 250), (250, (51, 0, 1, 0, []), 251), (251, (2, 0, 0, 0, []), 252), (252, (21, 6, 12, 40, [0]), 255), (255, (1, 2, 0, 0, []), 256), (256, (24, 0, 0, 0, []), 257), (257, (0, 0, 1, 14, []), 259), (259, (11, 298, 1, 0, []), 262), (262, (2, 0, 0, 0, []), 263), (263, (7, 0, 0, 0, []), 264), (264, (20, 6, 21, 180, [0]), 267), (267, (0, 0, 0, 1, []), 268), (268, (6, 0, 0, 0, []), 269), (269, (22, 6, 21, 180, [0]), 272), (272, (2, 0, 0, 0, []), 273), (273, (1, 3, 0, 0, []), 274), (274, (2, 0, 0, 0, []), 275), (275, (21, 6, 17, 55, [0]), 278), (278, (1, 2, 0, 0, []), 279), (279, (26, 0, 0, 0, []), 280), (280, (12, 288, 0, 0, []), 283), (283, (0, 0, 1, -3, []), 285), (285, (13, 294, 0, 0, []), 288), (288, (2, 0, 0, 0, []), 289), (289, (21, 6, 16, 52, [0]), 292), (292, (1, 2, 0, 0, []), 293), (293, (24, 0, 0, 0, []), 294), (294, (40, 89, 3, 171, [1, 6]), 297), (297, (51, 0, 1, 0, []), 298), (298, (2, 0, 0, 0, []), 299), (299, (1, 3, 0, 0, []), 300), (300, (0, 0, 0, 0, []), 301), (301, (40, 89, 3, 171, [1, 6]), 304), (304, (51, 0, 1, 0, []), 305)]
def ztab_98 : List (Nat × ZI × Nat) := [(0, (1, 1, 0, 0, []), 1), (1, (12, 26, 2, 0, []), 4), (4, (1, 1, 0, 0, []), 5), (5, (2, 0, 0, 0, []), 6), (6, (20, 6, 0, 106, [0]), 9), (9, (11, 26, 3, 0, []), 12), (12, (1, 2, 0, 0, []), 13), (13, (12, 26, 2, 0, []), 16), (16, (1, 2, 0, 0, []), 17), (17, (2, 0, 0, 0, []), 18), (18, (21, 6, 2, 13, [0]), 21), (21, (1, 1, 0, 0, []), 22), (22, (24, 0, 0, 0, []), 23), (23, (11, 30, 2, 0, []), 26), (26, (0, 0, 0, -1, []), 27), (27, (13, 41, 0, 0, []), 30), (30, (2, 0, 0, 0, []), 31), (31, (21, 6, 7, 28, [0]), 34), (34, (0, 0, 1, 10, []), 36), (36, (1, 1, 0, 0, []), 37), (37, (6, 0, 2, 0, []), 38), (38, (1, 2, 0, 0, []), 39), (39, (6, 0, 0, 0, []), 40), (40, (24, 0, 0, 0, []), 41), (41, (51, 0, 0, 0, []), 42)]
def ztab_99 : List (Nat × ZI × Nat) := [(0, (1, 1, 0, 0, []), 1), (1, (40, 67, 1, 102, [0, 0]), 4), (4, (12, 11, 0, 0, []), 7), (7, (0, 0, 0, -1, []), 8), (8, (13, 16, 0, 0, []), 11), (11, (2, 0, 0, 0, []), 12), (12, (1, 1, 0, 0, []), 13), (13, (40, 79, 2, 143, [1, 6]), 16), (16, (51, 0, 0, 0, []), 17)]
def ztab_100 : List (Nat × ZI × Nat) := [(0, (2, 0, 0, 0, []), 1), (1, (1, 1, 0, 0, []), 2), (2, (40, 99, 2, 196, [1, 6]), 5), (5, (3, 2, 0, 0, []), 6), (6, (1, 2, 0, 0, []), 7), (7, (12, 14, 3, 0, []), 10), (10, (0, 0, 0, -1, []), 11), (11, (13, 20, 0, 0, []), 14), (14, (2, 0, 0, 0, []), 15), (15, (21, 6, 12, 40, [0]), 18), (18, (1, 2, 0, 0, []), 19), (19, (24, 0, 0, 0, []), 20), (20, (51, 0, 0, 0, []), 21)]
def ztab_101 : List (Nat × ZI × Nat) := [(0, (1, 1, 0, 0, []), 1), (1, (40, 67, 1, 102, [0, 0]), 4), (4, (12, 11, 1, 0, []), 7), (7, (1, 2, 0, 0, []), 8), (8, (12, 15, 3, 0, []), 11), (11, (0, 0, 0, -1, []), 12), (12, (13, 21, 0, 0, []), 15), (15, (2, 0, 0, 0, []), 16), (16, (1, 1, 0, 0, []), 17), (17, (1, 2, 0, 0, []), 18), (18, (40, 82, 3, 149, [1, 6]), 21), (21, (51, 0, 0, 0, []), 22)]
def ztab_102 : List (Nat × ZI × Nat) := [(0, (1, 1, 0, 0, []), 1), (1, (40, 67, 1, 102, [0, 0]), 4), (4, (12, 11, 0, 0, []), 7), (7, (0, 0, 0, -1, []), 8), (8, (13, 25, 0, 0, []), 11), (11, (2, 0, 0, 0, []), 12), (12, (21, 6, 31, 92, [0]), 15), (15, (1, 1, 0, 0, []), 16), (16, (26, 0, 0, 0, []), 17), (17, (12, 24, 0, 0, []), 20), (20, (0, 0, 0, 1, []), 21), (21, (13, 25, 0, 0, []), 24), (24, (0, 0, 0, 0, []), 25), (25, (51, 0, 0, 0, []), 26)]
def ztab_103 : List (Nat × ZI × Nat) := [(0, (1, 1, 0, 0, []), 1), (1, (40, 71, 1, 117, [0, 0]), 4), (4, (12, 16, 1, 0, []), 7), (7, (2, 0, 0, 0, []), 8), (8, (21, 6, 22, 65, [0]), 11), (11, (1, 1, 0, 0, []), 12), (12, (24, 0, 0, 0, []), 13), (13, (12, 18, 3, 0, []), 16), (16, (0, 0, 0, -1, []), 17), (17, (51, 0, 0, 0, []), 18), (18, (0, 0, 0, 2, []), 19), (19, (2, 0, 0, 0, []), 20), (20, (21, 6, 22, 65, [0]), 23), (23, (1, 1, 0, 0, []), 24), (24, (24, 0, 0, 0, []), 25), (25, (6, 0, 2, 0, []), 26), (26, (2, 0, 0, 0, []), 27), (27, (21, 6, 23, 68, [0]), 30), (30, (1, 1, 0, 0, []), 31), (31, (26, 0, 0, 0, []), 32), (32, (12, 39, 0, 0, []), 35), (35, (0, 0, 0, 1, []), 36), (36, (13, 40, 0, 0, []), 39), (39, (0, 0, 0, 0, []), 40), (40, (6, 0, 0, 0, []), 41), (41, (51, 0, 0, 0, []), 42)]
def ztab_104 : List (Nat × ZI × Nat) := [(0, (1, 1, 0, 0, []), 1), (1, (40, 67, 1, 102, [0, 0]), 4), (4, (12, 28, 1, 0, []), 7), (7, (1, 2, 0, 0, []), 8), (8, (40, 71, 1, 117, [0, 0]), 11), (11, (12, 28, 1, 0, []), 14), (14, (2, 0, 0, 0, []), 15), (15, (21, 6, 26, 77, [0]), 18), (18, (0, 0, 1, 16, []), 20), (20, (1, 1, 0, 0, []), 21), (21, (6, 0, 2, 0, []), 22), (22, (1, 2, 0, 0, []), 23), (23, (6, 0, 0, 0, []), 24), (24, (24, 0, 0, 0, []), 25), (25, (12, 30, 1, 0, []), 28), (28, (0, 0, 0, -1, []), 29), (29, (51, 0, 0, 0, []), 30), (30, (0, 0, 1, 16, []), 32), (32, (1, 1, 0, 0, []), 33), (33, (6, 0, 2, 0, []), 34), (34, (1, 2, 0, 0, []), 35), (35, (6, 0, 0, 0, []), 36), (36, (3, 3, 0, 0, []), 37), (37, (0, 0, 0, 2, []), 38), (38, (2, 0, 0, 0, []), 39), (39, (21, 6, 27, 80, [0]), 42), (42, (1, 3, 0, 0, []), 43), (43, (24, 0, 0, 0, []), 44), (44, (6, 0, 2, 0, []), 45), (45, (2, 0, 0, 0, []), 46), (46, (21, 6, 28, 83, [0]), 49), (49, (1, 3, 0, 0, []), 50), (50, (26, 0, 0, 0, []), 51), (51, (12, 58, 0, 0, []), 54), (54, (0, 0, 0, 1, []), 55), (55, (13, 59, 0, 0, []), 58), (58, (0, 0, 0, 0, []), 59), (59, (6, 0, 0, 0, []), 60), (60, (51, 0, 0, 0, []), 61)]
def ztab_105 : List (Nat × ZI × Nat) := [(0, (1, 1, 0, 0, []), 1), (1, (12, 10, 2, 0, []), 4), (4, (1, 1, 0, 0, []), 5), (5, (0, 0, 1, 9, []), 7), (7, (11, 14, 5, 0, []), 10), (10, (0, 0, 0, -1, []), 11), (11, (13, 20, 0, 0, []), 14), (14, (2, 0, 0, 0, []), 15), (15, (21, 6, 25, 74, [0]), 18), (18, (1, 1, 0, 0, []), 19), (19, (24, 0, 0, 0, []), 20), (20, (51, 0, 0, 0, []), 21)]
def ztab_106 : List (Nat × ZI × Nat) := [(0, (1, 1, 0, 0, []), 1), (1, (12, 9, 2, 0, []), 4), (4, (1, 1, 0, 0, []), 5), (5, (0, 0, 0, 4, []), 6), (6, (11, 13, 5, 0, []), 9), (9, (0, 0, 0, -1, []), 10), (10, (13, 18, 0, 0, []), 13), (13, (2, 0, 0, 0, []), 14), (14, (1, 1, 0, 0, []), 15), (15, (40, 92, 2, 186, [1, 6]), 18), (18, (51, 0, 0, 0, []), 19)]
def ztab_107 : List (Nat × ZI × Nat) := [(0, (2, 0, 0, 0, []), 1), (1, (20, 6, 20, 177, [0]), 4), (4, (2, 0, 0, 0, []), 5), (5, (20, 6, 21, 180, [0]), 8), (8, (6, 0, 1, 0, []), 9), (9, (51, 0, 0, 0, []), 10)]
def ztab_108 : List (Nat × ZI × Nat) := [(0, (2, 0, 0, 0, []), 1), (1, (20, 6, 33, 136, [0]), 4), (4, (51, 0, 0, 0, []), 5)]
def ztab_109 : List (Nat × ZI × Nat) := [(0, (31, 0, 0, 7, []), 3), (3, (7, 0, 0, 0, []), 4), (4, (40, 0, 1, 9, [2, 0]), 7), (7, (4, 1, 0, 0, []), 8), (8, (31, 6, 0, 10, []), 11), (11, (7, 0, 0, 0, []), 12), (12, (40, 65, 1, 12, [2, 6]), 15), (15, (4, 2, 0, 0, []), 16), (16, (0, 0, 0, 0, []), 17), (17, (3, 3, 0, 0, []), 18), (18, (1, 3, 0, 0, []), 19), (19, (2, 0, 0, 0, []), 20), (20, (30, 0, 0, 0, []), 21), (21, (0, 0, 0, 5, []), 22), (22, (6, 0, 1, 0, []), 23), (23, (11, 740, 4, 0, []), 26), (26, (2, 0, 0, 0, []), 27), (27, (1, 3, 0, 0, []), 28), (28, (24, 0, 0, 0, []), 29), (29, (0, 0, 1, 31, []), 31), (31, (6, 0, 4, 0, []), 32), (32, (16, 734, 0, 0, [128, 151, 184, 227, 296, 339, 382, 415, 438, 471, 504, 527, 550, 583, 606, 629, 662, 685, 708, 721]), 128), (128, (2, 1, 0, 0, []), 129), (129, (2, 0, 0, 0, []), 130), (130, (1, 3, 0, 0, []), 131), (131, (0, 0, 0, 1, []), 132), (132, (6, 0, 0, 0, []), 133), (133, (24, 0, 0, 0, []), 134), (134, (40, 1, 2, 13, [1, 0]), 137), (137, (2, 2, 0, 0, []), 138), (138, (2, 0, 0, 0, []), 139), (139, (1, 3, 0, 0, []), 140), (140, (0, 0, 0, 1, []), 141), (141, (6, 0, 0, 0, []), 142), (142, (24, 0, 0, 0, []), 143), (143, (40, 68, 2, 17, [1, 6]), 146), (146, (11, 734, 0, 0, []), 149), (149, (0, 0, 0, 0, []), 150), (150, (51, 0, 1, 0, []), 151), (151, (2, 1, 0, 0, []), 152), (152, (2, 0, 0, 0, []), 153), (153, (1, 3, 0, 0, []), 154), (154, (0, 0, 0, 1, []), 155), (155, (6, 0, 0, 0, []), 156), (156, (24, 0, 0, 0, []), 157), (157, (2, 0, 0, 0, []), 158), (158, (1, 3, 0, 0, []), 159), (159, (0, 0, 0, 2, []), 160), (160, (6, 0, 0, 0, []), 161), (161, (24, 0, 0, 0, []), 162), (162, (40, 2, 3, 18, [1, 0]), 165), (165, (2, 2, 0, 0, []), 166), (166, (2, 0, 0, 0, []), 167), (167, (1, 3, 0, 0, []), 168), (168, (0, 0, 0, 1, []), 169), (169, (6, 0, 0, 0, []), 170), (170, (24, 0, 0, 0, []), 171), (171, (2, 0, 0, 0, []), 172), (172, (1, 3, 0, 0, []), 173), (173, (0, 0, 0, 2, []), 174), (174, (6, 0, 0, 0, []), 175), (175, (24, 0, 0, 0, []), 176), (176, (40, 73, 3, 22, [1, 6]), 179), (179, (11, 734, 0, 0, []), 182), (182, (0, 0, 0, 0, []), 183), (183, (51, 0, 1, 0, []), 184), (184, (2, 1, 0, 0, []), 185), (185, (2, 0, 0, 0, []), 186), (186, (1, 3, 0, 0, []), 187), (187, (0, 0, 0, 1, []), 188), (188, (6, 0, 0, 0, []), 189), (189, (24, 0, 0, 0, []), 190), (190, (2, 0, 0, 0, []), 191), (191, (1, 3, 0, 0, []), 192), (192, (0, 0, 0, 2, []), 193), (193, (6, 0, 0, 0, []), 194), (194, (24, 0, 0, 0, []), 195), (195, (2, 0, 0, 0, []), 196), (196, (1, 3, 0, 0, []), 197), (197, (0, 0, 0, 3, []), 198), (198, (6, 0, 0, 0, []), 199), (199, (24, 0, 0, 0, []), 200), (200, (40, 3, 4, 23, [1, 0]), 203), (203, (2, 2, 0, 0, []), 204), (204, (2, 0, 0, 0, []), 205), (205, (1, 3, 0, 0, []), 206), (206, (0, 0, 0, 1, []), 207), (207, (6, 0, 0, 0, []), 208), (208, (24, 0, 0, 0, []), 209), (209, (2, 0, 0, 0, []), 210), (210, (1, 3, 0, 0, []), 211), (211, (0, 0, 0, 2, []), 212), (212, (6, 0, 0, 0, []), 213), (213, (24, 0, 0, 0, []), 214), (214, (2, 0, 0, 0, []), 215), (215, (1, 3, 0, 0, []), 216), (216, (0, 0, 0, 3, []), 217), (217, (6, 0, 0, 0, []), 218), (218, (24, 0, 0, 0, []), 219), (219, (40, 74, 4, 27, [1, 6]), 222), (222, (11, 734, 0, 0, []), 225), (225, (0, 0, 0, 0, []), 226), (226, (51, 0, 1, 0, []), 227), (227, (2, 1, 0, 0, []), 228), (228, (2, 0, 0, 0, []), 229), (229, (1, 3, 0, 0, []), 230), (230, (0, 0, 0, 1, []), 231), (231, (6, 0, 0, 0, []), 232), (232, (24, 0, 0, 0, []), 233), (233, (2, 0, 0, 0, []), 234), (234, (1, 3, 0, 0, []), 235), (235, (0, 0, 0, 2, []), 236), (236, (6, 0, 0, 0, []), 237), (237, (24, 0, 0, 0, []), 238), (238, (2, 0, 0, 0, []), 239), (239, (1, 3, 0, 0, []), 240), (240, (0, 0, 0, 3, []), 241), (241, (6, 0, 0, 0, []), 242), (242, (24, 0, 0, 0, []), 243), (243, (2, 0, 0, 0, []), 244), (244, (1, 3, 0, 0, []), 245), (245, (0, 0, 0, 4, []), 246), (246, (6, 0, 0, 0, []), 247), (247, (24, 0, 0, 0, []), 248), (248, (12, 255, 0, 0, []), 251), (251, (0, 0, 0, 1, []), 252), (252, (13, 256, 0, 0, []), 255), (255, (0, 0, 0, 0, []), 256), (256, (40, 4, 5, 28, [1, 0]), 259), (259, (2, 2, 0, 0, []), 260), (260, (2, 0, 0, 0, []), 261), (261, (1, 3, 0, 0, []), 262), (262, (0, 0, 0, 1, []), 263), (263, (6, 0, 0, 0, []), 264), (264, (24, 0, 0, 0, []), 265), (265, (2, 0, 0, 0, []), 266), (266, (1, 3, 0, 0, []), 267), (267, (0, 0, 0, 2, []), 268), (268, (6, 0, 0, 0, []), 269), (269, (24, 0, 0, 0, []), 270), (270, (2, 0, 0, 0, []), 271), (271, (1, 3, 0, 0, []), 272), (272, (0, 0, 0, 3, []), 273), (273, (6, 0, 0, 0, []), 274), (274, (24, 0, 0, 0, []), 275), (275, (2, 0, 0, 0, []), 276), (276, (1, 3, 0, 0, []), 277), (277, (0, 0, 0, 4, []), 278), (278, (6, 0, 0, 0, []), 279), (279, (24, 0, 0, 0, []), 280), (280, (12, 287, 0, 0, []), 283), (283, (0, 0, 0, 1, []), 284), (284, (13, 288, 0, 0, []), 287), (287, (0, 0, 0, 0, []), 288), (288, (40, 75, 5, 32, [1, 6]), 291), (291, (11, 734, 0, 0, []), 294), (294, (0, 0, 0, 0, []), 295), (295, (51, 0, 1, 0, []), 296), (296, (2, 1, 0, 0, []), 297), (297, (2, 0, 0, 0, []), 298), (298, (1, 3, 0, 0, []), 299), (299, (0, 0, 0, 1, []), 300), (300, (6, 0, 0, 0, []), 301), (301, (24, 0, 0, 0, []), 302), (302, (2, 0, 0, 0, []), 303), (303, (1, 3, 0, 0, []), 304), (304, (0, 0, 0, 2, []), 305), (305, (6, 0, 0, 0, []), 306), (306, (24, 0, 0, 0, []), 307), (307, (2, 0, 0, 0, []), 308), (308, (1, 3, 0, 0, []), 309), (309, (0, 0, 0, 3, []), 310), (310, (6, 0, 0, 0, []), 311), (311, (24, 0, 0, 0, []), 312), (312, (40, 5, 4, 33, [1, 0]), 315), (315, (2, 2, 0, 0, []), 316), (316, (2, 0, 0, 0, []), 317), (317, (1, 3, 0, 0, []), 318), (318, (0, 0, 0, 1, []), 319), (319, (6, 0, 0, 0, []), 320), (320, (24, 0, 0, 0, []), 321), (321, (2, 0, 0, 0, []), 322), (322, (1, 3, 0, 0, []), 323), (323, (0, 0, 0, 2, []), 324), (324, (6, 0, 0, 0, []), 325), (325, (24, 0, 0, 0, []), 326), (326, (2, 0, 0, 0, []), 327), (327, (1, 3, 0, 0, []), 328), (328, (0, 0, 0, 3, []), 329), (329, (6, 0, 0, 0, []), 330), (330, (24, 0, 0, 0, []), 331), (331, (40, 76, 4, 36, [1, 6]), 334), (334, (11, 734, 0, 0, []), 337), (337, (0, 0, 0, 0, []), 338), (338, (51, 0, 1, 0, []), 339), (339, (2, 1, 0, 0, []), 340), (340, (2, 0, 0, 0, []), 341), (341, (1, 3, 0, 0, []), 342), (342, (0, 0, 0, 1, []), 343), (343, (6, 0, 0, 0, []), 344), (344, (24, 0, 0, 0, []), 345), (345, (2, 0, 0, 0, []), 346), (346, (1, 3, 0, 0, []), 347), (347, (0, 0, 0, 2, []), 348), (348, (6, 0, 0, 0, []), 349), (349, (24, 0, 0, 0, []), 350), (350, (2, 0, 0, 0, []), 351), (351, (1, 3, 0, 0, []), 352), (352, (0, 0, 0, 3, []), 353), (353, (6, 0, 0, 0, []), 354), (354, (24, 0, 0, 0, []), 355), (355, (40, 6, 4, 37, [1, 0]), 358), (358, (2, 2, 0, 0, []), 359), (359, (2, 0, 0, 0, []), 360), (360, (1, 3, 0, 0, []), 361), (361, (0, 0, 0, 1, []), 362), (362, (6, 0, 0, 0, []), 363), (363, (24, 0, 0, 0, []), 364), (364, (2, 0, 0, 0, []), 365), (365, (1, 3, 0, 0, []), 366), (366, (0, 0, 0, 2, []), 367), (367, (6, 0, 0, 0, []), 368), (368, (24, 0, 0, 0, []), 369), (369, (2, 0, 0, 0, []), 370), (370, (1, 3, 0, 0, []), 371), (371, (0, 0, 0, 3, []), 372), (372, (6, 0, 0, 0, []), 373), (373, (24, 0, 0, 0, []), 374), (374, (40, 77, 4, 40, [1, 6]), 377), (377, (11, 734, 0, 0, []), 380), (380, (0, 0, 0, 0, []), 381), (381, (51, 0, 1, 0, []), 382), (382, (2, 1, 0, 0, []), 383), (383, (2, 0, 0, 0, []), 384), (384, (1, 3, 0, 0, []), 385), (385, (0, 0, 0, 1, []), 386), (386, (6, 0, 0, 0, []), 387), (387, (24, 0, 0, 0, []), 388), (388, (2, 0, 0, 0, []), 389), (389, (1, 3, 0, 0, []), 390), (390, (0, 0, 0, 2, []), 391), (391, (6, 0, 0, 0, []), 392), (392, (24, 0, 0, 0, []), 393), (393, (40, 7, 3, 41, [1, 0]), 396), (396, (2, 2, 0, 0, []), 397), (397, (2, 0, 0, 0, []), 398), (398, (1, 3, 0, 0, []), 399), (399, (0, 0, 0, 1, []), 400), (400, (6, 0, 0, 0, []), 401), (401, (24, 0, 0, 0, []), 402), (402, (2, 0, 0, 0, []), 403), (403, (1, 3, 0, 0, []), 404), (404, (0, 0, 0, 2, []), 405), (405, (6, 0, 0, 0, []), 406), (406, (24, 0, 0, 0, []), 407), (407, (40, 78, 3, 44, [1, 6]), 410), (410, (11, 734, 0, 0, []), 413), (413, (0, 0, 0, 0, []), 414), (414, (51, 0, 1, 0, []), 415), (415, (2, 1, 0, 0, []), 416), (416, (2, 0, 0, 0, []), 417), (417, (1, 3, 0, 0, []), 418), (418, (0, 0, 0, 1, []), 419), (419, (6, 0, 0, 0, []), 420), (420, (24, 0, 0, 0, []), 421), (421, (40, 8, 2, 45, [1, 0]), 424), (424, (2, 2, 0, 0, []), 425), (425, (2, 0, 0, 0, []), 426), (426, (1, 3, 0, 0, []), 427), (427, (0, 0, 0, 1, []), 428), (428, (6, 0, 0, 0, []), 429), (429, (24, 0, 0, 0, []), 430), (430, (40, 85, 2, 48, [1, 6]), 433), (433, (11, 734, 0, 0, []), 436), (436, (0, 0, 0, 0, []), 437), (437, (51, 0, 1, 0, []), 438), (438, (2, 1, 0, 0, []), 439), (439, (2, 0, 0, 0, []), 440), (440, (1, 3, 0, 0, []), 441), (441, (0, 0, 0, 1, []), 442), (442, (6, 0, 0, 0, []), 443), (443, (24, 0, 0, 0, []), 444), (444, (2, 0, 0, 0, []), 445), (445, (1, 3, 0, 0, []), 446), (446, (0, 0, 0, 2, []), 447), (447, (6, 0, 0, 0, []), 448), (448, (24, 0, 0, 0, []), 449), (449, (40, 9, 3, 49, [1, 0]), 452), (452, (2, 2, 0, 0, []), 453), (453, (2, 0, 0, 0, []), 454), (454, (1, 3, 0, 0, []), 455), (455, (0, 0, 0, 1, []), 456), (456, (6, 0, 0, 0, []), 457), (457, (24, 0, 0, 0, []), 458), (458, (2, 0, 0, 0, []), 459), (459, (1, 3, 0, 0, []), 460), (460, (0, 0, 0, 2, []), 461), (461, (6, 0, 0, 0, []), 462), (462, (24, 0, 0, 0, []), 463), (463, (40, 86, 3, 52, [1, 6]), 466), (466, (11, 734, 0, 0, []), 469), (469, (0, 0, 0, 0, []), 470), (470, (51, 0, 1, 0, []), 471), (471, (2, 1, 0, 0, []), 472), (472, (2, 0, 0, 0, []), 473), (473, (1, 3, 0, 0, []), 474), (474, (0, 0, 0, 1, []), 475), (475, (6, 0, 0, 0, []), 476), (476, (24, 0, 0, 0, []), 477), (477, (2, 0, 0, 0, []), 478), (478, (1, 3, 0, 0, []), 479), (479, (0, 0, 0, 2, []), 480), (480, (6, 0, 0, 0, []), 481), (481, (24, 0, 0, 0, []), 482), (482, (40, 10, 3, 53, [1, 0]), 485), (485, (2, 2, 0, 0, []), 486), (486, (2, 0, 0, 0, []), 487), (487, (1, 3, 0, 0, []), 488), (488, (0, 0, 0, 1, []), 489), (489, (6, 0, 0, 0, []), 490), (490, (24, 0, 0, 0, []), 491), (491, (2, 0, 0, 0, []), 492), (492, (1, 3, 0, 0, []), 493), (493, (0, 0, 0, 2, []), 494), (494, (6, 0, 0, 0, []), 495), (495, (24, 0, 0, 0, []), 496), (496, (40, 98, 3, 56, [1, 6]), 499), (499, (11, 734, 0, 0, []), 502), (502, (0, 0, 0, 0, []), 503), (503, (51, 0, 1, 0, []), 504), (504, (2, 1, 0, 0, []), 505), (505, (2, 0, 0, 0, []), 506), (506, (1, 3, 0, 0, []), 507), (507, (0, 0, 0, 1, []), 508), (508, (6, 0, 0, 0, []), 509), (509, (24, 0, 0, 0, []), 510), (510, (40, 11, 2, 57, [1, 0]), 513), (513, (2, 2, 0, 0, []), 514), (514, (2, 0, 0, 0, []), 515), (515, (1, 3, 0, 0, []), 516), (516, (0, 0, 0, 1, []), 517), (517, (6, 0, 0, 0, []), 518), (518, (24, 0, 0, 0, []), 519), (519, (40, 99, 2, 60, [1, 6]), 522), (522, (11, 734, 0, 0, []), 525), (525, (0, 0, 0, 0, []), 526), (526, (51, 0, 1, 0, []), 527), (527, (2, 1, 0, 0, []), 528), (528, (2, 0, 0, 0, []), 529), (529, (1, 3, 0, 0, []), 530), (530, (0, 0, 0, 1, []), 531), (531, (6, 0, 0, 0, []), 532), (532, (24, 0, 0, 0, []), 533), (533, (40, 12, 2, 61, [1, 0]), 536), (536, (2, 2, 0, 0, []), 537), (537, (2, 0, 0, 0, []), 538), (538, (1, 3, 0, 0, []), 539), (539, (0, 0, 0, 1, []), 540), (540, (6, 0, 0, 0, []), 541), (541, (24, 0, 0, 0, []), 542), (542, (40, 100, 2, 64, [1, 6]), 545), (545, (11, 734, 0, 0, []), 548), (548, (0, 0, 0, 0, []), 549), (549, (51, 0, 1, 0, []), 550), (550, (2, 1, 0, 0, []), 551), (551, (2, 0, 0, 0, []), 552), (552, (1, 3, 0, 0, []), 553), (553, (0, 0, 0, 1, []), 554), (554, (6, 0, 0, 0, []), 555), (555, (24, 0, 0, 0, []), 556), (556, (2, 0, 0, 0, []), 557), (557, (1, 3, 0, 0, []), 558), (558, (0, 0, 0, 2, []), 559), (559, (6, 0, 0, 0, []), 560), (560, (24, 0, 0, 0, []), 561), (561, (40, 13, 3, 65, [1, 0]), 564), (564, (2, 2, 0, 0, []), 565), (565, (2, 0, 0, 0, []), 566), (566, (1, 3, 0, 0, []), 567), (567, (0, 0, 0, 1, []), 568), (568, (6, 0, 0, 0, []), 569), (569, (24, 0, 0, 0, []), 570), (570, (2, 0, 0, 0, []), 571), (571, (1, 3, 0, 0, []), 572), (572, (0, 0, 0, 2, []), 573), (573, (6, 0, 0, 0, []), 574), (574, (24, 0, 0, 0, []), 575), (575, (40, 101, 3, 68, [1, 6]), 578), (578, (11, 734, 0, 0, []), 581), (581, (0, 0, 0, 0, []), 582), (582, (51, 0, 1, 0, []), 583), (583, (2, 1, 0, 0, []), 584), (584, (2, 0, 0, 0, []), 585), (585, (1, 3, 0, 0, []), 586), (586, (0, 0, 0, 1, []), 587), (587, (6, 0, 0, 0, []), 588), (588, (24, 0, 0, 0, []), 589), (589, (40, 14, 2, 69, [1, 0]), 592), (592, (2, 2, 0, 0, []), 593), (593, (2, 0, 0, 0, []), 594), (594, (1, 3, 0, 0, []), 595), (595, (0, 0, 0, 1, []), 596), (596, (6, 0, 0, 0, []), 597), (597, (24, 0, 0, 0, []), 598), (598, (40, 102, 2, 72, [1, 6]), 601), (601, (11, 734, 0, 0, []), 604), (604, (0, 0, 0, 0, []), 605), (605, (51, 0, 1, 0, []), 606), (606, (2, 1, 0, 0, []), 607), (607, (2, 0, 0, 0, []), 608), (608, (1, 3, 0, 0, []), 609), (609, (0, 0, 0, 1, []), 610), (610, (6, 0, 0, 0, []), 611), (611, (24, 0, 0, 0, []), 612), (612, (40, 15, 2, 73, [1, 0]), 615), (615, (2, 2, 0, 0, []), 616), (616, (2, 0, 0, 0, []), 617), (617, (1, 3, 0, 0, []), 618), (618, (0, 0, 0, 1, []), 619), (619, (6, 0, 0, 0, []), 620), (620, (24, 0, 0, 0, []), 621), (621, (40, 103, 2, 76, [1, 6]), 624), (624, (11, 734, 0, 0, []), 627), (627, (0, 0, 0, 0, []), 628), (628, (51, 0, 1, 0, []), 629), (629, (2, 1, 0, 0, []), 630), (630, (2, 0, 0, 0, []), 631), (631, (1, 3, 0, 0, []), 632), (632, (0, 0, 0, 1, []), 633), (633, (6, 0, 0, 0, []), 634), (634, (24, 0, 0, 0, []), 635), (635, (2, 0, 0, 0, []), 636), (636, (1, 3, 0, 0, []), 637), (637, (0, 0, 0, 2, []), 638), (638, (6, 0, 0, 0, []), 639), (639, (24, 0, 0, 0, []), 640), (640, (40, 16, 3, 77, [1, 0]), 643), (643, (2, 2, 0, 0, []), 644), (644, (2, 0, 0, 0, []), 645), (645, (1, 3, 0, 0, []), 646), (646, (0, 0, 0, 1, []), 647), (647, (6, 0, 0, 0, []), 648), (648, (24, 0, 0, 0, []), 649), (649, (2, 0, 0, 0, []), 650), (650, (1, 3, 0, 0, []), 651), (651, (0, 0, 0, 2, []), 652), (652, (6, 0, 0, 0, []), 653), (653, (24, 0, 0, 0, []), 654), (654, (40, 104, 3, 80, [1, 6]), 657), (657, (11, 734, 0, 0, []), 660), (660, (0, 0, 0, 0, []), 661), (661, (51, 0, 1, 0, []), 662), (662, (2, 1, 0, 0, []), 663), (663, (2, 0, 0, 0, []), 664), (664, (1, 3, 0, 0, []), 665), (665, (0, 0, 0, 1, []), 666), (666, (6, 0, 0, 0, []), 667), (667, (24, 0, 0, 0, []), 668), (668, (40, 17, 2, 81, [1, 0]), 671), (671, (2, 2, 0, 0, []), 672), (672, (2, 0, 0, 0, []), 673), (673, (1, 3, 0, 0, []), 674), (674, (0, 0, 0, 1, []), 675), (675, (6, 0, 0, 0, []), 676), (676, (24, 0, 0, 0, []), 677), (677, (40, 105, 2, 84, [1, 6]), 680), (680, (11, 734, 0, 0, []), 683), (683, (0, 0, 0, 0, []), 684), (684, (51, 0, 1, 0, []), 685), (685, (2, 1, 0, 0, []), 686), (686, (2, 0, 0, 0, []), 687), (687, (1, 3, 0, 0, []), 688), (688, (0, 0, 0, 1, []), 689), (689, (6, 0, 0, 0, []), 690), (690, (24, 0, 0, 0, []), 691), (691, (40, 18, 2, 85, [1, 0]), 694), (694, (2, 2, 0, 0, []), 695), (695, (2, 0, 0, 0, []), 696), (696, (1, 3, 0, 0, []), 697), (697, (0, 0, 0, 1, []), 698), (698, (6, 0, 0, 0, []), 699), (699, (24, 0, 0, 0, []), 700), (700, (40, 106, 2, 88, [1, 6]), 703), (703, (11, 734, 0, 0, []), 706), (706, (0, 0, 0, 0, []), 707), (707, (51, 0, 1, 0, []), 708), (708, (2, 1, 0, 0, []), 709), (709, (40, 19, 1, 89, [1, 0]), 712), (712, (2, 2, 0, 0, []), 713), (713, (40, 107, 1, 93, [1, 6]), 716), (716, (11, 734, 0, 0, []), 719), (719, (0, 0, 0, 0, []), 720), (720, (51, 0, 1, 0, []), 721), (721, (2, 1, 0, 0, []), 722), (722, (40, 20, 1, 94, [1, 0]), 725), (725, (2, 2, 0, 0, []), 726), (726, (40, 108, 1, 97, [1, 6]), 729), (729, (11, 734, 0, 0, []), 732), (732, (0, 0, 0, 0, []), 733), (733, (51, 0, 1, 0, []), 734), (734, (5, 3, 0, 5, []), 737), (737, (13, 18, 0, 0, []), 740), (740, (0, 0, 0, 1, []), 741), (741, (51, 0, 1, 0, []), 742)]
def ztabs : List (List (Nat × ZI × Nat)) := [ztab_0, ztab_1, ztab_2, ztab_3, ztab_4, ztab_5, ztab_6, ztab_7, ztab_8, ztab_9, ztab_10, ztab_11, ztab_12, ztab_13, ztab_14, ztab_15, ztab_16, ztab_17, ztab_18, ztab_19, ztab_20, ztab_21, ztab_22, ztab_23, ztab_24, ztab_25, ztab_26, ztab_27, ztab_28, ztab_29, ztab_30, ztab_31, ztab_32, ztab_33, ztab_34, ztab_35, ztab_36, ztab_37, ztab_38, ztab_39, ztab_40, ztab_41, ztab_42, ztab_43, ztab_44, ztab_45, ztab_46, ztab_47, ztab_48, ztab_49, ztab_50, ztab_51, ztab_52, ztab_53, ztab_54, ztab_55, ztab_56, ztab_57, ztab_58, ztab_59, ztab_60, ztab_61, ztab_62, ztab_63, ztab_64, ztab_65, ztab_66, ztab_67, ztab_68, ztab_69, ztab_70, ztab_71, ztab_72, ztab_73, ztab_74, ztab_75, ztab_76, ztab_77, ztab_78, ztab_79, ztab_80, ztab_81, ztab_82, ztab_83, ztab_84, ztab_85, ztab_86, ztab_87, ztab_88, ztab_89, ztab_90, ztab_91, ztab_92, ztab_93, ztab_94, ztab_95, ztab_96, ztab_97, ztab_98, ztab_99, ztab_100, ztab_101, ztab_102, ztab_103, ztab_104, ztab_105, ztab_106, ztab_107, ztab_108, ztab_109]
def ztab (M : Nat) : List (Nat × ZI × Nat) := ztabs.getD M []
def zcd (M pc : Nat) : Option (ZI × Nat) := ((ztab M).find? (fun e => e.1 == pc)).map (fun e => e.2)
end
section
/-! The small machine's heap in the machine's heap. -/
def zAd (sb c0 a : Nat) : Nat := if a = 0 then sb else c0 + a
def zTv (sb c0 : Nat) : ZV → Value
  | .inl x => .int x
  | .inr r => va_rf (r.map (zAd sb c0))
theorem zTv_cat (sb c0 : Nat) (v : ZV) : (zTv sb c0 v).category = 1 := by
  cases v with
  | inl x => rfl
  | inr r => cases r <;> rfl
theorem zTv_sum (sb c0 : Nat) (l : List ZV) : ((l.map (zTv sb c0)).map fun v => v.category).sum = l.length := by
  induction l with
  | nil => rfl
  | cons v l ih => simp only [List.map_cons, List.sum_cons, List.length_cons, zTv_cat, ih]; omega
def zFs (sb c0 : Nat) (h : ZH) (a ci : Nat) : List Value := (List.range (zfn ci)).map (fun k => if zrf ci k = true then va_rf ((h.2.2.1 a k).map (zAd sb c0)) else .int (h.2.1 a k))
def zCel (sb c0 : Nat) (cA : Nat → ClassId) (h : ZH) (a : Nat) : va_E := match h.1 a with
  | some (.inl ci) => .inr (ci, zFs sb c0 h a ci)
  | some (.inr (t, n)) => if t < 2 then .inl (cA t, n, .inl (h.2.1 a)) else .inl (cA t, n, .inr (.inr (.inr (.inr (fun j => (h.2.2.1 a j).map (zAd sb c0))))))
  | none => .inr (0, [])
def zTys (cA : Nat → ClassId) : List (ClassId × FieldType) := (List.range zty.length).map (fun t => (cA t, zty.getD t .int))
def zEnv (D : va_G) (cA : Nat → ClassId) (U : State) : Prop := va_K D zcl (zTys cA) U ∧ (∀ q ∈ zNW, va_Nw (.fieldLinkNest q.1 q.2.1 q.2.2.1 q.2.2.2.1 q.2.2.2.2.1 q.2.2.2.2.2) U) ∧ ∀ C ∈ zAO, va_AO C U
def zRel (sb c0 Ls : Nat) (xs : Nat → Int32) (D : va_G) (cA : Nat → ClassId) (U : State) (h : ZH) (H : Heap) : Prop :=
  (∀ a, 1 ≤ a → a < h.2.2.2.1 → va_at D zcl (c0 + a, zCel sb c0 cA h a) H) ∧ H.size = c0 + h.2.2.2.1 ∧ 1 ≤ h.2.2.2.1 ∧ (∀ a, h.2.2.2.1 ≤ a → h.1 a = none) ∧ h.1 0 = some (.inr (9, Ls)) ∧ h.2.1 0 = xs ∧ va_X sb Ls xs U H
def zLs (sb c0 : Nat) (ls : Array Slot) (nL : Nat) (L : ZL) : Prop := lv_has ls nL (L.map (fun q => (q.1, zTv sb c0 q.2))) ∧ (L.map (fun q => q.1)).Nodup
theorem zLs_get {sb c0 nL i : Nat} {ls : Array Slot} {L : ZL} {v : ZV} (h : zLs sb c0 ls nL L) (e : zget L i = some v) : ls[i]? = some (.val (zTv sb c0 v)) := by
  unfold zget at e
  cases hf : L.find? (fun q => q.1 == i) with
  | none => rw [hf] at e; cases e
  | some q =>
    rw [hf] at e
    cases e
    have h1 : q ∈ L := List.mem_of_find?_eq_some hf
    have h3 : q.1 = i := by simpa using List.find?_some hf
    have h4 := h.1.2.2 (q.1, zTv sb c0 q.2) (List.mem_map.mpr ⟨q, h1, rfl⟩)
    rw [← h3]
    exact h4
theorem zset_mem {i : Nat} {v : ZV} : ∀ {L : ZL}, (L.map (fun q => q.1)).Nodup → ∀ q ∈ zset L i v, q = (i, v) ∨ (q ∈ L ∧ q.1 ≠ i) := by
  intro L
  induction L with
  | nil => intro _ q hq; exact Or.inl (List.mem_singleton.mp hq)
  | cons w L ih =>
    obtain ⟨j, u⟩ := w
    intro hn q hq
    rw [List.map_cons, List.nodup_cons] at hn
    unfold zset at hq
    split at hq
    · rename_i hj
      rcases List.mem_cons.mp hq with rfl | h1
      · exact Or.inl rfl
      · refine Or.inr ⟨List.mem_cons_of_mem _ h1, fun h2 => hn.1 ?_⟩
        show j ∈ _
        rw [hj, ← h2]
        exact List.mem_map.mpr ⟨q, h1, rfl⟩
    · rename_i hj
      rcases List.mem_cons.mp hq with rfl | h1
      · exact Or.inr ⟨List.mem_cons_self, hj⟩
      · rcases ih hn.2 q h1 with h2 | h2
        · exact Or.inl h2
        · exact Or.inr ⟨List.mem_cons_of_mem _ h2.1, h2.2⟩
theorem zset_nd {i : Nat} {v : ZV} : ∀ {L : ZL}, (L.map (fun q => q.1)).Nodup → ((zset L i v).map (fun q => q.1)).Nodup := by
  intro L
  induction L with
  | nil => intro _; simp [zset]
  | cons w L ih =>
    obtain ⟨j, u⟩ := w
    intro hn
    have hn0 := hn
    rw [List.map_cons, List.nodup_cons] at hn
    unfold zset
    split
    · rename_i hj
      rw [List.map_cons, ← hj]
      exact hn0
    · rename_i hj
      rw [List.map_cons, List.nodup_cons]
      refine ⟨fun hm => ?_, ih hn.2⟩
      obtain ⟨q, h1, h2⟩ := List.mem_map.mp hm
      rcases zset_mem hn.2 q h1 with h3 | h3
      · rw [h3] at h2; exact hj h2.symm
      · exact hn.1 (List.mem_map.mpr ⟨q, h3.1, h2⟩)
theorem zLs_set {sb c0 nL i : Nat} {ls : Array Slot} {L : ZL} {v : ZV} (hn : (L.map (fun q => q.1)).Nodup) (h : lv_has ls nL ((i, zTv sb c0 v) :: (L.map (fun q => (q.1, zTv sb c0 q.2))).filter (fun q => !(q.1 == i) && !(q.1 + 1 == i && q.2.category == 2)))) : zLs sb c0 ls nL (zset L i v) := by
  refine ⟨⟨h.1, h.2.1, fun q hq => ?_⟩, zset_nd hn⟩
  obtain ⟨q0, h0, rfl⟩ := List.mem_map.mp hq
  rcases zset_mem hn q0 h0 with rfl | ⟨h2, h3⟩
  · exact h.2.2 _ List.mem_cons_self
  · refine h.2.2 _ (List.mem_cons_of_mem _ (List.mem_filter.mpr ⟨List.mem_map.mpr ⟨q0, h2, rfl⟩, ?_⟩))
    have h4 := zTv_cat sb c0 q0.2
    simp [h4, h3]
theorem zen_mem : ∀ (vs : List ZV) (k : Nat), ∀ q ∈ zen k vs, k ≤ q.1 := by
  intro vs
  induction vs with
  | nil => intro k q hq; cases hq
  | cons v vs ih =>
    intro k q hq
    rcases List.mem_cons.mp hq with rfl | h1
    · exact Nat.le_refl _
    · have := ih (k + 1) q h1; omega
theorem zen_nd : ∀ (vs : List ZV) (k : Nat), ((zen k vs).map (fun q => q.1)).Nodup := by
  intro vs
  induction vs with
  | nil => intro k; simp [zen]
  | cons v vs ih =>
    intro k
    show ((k, v) :: zen (k + 1) vs |>.map (fun q => q.1)).Nodup
    rw [List.map_cons, List.nodup_cons]
    refine ⟨fun hm => ?_, ih (k + 1)⟩
    obtain ⟨q, h1, h2⟩ := List.mem_map.mp hm
    have h3 := zen_mem vs (k + 1) q h1
    have h4 : q.1 = k := h2
    omega
theorem zen_args (sb c0 : Nat) : ∀ (vs : List ZV) (k : Nat), lv_args k (vs.map (zTv sb c0)) = (zen k vs).map (fun q => (q.1, zTv sb c0 q.2)) := by
  intro vs
  induction vs with
  | nil => intro k; rfl
  | cons v vs ih =>
    intro k
    show (k, zTv sb c0 v) :: lv_args (if (zTv sb c0 v).category = 2 then k + 2 else k + 1) (vs.map (zTv sb c0)) = (k, zTv sb c0 v) :: (zen (k + 1) vs).map _
    rw [zTv_cat, if_neg (by decide), ih]
theorem zsl_len (sb c0 : Nat) (vs : List ZV) : (lg_sl (vs.map (zTv sb c0))).length = vs.length := by
  induction vs with
  | nil => rfl
  | cons v vs ih =>
    have h1 : lg_sl ((v :: vs).map (zTv sb c0)) = lg_sl [zTv sb c0 v] ++ lg_sl (vs.map (zTv sb c0)) := by simp [lg_sl]
    rw [h1, List.length_append, ih]
    have h2 : (lg_sl [zTv sb c0 v]).length = 1 := by
      cases v with
      | inl x => rfl
      | inr r => cases r <;> rfl
    rw [h2, List.length_cons]
    omega
/-! Each instruction of the small machine is made by the machine. -/
def zGo (p : Program) (l : Launch) (e : Env) (R : Room) (s : State) (m : MethodId) (args : Array Value) (below : List Frame) (meth : Method) (c : Code) (Q : State → Prop) (sb c0 Ls n0 s0 : Nat) (xs : Nat → Int32) (D : va_G) (cA : Nat → ClassId) (M pc : Nat) (L : ZL) (st : List ZV) (h : ZH) : Prop :=
  ∀ (H : Heap) (locs : List Loc) (cells slots : Nat) (ls : Array Slot), zRel sb c0 Ls xs D cA s h H → zLs sb c0 ls (zmx M) L → (∀ q ∈ locs, c0 < q.base) → h.2.2.2.1 = n0 + cells → h.2.2.2.2 = s0 + slots → W p l e R s m args below meth c H locs cells slots Q (F0 m pc ls (st.map (zTv sb c0)))
def zFix (p : Program) (s : State) (m : MethodId) (args : Array Value) (meth : Method) (c : Code) (M : Nat) : Prop :=
  p.tables.exec = Jvm.exec ∧ c.code = zbc M ∧ c.maxLocals = zmx M ∧ s.vm.findClass (zow M) = some m.cls ∧ (∀ w ∈ zWS, w.before args s = true) ∧ (zct M = true → meth.name = "<init>")
def zk_const (M pc nx b : Nat) (n : Int) : Prop := if b = 0 then decode (zbc M) pc = .ok (.iconst n, 1) ∧ nx = pc + 1 else if b = 1 then decode (zbc M) pc = .ok (.bipush n, 2) ∧ nx = pc + 2 ∧ (Int8.ofInt n).toInt32 = Int32.ofInt n else decode (zbc M) pc = .ok (.sipush n, 3) ∧ nx = pc + 3 ∧ (Int16.ofInt n).toInt32 = Int32.ofInt n
def zarI (b : Nat) : Instr := if b = 0 then .iadd else if b = 1 then .isub else if b = 2 then .imul else if b = 3 then .idiv else if b = 4 then .iand else if b = 5 then .ishr else .iushr
def zcpC (b : Nat) : ClassFile.Cond := if b = 0 then .eq else if b = 1 then .ne else if b = 2 then .lt else if b = 3 then .ge else if b = 4 then .gt else .le
section ZS
variable {p : Program} {l : Launch} {e : Env} {R : Room} {s : State} {m : MethodId} {args : Array Value} {below : List Frame} {meth : Method} {c : Code} {Q : State → Prop}
variable {sb c0 Ls n0 s0 M pc nx : Nat} {xs : Nat → Int32} {D : va_G} {cA : Nat → ClassId} {L : ZL} {st r : List ZV} {h : ZH}
theorem zs_const (F : zFix p s m args meth c M) {b : Nat} {n : Int} (ok : zk_const M pc nx b n) (k : zGo p l e R s m args below meth c Q sb c0 Ls n0 s0 xs D cA M nx L (.inl (Int32.ofInt n) :: st) h) : zGo p l e R s m args below meth c Q sb c0 Ls n0 s0 xs D cA M pc L st h := by
  intro H locs cells slots ls hR hl hlo hn hs
  obtain ⟨hx, hb, hml, hown, hts, hct⟩ := F
  have kk := k H locs cells slots ls hR hl hlo hn hs
  unfold zk_const at ok
  split at ok
  · obtain ⟨d1, rfl⟩ := ok
    exact lv_iconst hx hb d1 rfl kk
  · split at ok
    · obtain ⟨d1, rfl, d2⟩ := ok
      exact lv_bipush hx hb d1 d2 kk
    · obtain ⟨d1, rfl, d2⟩ := ok
      exact lv_sipush hx hb d1 d2 kk
theorem zs_iload (F : zFix p s m args meth c M) {i b : Nat} {x : Int32} (ok : (b = 0 → ∃ f : Fin 4, f.val = i ∧ decode (zbc M) pc = .ok (.iload_n f, 1) ∧ nx = pc + 1) ∧ (¬ b = 0 → decode (zbc M) pc = .ok (.iload i, 2) ∧ nx = pc + 2)) (hg : zget L i = some (.inl x)) (k : zGo p l e R s m args below meth c Q sb c0 Ls n0 s0 xs D cA M nx L (.inl x :: st) h) : zGo p l e R s m args below meth c Q sb c0 Ls n0 s0 xs D cA M pc L st h := by
  intro H locs cells slots ls hR hl hlo hn hs
  obtain ⟨hx, hb, hml, hown, hts, hct⟩ := F
  have kk := k H locs cells slots ls hR hl hlo hn hs
  by_cases hb0 : b = 0
  · obtain ⟨f, h1, h2, rfl⟩ := ok.1 hb0
    exact lv_iload_n hx hb h2 h1 (zLs_get hl hg) kk
  · obtain ⟨h2, rfl⟩ := ok.2 hb0
    exact lv_iload hx hb h2 (zLs_get hl hg) kk
theorem zs_aload (F : zFix p s m args meth c M) {i b : Nat} {x : Option Nat} (ok : (b = 0 → ∃ f : Fin 4, f.val = i ∧ decode (zbc M) pc = .ok (.aload_n f, 1) ∧ nx = pc + 1) ∧ (¬ b = 0 → decode (zbc M) pc = .ok (.aload i, 2) ∧ nx = pc + 2)) (hg : zget L i = some (.inr x)) (k : zGo p l e R s m args below meth c Q sb c0 Ls n0 s0 xs D cA M nx L (.inr x :: st) h) : zGo p l e R s m args below meth c Q sb c0 Ls n0 s0 xs D cA M pc L st h := by
  intro H locs cells slots ls hR hl hlo hn hs
  obtain ⟨hx, hb, hml, hown, hts, hct⟩ := F
  have kk := k H locs cells slots ls hR hl hlo hn hs
  have hv := zLs_get hl hg
  by_cases hb0 : b = 0
  · obtain ⟨f, h1, h2, rfl⟩ := ok.1 hb0
    cases x with
    | none => exact lv_aload_nN hx hb h2 h1 hv kk
    | some y => exact lv_aload_n hx hb h2 h1 hv kk
  · obtain ⟨h2, rfl⟩ := ok.2 hb0
    cases x with
    | none => exact lv_aloadN hx hb h2 hv kk
    | some y => exact lv_aload hx hb h2 hv kk
theorem zs_istore (F : zFix p s m args meth c M) {i b : Nat} {x : Int32} (hi : i < zmx M) (ok : (b = 0 → ∃ f : Fin 4, f.val = i ∧ decode (zbc M) pc = .ok (.istore_n f, 1) ∧ nx = pc + 1) ∧ (¬ b = 0 → decode (zbc M) pc = .ok (.istore i, 2) ∧ nx = pc + 2)) (k : zGo p l e R s m args below meth c Q sb c0 Ls n0 s0 xs D cA M nx (zset L i (.inl x)) r h) : zGo p l e R s m args below meth c Q sb c0 Ls n0 s0 xs D cA M pc L (.inl x :: r) h := by
  intro H locs cells slots ls hR hl hlo hn hs
  obtain ⟨hx, hb, hml, hown, hts, hct⟩ := F
  by_cases hb0 : b = 0
  · obtain ⟨f, h1, h2, rfl⟩ := ok.1 hb0
    exact lv_istore_n hx hb h2 h1 hl.1 hi rfl fun ls' hl' => k H locs cells slots ls' hR (zLs_set hl.2 (v := .inl x) hl') hlo hn hs
  · obtain ⟨h2, rfl⟩ := ok.2 hb0
    exact lv_istore hx hb h2 hl.1 hi rfl fun ls' hl' => k H locs cells slots ls' hR (zLs_set hl.2 (v := .inl x) hl') hlo hn hs
theorem zs_astore (F : zFix p s m args meth c M) {i b : Nat} {x : Option Nat} (hi : i < zmx M) (ok : (b = 0 → ∃ f : Fin 4, f.val = i ∧ decode (zbc M) pc = .ok (.astore_n f, 1) ∧ nx = pc + 1) ∧ (¬ b = 0 → decode (zbc M) pc = .ok (.astore i, 2) ∧ nx = pc + 2)) (k : zGo p l e R s m args below meth c Q sb c0 Ls n0 s0 xs D cA M nx (zset L i (.inr x)) r h) : zGo p l e R s m args below meth c Q sb c0 Ls n0 s0 xs D cA M pc L (.inr x :: r) h := by
  intro H locs cells slots ls hR hl hlo hn hs
  obtain ⟨hx, hb, hml, hown, hts, hct⟩ := F
  by_cases hb0 : b = 0
  · obtain ⟨f, h1, h2, rfl⟩ := ok.1 hb0
    cases x with
    | none => exact lv_astore_nN hx hb h2 h1 hl.1 hi rfl fun ls' hl' => k H locs cells slots ls' hR (zLs_set hl.2 (v := .inr none) hl') hlo hn hs
    | some y => exact lv_astore_n hx hb h2 h1 hl.1 hi rfl fun ls' hl' => k H locs cells slots ls' hR (zLs_set hl.2 (v := .inr (some y)) hl') hlo hn hs
  · obtain ⟨h2, rfl⟩ := ok.2 hb0
    cases x with
    | none => exact lv_astoreN hx hb h2 hl.1 hi rfl fun ls' hl' => k H locs cells slots ls' hR (zLs_set hl.2 (v := .inr none) hl') hlo hn hs
    | some y => exact lv_astore hx hb h2 hl.1 hi rfl fun ls' hl' => k H locs cells slots ls' hR (zLs_set hl.2 (v := .inr (some y)) hl') hlo hn hs
theorem zs_iinc (F : zFix p s m args meth c M) {i : Nat} {n : Int} {x : Int32} (hi : i < zmx M) (ok : decode (zbc M) pc = .ok (.iinc i n, 3) ∧ nx = pc + 3) (hg : zget L i = some (.inl x)) (k : zGo p l e R s m args below meth c Q sb c0 Ls n0 s0 xs D cA M nx (zset L i (.inl (x + Int32.ofInt n))) st h) : zGo p l e R s m args below meth c Q sb c0 Ls n0 s0 xs D cA M pc L st h := by
  intro H locs cells slots ls hR hl hlo hn hs
  obtain ⟨hx, hb, hml, hown, hts, hct⟩ := F
  obtain ⟨h2, rfl⟩ := ok
  have hm : ∃ j : Nat, (L.map (fun q => (q.1, zTv sb c0 q.2)))[j]? = some (i, .int x) := by
    unfold zget at hg
    cases hf : L.find? (fun q => q.1 == i) with
    | none => rw [hf] at hg; cases hg
    | some q =>
      rw [hf] at hg
      have h4 : q.2 = .inl x := Option.some.inj hg
      have h3 : q.1 = i := by simpa using List.find?_some hf
      apply List.getElem?_of_mem
      exact List.mem_map.mpr ⟨q, List.mem_of_find?_eq_some hf, by rw [h3, h4]; rfl⟩
  obtain ⟨j, hj⟩ := hm
  exact lv_iinc hx hb h2 hl.1 hj rfl hi rfl fun ls' hl' => k H locs cells slots ls' hR (zLs_set hl.2 (v := .inl (x + Int32.ofInt n)) hl') hlo hn hs
theorem zs_ar (F : zFix p s m args meth c M) {b : Nat} {x y v : Int32} (hz : zar b x y = some v) (ok : decode (zbc M) pc = .ok (zarI b, 1) ∧ nx = pc + 1) (k : zGo p l e R s m args below meth c Q sb c0 Ls n0 s0 xs D cA M nx L (.inl v :: r) h) : zGo p l e R s m args below meth c Q sb c0 Ls n0 s0 xs D cA M pc L (.inl y :: .inl x :: r) h := by
  intro H locs cells slots ls hR hl hlo hn hs
  obtain ⟨hx, hb, hml, hown, hts, hct⟩ := F
  obtain ⟨h2, rfl⟩ := ok
  have kk := k H locs cells slots ls hR hl hlo hn hs
  unfold zar at hz
  unfold zarI at h2
  split at hz
  · rename_i hb0; subst hb0; cases hz
    exact lv_iadd hx hb h2 kk
  rename_i hb0
  rw [if_neg hb0] at h2
  split at hz
  · rename_i hb1; subst hb1; cases hz
    exact lv_isub hx hb h2 kk
  rename_i hb1
  rw [if_neg hb1] at h2
  split at hz
  · rename_i hb2; subst hb2; cases hz
    exact lv_imul hx hb h2 kk
  rename_i hb2
  rw [if_neg hb2] at h2
  split at hz
  · rename_i hb3; subst hb3
    split at hz
    · cases hz
    · rename_i hy; cases hz
      exact lv_idiv hx hb h2 hy kk
  rename_i hb3
  rw [if_neg hb3] at h2
  split at hz
  · rename_i hb4; subst hb4; cases hz
    exact lv_iand hx hb h2 kk
  rename_i hb4
  rw [if_neg hb4] at h2
  split at hz
  · rename_i hb5; subst hb5; cases hz
    exact lv_ishr hx hb h2 kk
  rename_i hb5
  rw [if_neg hb5] at h2
  split at hz
  · cases hz
    exact lv_iushr hx hb h2 rfl kk
  · cases hz
theorem zs_dup (F : zFix p s m args meth c M) {v : ZV} (ok : decode (zbc M) pc = .ok (.dup, 1) ∧ nx = pc + 1) (k : zGo p l e R s m args below meth c Q sb c0 Ls n0 s0 xs D cA M nx L (v :: v :: r) h) : zGo p l e R s m args below meth c Q sb c0 Ls n0 s0 xs D cA M pc L (v :: r) h := by
  intro H locs cells slots ls hR hl hlo hn hs
  obtain ⟨h2, rfl⟩ := ok
  exact lv_dup F.1 F.2.1 h2 (zTv_cat sb c0 v) (k H locs cells slots ls hR hl hlo hn hs)
theorem zs_dup2 (F : zFix p s m args meth c M) {v w : ZV} (ok : decode (zbc M) pc = .ok (.dup2, 1) ∧ nx = pc + 1) (k : zGo p l e R s m args below meth c Q sb c0 Ls n0 s0 xs D cA M nx L (v :: w :: v :: w :: r) h) : zGo p l e R s m args below meth c Q sb c0 Ls n0 s0 xs D cA M pc L (v :: w :: r) h := by
  intro H locs cells slots ls hR hl hlo hn hs
  obtain ⟨h2, rfl⟩ := ok
  exact lv_dup2_11 F.1 F.2.1 h2 (zTv_cat sb c0 v) (zTv_cat sb c0 w) (k H locs cells slots ls hR hl hlo hn hs)
theorem zs_dupx1 (F : zFix p s m args meth c M) {v w : ZV} (ok : decode (zbc M) pc = .ok (.dup_x1, 1) ∧ nx = pc + 1) (k : zGo p l e R s m args below meth c Q sb c0 Ls n0 s0 xs D cA M nx L (v :: w :: v :: r) h) : zGo p l e R s m args below meth c Q sb c0 Ls n0 s0 xs D cA M pc L (v :: w :: r) h := by
  intro H locs cells slots ls hR hl hlo hn hs
  obtain ⟨h2, rfl⟩ := ok
  exact lv_dup_x1 F.1 F.2.1 h2 (zTv_cat sb c0 v) (zTv_cat sb c0 w) (k H locs cells slots ls hR hl hlo hn hs)
theorem zs_pop (F : zFix p s m args meth c M) {v : ZV} (ok : decode (zbc M) pc = .ok (.pop, 1) ∧ nx = pc + 1) (k : zGo p l e R s m args below meth c Q sb c0 Ls n0 s0 xs D cA M nx L r h) : zGo p l e R s m args below meth c Q sb c0 Ls n0 s0 xs D cA M pc L (v :: r) h := by
  intro H locs cells slots ls hR hl hlo hn hs
  obtain ⟨h2, rfl⟩ := ok
  exact lv_pop F.1 F.2.1 h2 (zTv_cat sb c0 v) (k H locs cells slots ls hR hl hlo hn hs)
theorem zs_icmp (F : zFix p s m args meth c M) {b tg : Nat} {x y : Int32} (hb6 : b < 6) (ok : decode (zbc M) pc = .ok (.if_icmp (zcpC b) ((tg : Int) - pc), 3) ∧ nx = pc + 3) (k : zGo p l e R s m args below meth c Q sb c0 Ls n0 s0 xs D cA M (if zcp b x y = true then tg else nx) L r h) : zGo p l e R s m args below meth c Q sb c0 Ls n0 s0 xs D cA M pc L (.inl y :: .inl x :: r) h := by
  intro H locs cells slots ls hR hl hlo hn hs
  obtain ⟨h2, rfl⟩ := ok
  have kk := k H locs cells slots ls hR hl hlo hn hs
  have ht : (pc : Int) + ((tg : Int) - pc) = (tg : Int) := by omega
  rcases (show b = 0 ∨ b = 1 ∨ b = 2 ∨ b = 3 ∨ b = 4 ∨ b = 5 by omega) with rfl | rfl | rfl | rfl | rfl | rfl
  · exact lv_icmp_eq F.1 F.2.1 h2 ht (fun q => by rw [if_pos (by simpa [zcp] using q)] at kk; exact kk) (fun q => by rw [if_neg (by simpa [zcp] using q)] at kk; exact kk)
  · exact lv_icmp_ne F.1 F.2.1 h2 ht (fun q => by rw [if_pos (by simpa [zcp] using q)] at kk; exact kk) (fun q => by rw [if_neg (by simpa [zcp] using q)] at kk; exact kk)
  · exact lv_icmp_lt F.1 F.2.1 h2 ht (fun q => by rw [if_pos (by simpa [zcp] using q)] at kk; exact kk) (fun q => by rw [if_neg (by simpa [zcp] using q)] at kk; exact kk)
  · exact lv_icmp_ge F.1 F.2.1 h2 ht (fun q => by rw [if_pos (by simpa [zcp] using q)] at kk; exact kk) (fun q => by rw [if_neg (by simpa [zcp] using q)] at kk; exact kk)
  · exact lv_icmp_gt F.1 F.2.1 h2 ht (fun q => by rw [if_pos (by simpa [zcp] using q)] at kk; exact kk) (fun q => by rw [if_neg (by simpa [zcp] using q)] at kk; exact kk)
  · exact lv_icmp_le F.1 F.2.1 h2 ht (fun q => by rw [if_pos (by simpa [zcp] using q)] at kk; exact kk) (fun q => by rw [if_neg (by simpa [zcp] using q)] at kk; exact kk)
theorem zs_if (F : zFix p s m args meth c M) {b tg : Nat} {x : Int32} (hb6 : b < 6) (ok : decode (zbc M) pc = .ok (.ifCond (zcpC b) ((tg : Int) - pc), 3) ∧ nx = pc + 3) (k : zGo p l e R s m args below meth c Q sb c0 Ls n0 s0 xs D cA M (if zcp b x 0 = true then tg else nx) L r h) : zGo p l e R s m args below meth c Q sb c0 Ls n0 s0 xs D cA M pc L (.inl x :: r) h := by
  intro H locs cells slots ls hR hl hlo hn hs
  obtain ⟨h2, rfl⟩ := ok
  have kk := k H locs cells slots ls hR hl hlo hn hs
  have ht : (pc : Int) + ((tg : Int) - pc) = (tg : Int) := by omega
  rcases (show b = 0 ∨ b = 1 ∨ b = 2 ∨ b = 3 ∨ b = 4 ∨ b = 5 by omega) with rfl | rfl | rfl | rfl | rfl | rfl
  · exact lv_if_eq F.1 F.2.1 h2 ht (fun q => by rw [if_pos (by simpa [zcp] using q)] at kk; exact kk) (fun q => by rw [if_neg (by simpa [zcp] using q)] at kk; exact kk)
  · exact lv_if_ne F.1 F.2.1 h2 ht (fun q => by rw [if_pos (by simpa [zcp] using q)] at kk; exact kk) (fun q => by rw [if_neg (by simpa [zcp] using q)] at kk; exact kk)
  · exact lv_if_lt F.1 F.2.1 h2 ht (fun q => by rw [if_pos (by simpa [zcp] using q)] at kk; exact kk) (fun q => by rw [if_neg (by simpa [zcp] using q)] at kk; exact kk)
  · exact lv_if_ge F.1 F.2.1 h2 ht (fun q => by rw [if_pos (by simpa [zcp] using q)] at kk; exact kk) (fun q => by rw [if_neg (by simpa [zcp] using q)] at kk; exact kk)
  · exact lv_if_gt F.1 F.2.1 h2 ht (fun q => by rw [if_pos (by simpa [zcp] using q)] at kk; exact kk) (fun q => by rw [if_neg (by simpa [zcp] using q)] at kk; exact kk)
  · exact lv_if_le F.1 F.2.1 h2 ht (fun q => by rw [if_pos (by simpa [zcp] using q)] at kk; exact kk) (fun q => by rw [if_neg (by simpa [zcp] using q)] at kk; exact kk)
theorem zs_goto (F : zFix p s m args meth c M) {tg : Nat} (ok : decode (zbc M) pc = .ok (.goto ((tg : Int) - pc), 3)) (k : zGo p l e R s m args below meth c Q sb c0 Ls n0 s0 xs D cA M tg L st h) : zGo p l e R s m args below meth c Q sb c0 Ls n0 s0 xs D cA M pc L st h := by
  intro H locs cells slots ls hR hl hlo hn hs
  exact lv_goto F.1 F.2.1 ok (by omega) (k H locs cells slots ls hR hl hlo hn hs)
theorem zs_ifnull (F : zFix p s m args meth c M) {tg : Nat} {x : Option Nat} (ok : decode (zbc M) pc = .ok (.ifnull ((tg : Int) - pc), 3) ∧ nx = pc + 3) (k0 : x = none → zGo p l e R s m args below meth c Q sb c0 Ls n0 s0 xs D cA M tg L r h) (k1 : ∀ y, x = some y → zGo p l e R s m args below meth c Q sb c0 Ls n0 s0 xs D cA M nx L r h) : zGo p l e R s m args below meth c Q sb c0 Ls n0 s0 xs D cA M pc L (.inr x :: r) h := by
  intro H locs cells slots ls hR hl hlo hn hs
  obtain ⟨h2, rfl⟩ := ok
  cases x with
  | none => exact lv_ifnullN F.1 F.2.1 h2 (by omega) (k0 rfl H locs cells slots ls hR hl hlo hn hs)
  | some y => exact lv_ifnull F.1 F.2.1 h2 (k1 y rfl H locs cells slots ls hR hl hlo hn hs)
theorem zs_ifnonnull (F : zFix p s m args meth c M) {tg : Nat} {x : Option Nat} (ok : decode (zbc M) pc = .ok (.ifnonnull ((tg : Int) - pc), 3) ∧ nx = pc + 3) (k0 : x = none → zGo p l e R s m args below meth c Q sb c0 Ls n0 s0 xs D cA M nx L r h) (k1 : ∀ y, x = some y → zGo p l e R s m args below meth c Q sb c0 Ls n0 s0 xs D cA M tg L r h) : zGo p l e R s m args below meth c Q sb c0 Ls n0 s0 xs D cA M pc L (.inr x :: r) h := by
  intro H locs cells slots ls hR hl hlo hn hs
  obtain ⟨h2, rfl⟩ := ok
  cases x with
  | none => exact lv_ifnonnullN F.1 F.2.1 h2 (k0 rfl H locs cells slots ls hR hl hlo hn hs)
  | some y => exact lv_ifnonnull F.1 F.2.1 h2 (by omega) (k1 y rfl H locs cells slots ls hR hl hlo hn hs)
theorem zs_null (F : zFix p s m args meth c M) (ok : decode (zbc M) pc = .ok (.aconst_null, 1) ∧ nx = pc + 1) (k : zGo p l e R s m args below meth c Q sb c0 Ls n0 s0 xs D cA M nx L (.inr none :: st) h) : zGo p l e R s m args below meth c Q sb c0 Ls n0 s0 xs D cA M pc L st h := by
  intro H locs cells slots ls hR hl hlo hn hs
  obtain ⟨h2, rfl⟩ := ok
  exact lv_null F.1 F.2.1 h2 (k H locs cells slots ls hR hl hlo hn hs)
end ZS
end
section
/-! The instructions that read and write the heap. -/
theorem zAd_pos {sb c0 a : Nat} (h : a ≠ 0) : zAd sb c0 a = c0 + a := if_neg h
theorem zCel_o {sb c0 a ci : Nat} {cA : Nat → ClassId} {h : ZH} (hk : h.1 a = some (.inl ci)) : zCel sb c0 cA h a = .inr (ci, zFs sb c0 h a ci) := by simp [zCel, hk]
theorem zCel_i {sb c0 a t n : Nat} {cA : Nat → ClassId} {h : ZH} (hk : h.1 a = some (.inr (t, n))) (ht : t < 2) : zCel sb c0 cA h a = .inl (cA t, n, .inl (h.2.1 a)) := by simp [zCel, hk, ht]
theorem zCel_r {sb c0 a t n : Nat} {cA : Nat → ClassId} {h : ZH} (hk : h.1 a = some (.inr (t, n))) (ht : ¬ t < 2) : zCel sb c0 cA h a = .inl (cA t, n, .inr (.inr (.inr (.inr (fun j => (h.2.2.1 a j).map (zAd sb c0)))))) := by simp [zCel, hk, ht]
theorem zFs_get {sb c0 a ci k : Nat} {h : ZH} (hk : k < zfn ci) : (zFs sb c0 h a ci)[k]? = some (if zrf ci k = true then va_rf ((h.2.2.1 a k).map (zAd sb c0)) else .int (h.2.1 a k)) := by
  simp [zFs, hk]
theorem zFs_len {sb c0 a ci : Nat} {h : ZH} : (zFs sb c0 h a ci).length = zfn ci := by simp [zFs]
theorem zFs_set {sb c0 a ci k : Nat} {h h' : ZH} {v : Value} (hk : k < zfn ci) (hv : (if zrf ci k = true then va_rf ((h'.2.2.1 a k).map (zAd sb c0)) else .int (h'.2.1 a k)) = v) (hI : ∀ j, j ≠ k → h'.2.1 a j = h.2.1 a j) (hP : ∀ j, j ≠ k → h'.2.2.1 a j = h.2.2.1 a j) : (zFs sb c0 h a ci).set k v = zFs sb c0 h' a ci := by
  apply List.ext_getElem?
  intro j
  rw [List.getElem?_set, zFs_len]
  by_cases hj : j < zfn ci
  · rw [zFs_get hj, zFs_get hj]
    by_cases he : k = j
    · subst he
      rw [if_pos rfl, if_pos hk, hv]
    · rw [if_neg he, hI j (fun q => he q.symm), hP j (fun q => he q.symm)]
  · have h1 : (zFs sb c0 h a ci)[j]? = none := List.getElem?_eq_none (by rw [zFs_len]; omega)
    have h2 : (zFs sb c0 h' a ci)[j]? = none := List.getElem?_eq_none (by rw [zFs_len]; omega)
    rw [if_neg (by omega), h1, h2]
/-- one cell is written -/
theorem zRel_upd {sb c0 Ls o : Nat} {xs : Nat → Int32} {D : va_G} {cA : Nat → ClassId} {U : State} {h h' : ZH} {H H1 : Heap} (hsb : sb ≤ c0) (hR : zRel sb c0 Ls xs D cA U h H) (ho : 1 ≤ o) (hK : h'.1 = h.1) (hn : h'.2.2.2.1 = h.2.2.2.1) (hx : h'.2.1 0 = h.2.1 0) (hc : ∀ a, a ≠ o → zCel sb c0 cA h' a = zCel sb c0 cA h a) (hat : va_at D zcl (c0 + o, zCel sb c0 cA h' o) H1) (hz : H1.size = H.size) (hq : ∀ q : Nat, q ≠ c0 + o → H1[q]? = H[q]?) : zRel sb c0 Ls xs D cA U h' H1 := by
  obtain ⟨r1, r2, r3, r4, r5, r6, r7⟩ := hR
  refine ⟨fun a h1 h2 => ?_, by rw [hz, hn]; exact r2, by rw [hn]; exact r3, fun a ha => by rw [hK]; exact r4 a (by rw [← hn]; exact ha), by rw [hK]; exact r5, by rw [hx]; exact r6, r7.kept (hq sb (by omega))⟩
  by_cases he : a = o
  · subst he; exact hat
  · rw [hc a he]
    exact (r1 a h1 (by rw [← hn]; exact h2)).kept (hq _ (by show c0 + a ≠ c0 + o; omega))
/-- one cell is new -/
theorem zRel_new {sb c0 Ls : Nat} {xs : Nat → Int32} {D : va_G} {cA : Nat → ClassId} {U : State} {h h' : ZH} {H H1 : Heap} (hsb : sb ≤ c0) (hR : zRel sb c0 Ls xs D cA U h H) (hn : h'.2.2.2.1 = h.2.2.2.1 + 1) (hK : ∀ a, a ≠ h.2.2.2.1 → h'.1 a = h.1 a) (hI : ∀ a, a ≠ h.2.2.2.1 → h'.2.1 a = h.2.1 a) (hP : ∀ a, a ≠ h.2.2.2.1 → h'.2.2.1 a = h.2.2.1 a) (hat : va_at D zcl (H.size, zCel sb c0 cA h' h.2.2.2.1) H1) (hz : H1.size = H.size + 1) (hq : ∀ q : Nat, q < H.size → H1[q]? = H[q]?) : zRel sb c0 Ls xs D cA U h' H1 := by
  obtain ⟨r1, r2, r3, r4, r5, r6, r7⟩ := hR
  have hc : ∀ a, a ≠ h.2.2.2.1 → zCel sb c0 cA h' a = zCel sb c0 cA h a := fun a ha => by
    unfold zCel zFs
    rw [hK a ha, hI a ha, hP a ha]
  refine ⟨fun a h1 h2 => ?_, by rw [hz, hn, r2]; omega, by omega, fun a ha => ?_, by rw [hK 0 (by omega)]; exact r5, by rw [hI 0 (by omega)]; exact r6, r7.kept (hq sb (by omega))⟩
  · by_cases he : a = h.2.2.2.1
    · rw [he, ← r2]; exact hat
    · rw [hc a he]
      exact (r1 a h1 (by omega)).kept (hq _ (by show c0 + a < H.size; omega))
  · rw [hK a (by omega)]; exact r4 a (by omega)
theorem zRel_in {sb c0 Ls o ci : Nat} {xs : Nat → Int32} {D : va_G} {cA : Nat → ClassId} {U : State} {h : ZH} {H : Heap} (hR : zRel sb c0 Ls xs D cA U h H) (hk : h.1 o = some (.inl ci)) : 1 ≤ o ∧ o < h.2.2.2.1 := by
  obtain ⟨r1, r2, r3, r4, r5, r6, r7⟩ := hR
  constructor
  · rcases Nat.eq_zero_or_pos o with h0 | h0
    · subst h0; rw [r5] at hk; cases hk
    · exact h0
  · rcases Nat.lt_or_ge o h.2.2.2.1 with h0 | h0
    · exact h0
    · rw [r4 o h0] at hk; cases hk
theorem zRel_ia {sb c0 Ls o t n : Nat} {xs : Nat → Int32} {D : va_G} {cA : Nat → ClassId} {U : State} {h : ZH} {H : Heap} (hR : zRel sb c0 Ls xs D cA U h H) (hk : h.1 o = some (.inr (t, n))) (ht : t ≠ 9) : 1 ≤ o ∧ o < h.2.2.2.1 := by
  obtain ⟨r1, r2, r3, r4, r5, r6, r7⟩ := hR
  constructor
  · rcases Nat.eq_zero_or_pos o with h0 | h0
    · subst h0; rw [r5] at hk; cases hk; exact absurd rfl ht
    · exact h0
  · rcases Nat.lt_or_ge o h.2.2.2.1 with h0 | h0
    · exact h0
    · rw [r4 o h0] at hk; cases hk
theorem zP1 {D : va_G} {cl : List vw_C} {q : Nat × va_E} {H : Heap} (h : va_at D cl q H) : va_P D cl [q] H := fun k x hk => by
  have hz : k < 1 := (List.getElem?_eq_some_iff.mp hk).1
  rw [show k = 0 by omega] at hk
  cases hk
  exact h
/-- a field's link: its own class's word, or a nest mate's -/
def zfl (M idx ci k nest : Nat) : Prop := (nest = 0 ∧ Cond.fieldLink (zow M) idx ((zC ci).2.1 k).1 ((zC ci).2.1 k).2.1 ((zC ci).2.1 k).2.2.1 ∈ zWS) ∨ (nest = 1 ∧ (zow M, idx, ((zC ci).2.1 k).1, ((zC ci).2.1 k).2.1, ((zC ci).2.1 k).2.2.1, zhost) ∈ zNW)
section ZS
variable {p : Program} {l : Launch} {e : Env} {R : Room} {s : State} {m : MethodId} {args : Array Value} {below : List Frame} {meth : Method} {c : Code} {Q : State → Prop}
variable {sb c0 Ls n0 s0 M pc nx : Nat} {xs : Nat → Int32} {D : va_G} {cA : Nat → ClassId} {L : ZL} {st r : List ZV} {h : ZH}
theorem zs_getv (F : zFix p s m args meth c M) (E : zEnv D cA s) {o ci k idx nest : Nat} (hci : ci < zcl.length) (hkf : k < zfn ci) (hk : h.1 o = some (.inl ci)) (hf : zfl M idx ci k nest) (ok : decode (zbc M) pc = .ok (.getfield idx, 3) ∧ nx = pc + 3) {v : ZV} (hv : zTv sb c0 v = if zrf ci k = true then va_rf ((h.2.2.1 o k).map (zAd sb c0)) else .int (h.2.1 o k)) (kg : zGo p l e R s m args below meth c Q sb c0 Ls n0 s0 xs D cA M nx L (v :: r) h) : zGo p l e R s m args below meth c Q sb c0 Ls n0 s0 xs D cA M pc L (.inr (some o) :: r) h := by
  intro H locs cells slots ls hR hl hlo hn hs
  obtain ⟨hx, hb, hml, hown, hts, hct⟩ := F
  obtain ⟨h2, rfl⟩ := ok
  obtain ⟨o1, o2⟩ := zRel_in hR hk
  obtain ⟨hc, hN, hin, -, -⟩ := zcl_ok hci
  have hat := hR.1 o o1 o2
  rw [zCel_o hk] at hat
  have kk := kg H locs cells slots ls hR hl hlo hn hs
  have hvv : (zFs sb c0 h o ci)[k]? = some (zTv sb c0 v) := by rw [zFs_get hkf, hv]
  show W p l e R s m args below meth c H locs cells slots Q (F0 m pc ls (.ref (zAd sb c0 o) :: r.map (zTv sb c0)))
  rw [zAd_pos (by omega)]
  rcases hf with ⟨-, hf⟩ | ⟨-, hf⟩
  · exact va_get (D := D) (ci := ci) (C := (zC ci).1) (T := (zC ci).2.1) (N := (zC ci).2.2) hx hb hts hin hown E.1 (zP1 hat) 0 rfl hc k (by rw [hN]; exact hkf) (hts _ hf) (fun _ h9 => h9) hvv h2 kk
  · exact va_getN (D := D) (ci := ci) (C := (zC ci).1) (T := (zC ci).2.1) (N := (zC ci).2.2) hx hb hts hin hown E.1 (zP1 hat) 0 rfl hc k (by rw [hN]; exact hkf) (va_Nw.use rfl (E.2.1 _ hf)) (fun _ h9 => h9) hvv h2 kk
/-- putfield at a cell: plain, a final field in its constructor, a nest mate's -/
theorem zr_put (F : zFix p s m args meth c M) (E : zEnv D cA s) {H : Heap} {locs : List Loc} {cells slots : Nat} {ls : Array Slot} {rest : List Value} {a ci k idx nest : Nat} {fs : List Value} {v : Value} (hci : ci < zcl.length) (hkf : k < zfn ci) (hf : zfl M idx ci k nest) (hfin : ((zC ci).2.1 k).2.2.2 = true → nest = 0 ∧ zct M = true ∧ ((zC ci).2.1 k).1 = zow M) (hat : va_at D zcl (a, .inr (ci, fs)) H) (hn : narrow (zft ci k) v = v) (hfit : fits (zft ci k) v = true) (hl : k < fs.length) (hdg : decode (zbc M) pc = .ok (.putfield idx, 3))
    (kk : ∀ (H1 : Heap) (i : Nat), va_at D zcl (a, .inr (ci, fs.set k v)) H1 → H1.size = H.size → (∀ q : Nat, q ≠ a → H1[q]? = H[q]?) → W p l e R s m args below meth c H1 (locs ++ [⟨a, i⟩]) cells slots Q (F0 m (pc + 3) ls rest)) : W p l e R s m args below meth c H locs cells slots Q (F0 m pc ls (v :: .ref a :: rest)) := by
  obtain ⟨hx, hb, hml, hown, hts, hct⟩ := F
  obtain ⟨hc, hN, hin, hty, hnm⟩ := zcl_ok hci
  have hk : k < (zC ci).2.2 := by rw [hN]; exact hkf
  have hap := va_apart (own := zow M) (C := (zC ci).1) (T := (zC ci).2.1) (N := (zC ci).2.2) hts hin (zft ci) hty hnm E.1 hc
  obtain ⟨r', h1, cell, q1, q2, q3, q4⟩ := hat
  have hr : r' = zC ci := Option.some.inj (h1.symm.trans hc)
  subst hr
  obtain ⟨hS, hfc, kC, hkC, hkind⟩ := E.1.1 ci _ hc
  obtain ⟨cf, kf, fi, f, hi, hsl⟩ := hS k hk
  have hst := (u_facts hfc hkC (u_lays hts hin hk) hi).1
  have hlay := hts _ (hin _ (u_in_lay hk))
  unfold u_lay at hlay
  by_cases hfi : ((zC ci).2.1 k).2.2.2 = true
  · obtain ⟨rfl, hctm, hdecl⟩ := hfin hfi
    rw [if_pos hfi] at hlay
    have hlk : Cond.fieldLink (zow M) idx ((zC ci).2.1 k).1 ((zC ci).2.1 k).2.1 ((zC ci).2.1 k).2.2.1 ∈ zWS := by
      rcases hf with ⟨-, q⟩ | ⟨q, -⟩
      · exact q
      · cases q
    have hcf : m.cls = cf := by
      obtain ⟨_, _, c', _, _, _, -, -, hf', -, -, -, hown2, -⟩ := Cond.laysFinal_spec hlay
      have e1 : c' = cf := by have := hi.symm.trans hf'; simp at this; exact this.1.symm
      rw [hdecl] at hown2
      rw [← e1]; exact Option.some.inj (hown.symm.trans hown2)
    have h6 := u_fits hfc hkC hkind (Or.inr hlay) hi (hty k hk) hn hfit
    refine W.putFinK hx hb hown (hts _ hlk) hi hst hcf (hct hctm) (by rw [q2]; exact h6) q1 q3 (by rw [hsl]; exact k2_hasslot (q4 k hk)) rfl rfl hdg fun H' e1 e2 e3 => ?_
    rw [hsl] at e1 ⊢
    exact kk H' _ ⟨_, hc, t_OB.to (V := updV (vp_V fs) k v) ⟨_, e1, q2, q3, t_set q4 hap hk v⟩ (fun j _ => vp_updV_set hl v j)⟩ e2 e3
  · rw [if_neg hfi] at hlay
    have h6 := u_store hfc hkC hkind hlay hi (hty k hk) hn hfit
    rcases hf with ⟨-, hf⟩ | ⟨-, hf⟩
    · refine W.putK hx hb (f := f) ⟨hown, hts _ hf, ⟨_, _, _, hi⟩, hst⟩ (by rw [q2]; exact h6) q1 q3 (by rw [hsl]; exact k2_hasslot (q4 k hk)) rfl rfl hdg fun H' e1 e2 e3 => ?_
      rw [hsl] at e1 ⊢
      exact kk H' _ ⟨_, hc, t_OB.to (V := updV (vp_V fs) k v) ⟨_, e1, q2, q3, t_set q4 hap hk v⟩ (fun j _ => vp_updV_set hl v j)⟩ e2 e3
    · refine va_WputK hx hb (f := f) hown (va_Nw.use rfl (E.2.1 _ hf)) hi hst (by rw [q2]; exact h6) q1 q3 (by rw [hsl]; exact k2_hasslot (q4 k hk)) rfl rfl hdg fun H' e1 e2 e3 => ?_
      rw [hsl] at e1 ⊢
      exact kk H' _ ⟨_, hc, t_OB.to (V := updV (vp_V fs) k v) ⟨_, e1, q2, q3, t_set q4 hap hk v⟩ (fun j _ => vp_updV_set hl v j)⟩ e2 e3
theorem zs_puti (hsb : sb ≤ c0) (F : zFix p s m args meth c M) (E : zEnv D cA s) {o ci k idx nest : Nat} {x : Int32} (hci : ci < zcl.length) (hkf : k < zfn ci) (hty : zft ci k = .int) (hrf : zrf ci k = false) (hk : h.1 o = some (.inl ci)) (hf : zfl M idx ci k nest) (hfin : ((zC ci).2.1 k).2.2.2 = true → nest = 0 ∧ zct M = true ∧ ((zC ci).2.1 k).1 = zow M) (ok : decode (zbc M) pc = .ok (.putfield idx, 3) ∧ nx = pc + 3) (kg : zGo p l e R s m args below meth c Q sb c0 Ls n0 s0 xs D cA M nx L r (h.1, zU h.2.1 o k x, h.2.2)) : zGo p l e R s m args below meth c Q sb c0 Ls n0 s0 xs D cA M pc L (.inl x :: .inr (some o) :: r) h := by
  intro H locs cells slots ls hR hl hlo hn hs
  obtain ⟨h2, rfl⟩ := ok
  obtain ⟨o1, o2⟩ := zRel_in hR hk
  have hat := hR.1 o o1 o2
  rw [zCel_o hk] at hat
  show W p l e R s m args below meth c H locs cells slots Q (F0 m pc ls (.int x :: .ref (zAd sb c0 o) :: r.map (zTv sb c0)))
  rw [zAd_pos (by omega)]
  refine zr_put F E hci hkf hf hfin hat (by rw [hty]; rfl) (by rw [hty]; rfl) (by rw [zFs_len]; exact hkf) h2 (fun H1 i g1 g2 g3 => ?_)
  have hset : (zFs sb c0 h o ci).set k (.int x) = zFs sb c0 (h.1, zU h.2.1 o k x, h.2.2) o ci := zFs_set hkf (by rw [hrf]; simp [zU]) (fun j hj => zU_k _ _ _ hj) (fun _ _ => rfl)
  rw [hset] at g1
  refine kg H1 _ cells slots ls (zRel_upd hsb hR o1 rfl rfl (zU_ab _ _ _ (by omega)) (fun a ha => ?_) (by rw [zCel_o (h := (h.1, zU h.2.1 o k x, h.2.2)) hk]; exact g1) g2 g3) hl (fun q hq => ?_) hn hs
  · unfold zCel zFs
    simp only [zU_ab _ _ _ ha]
  · rcases List.mem_append.mp hq with hq | hq
    · exact hlo q hq
    · rw [List.mem_singleton.mp hq]; show c0 < c0 + o; omega
theorem zs_putr (hsb : sb ≤ c0) (F : zFix p s m args meth c M) (E : zEnv D cA s) {o ci k idx nest : Nat} {x : Option Nat} (hci : ci < zcl.length) (hkf : k < zfn ci) (hrf : zrf ci k = true) (hk : h.1 o = some (.inl ci)) (hf : zfl M idx ci k nest) (hfin : ((zC ci).2.1 k).2.2.2 = true → nest = 0 ∧ zct M = true ∧ ((zC ci).2.1 k).1 = zow M) (ok : decode (zbc M) pc = .ok (.putfield idx, 3) ∧ nx = pc + 3) (kg : zGo p l e R s m args below meth c Q sb c0 Ls n0 s0 xs D cA M nx L r (h.1, h.2.1, zU h.2.2.1 o k x, h.2.2.2)) : zGo p l e R s m args below meth c Q sb c0 Ls n0 s0 xs D cA M pc L (.inr x :: .inr (some o) :: r) h := by
  intro H locs cells slots ls hR hl hlo hn hs
  obtain ⟨h2, rfl⟩ := ok
  obtain ⟨o1, o2⟩ := zRel_in hR hk
  have hat := hR.1 o o1 o2
  rw [zCel_o hk] at hat
  show W p l e R s m args below meth c H locs cells slots Q (F0 m pc ls (va_rf (x.map (zAd sb c0)) :: .ref (zAd sb c0 o) :: r.map (zTv sb c0)))
  rw [zAd_pos (a := o) (by omega)]
  refine zr_put F E hci hkf hf hfin hat (zrf_nar hrf _) (zrf_fits hrf _) (by rw [zFs_len]; exact hkf) h2 (fun H1 i g1 g2 g3 => ?_)
  have hset : (zFs sb c0 h o ci).set k (va_rf (x.map (zAd sb c0))) = zFs sb c0 (h.1, h.2.1, zU h.2.2.1 o k x, h.2.2.2) o ci := zFs_set hkf (by rw [hrf]; simp [zU]) (fun _ _ => rfl) (fun j hj => zU_k _ _ _ hj)
  rw [hset] at g1
  refine kg H1 _ cells slots ls (zRel_upd hsb hR o1 rfl rfl rfl (fun a ha => ?_) (by rw [zCel_o (h := (h.1, h.2.1, zU h.2.2.1 o k x, h.2.2.2)) hk]; exact g1) g2 g3) hl (fun q hq => ?_) hn hs
  · unfold zCel zFs
    simp only [zU_ab _ _ _ ha]
  · rcases List.mem_append.mp hq with hq | hq
    · exact hlo q hq
    · rw [List.mem_singleton.mp hq]; show c0 < c0 + o; omega
end ZS
theorem zTys_get {cA : Nat → ClassId} {t : Nat} (h : t < zty.length) : (zTys cA)[t]? = some (cA t, zty.getD t .int) := by
  simp [zTys, h]
theorem zin_of {j : Int32} {n : Nat} (h : zin j n = true) : ¬ (j < 0 ∨ n ≤ j.toNatClampNeg) := of_decide_eq_true h
section ZS
variable {p : Program} {l : Launch} {e : Env} {R : Room} {s : State} {m : MethodId} {args : Array Value} {below : List Frame} {meth : Method} {c : Code} {Q : State → Prop}
variable {sb c0 Ls n0 s0 M pc nx : Nat} {xs : Nat → Int32} {D : va_G} {cA : Nat → ClassId} {L : ZL} {st r : List ZV} {h : ZH}
theorem zs_iald (F : zFix p s m args meth c M) (E : zEnv D cA s) {o t n : Nat} {j : Int32} (hk : h.1 o = some (.inr (t, n))) (ht : t = 0 ∨ (t = 9 ∧ o = 0)) (hj : zin j n = true) (ok : decode (zbc M) pc = .ok (.iaload, 1) ∧ nx = pc + 1) (kg : zGo p l e R s m args below meth c Q sb c0 Ls n0 s0 xs D cA M nx L (.inl (h.2.1 o j.toNatClampNeg) :: r) h) : zGo p l e R s m args below meth c Q sb c0 Ls n0 s0 xs D cA M pc L (.inl j :: .inr (some o) :: r) h := by
  intro H locs cells slots ls hR hl hlo hn hs
  obtain ⟨h2, rfl⟩ := ok
  have kk := kg H locs cells slots ls hR hl hlo hn hs
  have hin := zin_of hj
  have hlt : j.toNatClampNeg < n := Nat.not_le.mp fun q => hin (Or.inr q)
  show W p l e R s m args below meth c H locs cells slots Q (F0 m pc ls (.int j :: .ref (zAd sb c0 o) :: r.map (zTv sb c0)))
  by_cases h9 : t = 9
  · subst h9
    have ho : o = 0 := by
      rcases ht with q | q
      · cases q
      · exact q.2
    subst ho
    obtain ⟨r1, r2, r3, r4, r5, r6, r7⟩ := hR
    have hL : n = Ls := by rw [r5] at hk; cases hk; rfl
    subst hL
    obtain ⟨scr, g1, g2, g3, g4, g5⟩ := r7
    rw [r6] at kk
    exact W.iald (v := .int (xs j.toNatClampNeg)) F.1 F.2.1 (a := sb) g1 g2 g3 (by rw [g4]; exact hin) (g5 _ hlt) rfl rfl h2 kk
  · have h0 : t = 0 := by omega
    subst h0
    obtain ⟨o1, o2⟩ := zRel_ia hR hk (by decide)
    have hat := hR.1 o o1 o2
    rw [zCel_i hk (by decide)] at hat
    rw [zAd_pos (by omega)]
    exact va_iald F.1 F.2.1 E.1 (zP1 hat) 0 0 rfl (zTys_get (by decide)) hin h2 kk
theorem zs_zald (F : zFix p s m args meth c M) (E : zEnv D cA s) {o n : Nat} {j : Int32} (hk : h.1 o = some (.inr (1, n))) (hj : zin j n = true) (ok : decode (zbc M) pc = .ok (.baload, 1) ∧ nx = pc + 1) (kg : zGo p l e R s m args below meth c Q sb c0 Ls n0 s0 xs D cA M nx L (.inl (h.2.1 o j.toNatClampNeg) :: r) h) : zGo p l e R s m args below meth c Q sb c0 Ls n0 s0 xs D cA M pc L (.inl j :: .inr (some o) :: r) h := by
  intro H locs cells slots ls hR hl hlo hn hs
  obtain ⟨h2, rfl⟩ := ok
  have kk := kg H locs cells slots ls hR hl hlo hn hs
  have hin := zin_of hj
  show W p l e R s m args below meth c H locs cells slots Q (F0 m pc ls (.int j :: .ref (zAd sb c0 o) :: r.map (zTv sb c0)))
  obtain ⟨o1, o2⟩ := zRel_ia hR hk (by decide)
  have hat := hR.1 o o1 o2
  rw [zCel_i hk (by decide)] at hat
  rw [zAd_pos (by omega)]
  exact va_zald F.1 F.2.1 E.1 (zP1 hat) 0 1 rfl (zTys_get (by decide)) hin h2 kk
theorem zs_aald (F : zFix p s m args meth c M) (E : zEnv D cA s) {o t n : Nat} {j : Int32} (hk : h.1 o = some (.inr (t, n))) (ht2 : ¬ t < 2) (ht : t < zty.length) (hj : zin j n = true) (ok : decode (zbc M) pc = .ok (.aaload, 1) ∧ nx = pc + 1) (kg : zGo p l e R s m args below meth c Q sb c0 Ls n0 s0 xs D cA M nx L (.inr (h.2.2.1 o j.toNatClampNeg) :: r) h) : zGo p l e R s m args below meth c Q sb c0 Ls n0 s0 xs D cA M pc L (.inl j :: .inr (some o) :: r) h := by
  intro H locs cells slots ls hR hl hlo hn hs
  obtain ⟨h2, rfl⟩ := ok
  have kk := kg H locs cells slots ls hR hl hlo hn hs
  have hin := zin_of hj
  show W p l e R s m args below meth c H locs cells slots Q (F0 m pc ls (.int j :: .ref (zAd sb c0 o) :: r.map (zTv sb c0)))
  obtain ⟨o1, o2⟩ := zRel_ia hR hk (fun q => by subst q; exact absurd ht (by decide))
  have hat := hR.1 o o1 o2
  rw [zCel_r hk ht2] at hat
  rw [zAd_pos (by omega)]
  obtain ⟨C, hC⟩ := zty_obj t ht2 ht
  exact va_aldq (C := C) F.1 F.2.1 E.1 (zP1 hat) 0 t rfl (by rw [zTys_get ht, hC]) hin h2 kk
theorem zs_alen (F : zFix p s m args meth c M) (E : zEnv D cA s) {o t n : Nat} (hk : h.1 o = some (.inr (t, n))) (ht : t < zty.length ∨ (t = 9 ∧ o = 0)) (ok : decode (zbc M) pc = .ok (.arraylength, 1) ∧ nx = pc + 1) (kg : zGo p l e R s m args below meth c Q sb c0 Ls n0 s0 xs D cA M nx L (.inl (Int32.ofNat n) :: r) h) : zGo p l e R s m args below meth c Q sb c0 Ls n0 s0 xs D cA M pc L (.inr (some o) :: r) h := by
  intro H locs cells slots ls hR hl hlo hn hs
  obtain ⟨h2, rfl⟩ := ok
  have kk := kg H locs cells slots ls hR hl hlo hn hs
  show W p l e R s m args below meth c H locs cells slots Q (F0 m pc ls (.ref (zAd sb c0 o) :: r.map (zTv sb c0)))
  by_cases h9 : t = 9
  · subst h9
    have ho : o = 0 := by
      rcases ht with q | q
      · exact absurd q (by decide)
      · exact q.2
    subst ho
    obtain ⟨r1, r2, r3, r4, r5, r6, r7⟩ := hR
    have hL : n = Ls := by rw [r5] at hk; cases hk; rfl
    subst hL
    obtain ⟨scr, g1, g2, g3, g4, g5⟩ := r7
    exact W.alen (n := Int32.ofNat n) F.1 F.2.1 (a := sb) g1 g2 (by rw [g4] <;> rfl) rfl rfl h2 kk
  · have ht' : t < zty.length := by omega
    obtain ⟨o1, o2⟩ := zRel_ia hR hk h9
    have hat := hR.1 o o1 o2
    rw [zAd_pos (by omega)]
    by_cases h2' : t < 2
    · rw [zCel_i hk h2'] at hat
      exact va_alen F.1 F.2.1 E.1 (zP1 hat) 0 t rfl (zTys_get ht') rfl h2 kk
    · rw [zCel_r hk h2'] at hat
      exact va_alen F.1 F.2.1 E.1 (zP1 hat) 0 t rfl (zTys_get ht') rfl h2 kk
theorem zs_iast (hsb : sb ≤ c0) (F : zFix p s m args meth c M) (E : zEnv D cA s) {o n : Nat} {j x : Int32} (hk : h.1 o = some (.inr (0, n))) (hj : zin j n = true) (ok : decode (zbc M) pc = .ok (.iastore, 1) ∧ nx = pc + 1) (kg : zGo p l e R s m args below meth c Q sb c0 Ls n0 s0 xs D cA M nx L r (h.1, zU h.2.1 o j.toNatClampNeg x, h.2.2)) : zGo p l e R s m args below meth c Q sb c0 Ls n0 s0 xs D cA M pc L (.inl x :: .inl j :: .inr (some o) :: r) h := by
  intro H locs cells slots ls hR hl hlo hn hs
  obtain ⟨h2, rfl⟩ := ok
  have hin := zin_of hj
  obtain ⟨o1, o2⟩ := zRel_ia hR hk (by decide)
  have hat := hR.1 o o1 o2
  rw [zCel_i hk (by decide)] at hat
  show W p l e R s m args below meth c H locs cells slots Q (F0 m pc ls (.int x :: .int j :: .ref (zAd sb c0 o) :: r.map (zTv sb c0)))
  rw [zAd_pos (by omega)]
  refine W.iast F.1 F.2.1 hat ((E.1.2 0 _ (zTys_get (by decide))).1 n (fun j => .int (h.2.1 o j))) (fun q => by cases q) (by show ¬ (j < 0 ∨ (arrV _ _ _).slots.size ≤ _); rw [arrV_size]; exact hin) rfl rfl h2 fun H1 e1 g2 g3 => ?_
  refine kg H1 _ cells slots ls (zRel_upd hsb hR o1 rfl rfl (zU_ab _ _ _ (by omega)) (fun a ha => ?_) ?_ g2 g3) hl (fun q hq => ?_) hn hs
  · unfold zCel zFs
    simp only [zU_ab _ _ _ ha]
  · rw [zCel_i (h := (h.1, zU h.2.1 o j.toNatClampNeg x, h.2.2)) hk (by decide)]
    show H1[c0 + o]? = some (vp_cell _ _)
    rw [e1, vp_cell_i, vp_cell_i, arrV_store]
    congr 2
    funext q
    by_cases hq : q = j.toNatClampNeg
    · subst hq
      simp [updV, zU]
    · simp [updV, zU, hq]
  · rcases List.mem_append.mp hq with hq | hq
    · exact hlo q hq
    · rw [List.mem_singleton.mp hq]; show c0 < c0 + o; omega
theorem zs_zast (hsb : sb ≤ c0) (F : zFix p s m args meth c M) (E : zEnv D cA s) {o n : Nat} {j x : Int32} (hk : h.1 o = some (.inr (1, n))) (hj : zin j n = true) (hx1 : x = 0 ∨ x = 1) (ok : decode (zbc M) pc = .ok (.bastore, 1) ∧ nx = pc + 1) (kg : zGo p l e R s m args below meth c Q sb c0 Ls n0 s0 xs D cA M nx L r (h.1, zU h.2.1 o j.toNatClampNeg x, h.2.2)) : zGo p l e R s m args below meth c Q sb c0 Ls n0 s0 xs D cA M pc L (.inl x :: .inl j :: .inr (some o) :: r) h := by
  intro H locs cells slots ls hR hl hlo hn hs
  obtain ⟨h2, rfl⟩ := ok
  have hin := zin_of hj
  obtain ⟨o1, o2⟩ := zRel_ia hR hk (by decide)
  have hat := hR.1 o o1 o2
  rw [zCel_i hk (by decide)] at hat
  show W p l e R s m args below meth c H locs cells slots Q (F0 m pc ls (.int x :: .int j :: .ref (zAd sb c0 o) :: r.map (zTv sb c0)))
  rw [zAd_pos (by omega)]
  refine W.zast F.1 F.2.1 hat ((E.1.2 1 _ (zTys_get (by decide))).1 n (fun j => .int (h.2.1 o j))) (fun q => by cases q) (by show ¬ (j < 0 ∨ (arrV _ _ _).slots.size ≤ _); rw [arrV_size]; exact hin) rfl rfl h2 fun H1 e1 g2 g3 => ?_
  refine kg H1 _ cells slots ls (zRel_upd hsb hR o1 rfl rfl (zU_ab _ _ _ (by omega)) (fun a ha => ?_) ?_ g2 g3) hl (fun q hq => ?_) hn hs
  · unfold zCel zFs
    simp only [zU_ab _ _ _ ha]
  · rw [zCel_i (h := (h.1, zU h.2.1 o j.toNatClampNeg x, h.2.2)) hk (by decide)]
    show H1[c0 + o]? = some (vp_cell _ _)
    have hnx : narrow .boolean (.int x) = .int x := by rcases hx1 with rfl | rfl <;> decide +kernel
    rw [e1, vp_cell_i, vp_cell_i, arrV_store, hnx]
    congr 2
    funext q
    by_cases hq : q = j.toNatClampNeg
    · subst hq
      simp [updV, zU]
    · simp [updV, zU, hq]
  · rcases List.mem_append.mp hq with hq | hq
    · exact hlo q hq
    · rw [List.mem_singleton.mp hq]; show c0 < c0 + o; omega
theorem zs_aast (hsb : sb ≤ c0) (F : zFix p s m args meth c M) (E : zEnv D cA s) {o t n v ci : Nat} {j : Int32} (hk : h.1 o = some (.inr (t, n))) (ht2 : ¬ t < 2) (ht : t < zty.length) (hci : ci < zcl.length) (htc : zty.getD t .int = .object (zC ci).1) (hv : h.1 v = some (.inl ci)) (hj : zin j n = true) (ok : decode (zbc M) pc = .ok (.aastore, 1) ∧ nx = pc + 1) (kg : zGo p l e R s m args below meth c Q sb c0 Ls n0 s0 xs D cA M nx L r ((h.1, h.2.1, zU h.2.2.1 o j.toNatClampNeg (some v), h.2.2.2))) : zGo p l e R s m args below meth c Q sb c0 Ls n0 s0 xs D cA M pc L (.inr (some v) :: .inl j :: .inr (some o) :: r) h := by
  intro H locs cells slots ls hR hl hlo hn hs
  obtain ⟨h2, rfl⟩ := ok
  have hin := zin_of hj
  have hlt : j.toNatClampNeg < n := Nat.not_le.mp fun q => hin (Or.inr q)
  have hj0 : ¬ j < 0 := fun q => hin (Or.inl q)
  obtain ⟨o1, o2⟩ := zRel_ia hR hk (fun q => by subst q; exact absurd ht (by decide))
  obtain ⟨v1, v2⟩ := zRel_in hR hv
  have hat := hR.1 o o1 o2
  rw [zCel_r hk ht2] at hat
  have hav := hR.1 v v1 v2
  rw [zCel_o hv] at hav
  show W p l e R s m args below meth c H locs cells slots Q (F0 m pc ls (.ref (zAd sb c0 v) :: .int j :: .ref (zAd sb c0 o) :: r.map (zTv sb c0)))
  rw [zAd_pos (a := o) (by omega), zAd_pos (a := v) (by omega)]
  obtain ⟨hc, -⟩ := zcl_ok hci
  obtain ⟨r', hr', cellV, g1, g2, g3, -⟩ := hav
  have hcls := (E.1.1 ci _ hc).2
  have hT := E.1.2 t _ (zTys_get ht)
  rw [htc] at hT
  obtain ⟨kA, comp, k1, k2, k3, -⟩ := hT.2
  have hcomp : comp = D.1 ci := Option.some.inj (k3.symm.trans hcls.1)
  subst hcomp
  obtain ⟨kC, hkC, -⟩ := hcls.2
  refine W.aast F.1 F.2.1 hat (fun q h => by cases h) (fun h => by cases h) k1 k2 rfl hkC ⟨hj0, by show _ < (arrV _ _ _).slots.size; rw [arrV_size]; exact hlt⟩ g1 (fun q h => by rw [g3] at h; cases h) (by rw [g2]; exact hkC) (by rw [g2]; exact va_assign hcls) rfl rfl h2 fun H1 e1 z1 oq => ?_
  refine kg H1 _ cells slots ls (zRel_upd hsb hR o1 rfl rfl rfl (fun a ha => ?_) ?_ z1 oq) hl (fun q hq => ?_) hn hs
  · unfold zCel zFs
    simp only [zU_ab _ _ _ ha]
  · rw [zCel_r (h := (h.1, h.2.1, zU h.2.2.1 o j.toNatClampNeg (some v), h.2.2.2)) hk ht2]
    show H1[c0 + o]? = some (vp_cell _ _)
    rw [e1, vp_cell_q, vp_cell_q, arrV_store]
    congr 2
    funext q
    by_cases hq : q = j.toNatClampNeg
    · subst hq
      simp [updV, zU, va_rf, zAd_pos (sb := sb) (c0 := c0) (a := v) (by omega)]
    · simp [updV, zU, hq]
  · rcases List.mem_append.mp hq with hq | hq
    · exact hlo q hq
    · rw [List.mem_singleton.mp hq]; show c0 < c0 + o; omega
theorem zs_new (hsb : sb ≤ c0) (F : zFix p s m args meth c M) (E : zEnv D cA s) {ci idx : Nat} (hci : ci < zcl.length) (hw : Cond.classLink (zow M) idx (zC ci).1 ∈ zWS ∧ Cond.instantiable (zC ci).1 (zfn ci) ∈ zWS ∧ Cond.initialized (zC ci).1 ∈ zWS) (ok : decode (zbc M) pc = .ok (.new idx, 3) ∧ nx = pc + 3) (hrm : h.2.2.2.1 + 1 ≤ n0 + R.cells ∧ h.2.2.2.2 + zfn ci ≤ s0 + R.slots)
    (kg : zGo p l e R s m args below meth c Q sb c0 Ls n0 s0 xs D cA M nx L (.inr (some h.2.2.2.1) :: st) ((va_up h.1 h.2.2.2.1 (some (.inl ci)), va_up h.2.1 h.2.2.2.1 (fun _ => 0), va_up h.2.2.1 h.2.2.2.1 (fun _ => none), h.2.2.2.1 + 1, h.2.2.2.2 + zfn ci))) : zGo p l e R s m args below meth c Q sb c0 Ls n0 s0 xs D cA M pc L st h := by
  intro H locs cells slots ls hR hl hlo hn hs
  obtain ⟨hx, hb, hml, hown, hts, hct⟩ := F
  obtain ⟨h2, rfl⟩ := ok
  obtain ⟨hc, hN, hin, hty, hnm⟩ := zcl_ok hci
  have hKn := E.1.1 ci _ hc
  have hsz := hR.2.1
  have hn1 := hR.2.2.1
  refine W.newcK hx hb hown (hts _ hw.1) (hts _ hw.2.1) (hts _ hw.2.2) rfl h2 (by omega) (by omega) hKn.2.1 rfl fun H1 kC hkC e1 z1 o1 => ?_
  have kk := kg H1 locs (cells + 1) (slots + zfn ci) ls (zRel_new hsb hR rfl (fun a ha => va_up_ne _ _ ha) (fun a ha => va_up_ne _ _ ha) (fun a ha => va_up_ne _ _ ha) ?_ z1 o1) hl hlo (by show h.2.2.2.1 + 1 = _; omega) (by show h.2.2.2.2 + zfn ci = _; omega)
  · have he : zTv sb c0 (.inr (some h.2.2.2.1)) = .ref H.size := by
      show Value.ref (zAd sb c0 h.2.2.2.1) = .ref H.size
      rw [zAd_pos (by omega), hsz]
    rw [List.map_cons, he] at kk
    exact kk
  · rw [zCel_o (ci := ci) (va_up_self _ _ _)]
    refine ⟨_, hc, (u_born (zft ci) hts hin hKn hkC e1 hty).to (fun j hj => ?_)⟩
    rw [hN] at hj
    show defaultValue (zft ci j) = (zFs _ _ _ _ _).getD j .null
    rw [List.getD_eq_getElem?_getD, zFs_get hj]
    simp only [va_up_self, Option.map_none, Option.getD_some]
    exact zft_def hci hj
theorem zs_newa (hsb : sb ≤ c0) (F : zFix p s m args meth c M) (E : zEnv D cA s) {t : Nat} {x : Int32} {ty : ArrayType} (ht : t < 2) (hty : newarray.typeOf ty = zty.getD t .int) (hw : Cond.arrayClass (newarray.typeOf ty) ∈ zWS) (hx0 : ¬ x < 0) (hx1 : x.toNatClampNeg ≤ 1000) (ok : decode (zbc M) pc = .ok (.newarray ty, 2) ∧ nx = pc + 2) (hrm : h.2.2.2.1 + 1 ≤ n0 + R.cells ∧ h.2.2.2.2 + x.toNatClampNeg ≤ s0 + R.slots)
    (kg : zGo p l e R s m args below meth c Q sb c0 Ls n0 s0 xs D cA M nx L (.inr (some h.2.2.2.1) :: r) ((va_up h.1 h.2.2.2.1 (some (.inr (t, x.toNatClampNeg))), va_up h.2.1 h.2.2.2.1 (fun _ => 0), va_up h.2.2.1 h.2.2.2.1 (fun _ => none), h.2.2.2.1 + 1, h.2.2.2.2 + x.toNatClampNeg))) : zGo p l e R s m args below meth c Q sb c0 Ls n0 s0 xs D cA M pc L (.inl x :: r) h := by
  intro H locs cells slots ls hR hl hlo hn hs
  obtain ⟨hx, hb, hml, hown, hts, hct⟩ := F
  obtain ⟨h2, rfl⟩ := ok
  have hsz := hR.2.1
  have hn1 := hR.2.2.1
  have hT := E.1.2 t _ (zTys_get (Nat.lt_of_lt_of_le ht (by decide)))
  refine va_newaK hx hb (hts _ hw) rfl h2 rfl hx0 rfl (zbytes hx1 ty) (by omega) (by omega) rfl fun H1 cA' e1 z1 o1 hAr hNm => ?_
  have hcA : cA' = cA t := by
    rw [hty] at hNm
    exact Option.some.inj (hNm.symm.trans (zRA_prim ht hT.2))
  subst hcA
  have kk := kg H1 locs (cells + 1) (slots + x.toNatClampNeg) ls (zRel_new hsb hR rfl (fun a ha => va_up_ne _ _ ha) (fun a ha => va_up_ne _ _ ha) (fun a ha => va_up_ne _ _ ha) ?_ z1 o1) hl hlo (by show h.2.2.2.1 + 1 = _; omega) (by show h.2.2.2.2 + x.toNatClampNeg = _; omega)
  · have he : zTv sb c0 (.inr (some h.2.2.2.1)) = .ref H.size := by
      show Value.ref (zAd sb c0 h.2.2.2.1) = .ref H.size
      rw [zAd_pos (by omega), hsz]
    rw [List.map_cons, he] at kk
    exact kk
  · rw [zCel_i (t := t) (n := x.toNatClampNeg) (va_up_self _ _ _) ht]
    show H1[H.size]? = some (vp_cell _ _)
    rw [e1, vp_cell_i, hty, zdef_prim ht]
    simp only [va_up_self]
theorem zs_anew (hsb : sb ≤ c0) (F : zFix p s m args meth c M) (E : zEnv D cA s) {t ci idx : Nat} {x : Int32} (ht2 : ¬ t < 2) (ht : t < zty.length) (htc : zty.getD t .int = .object (zC ci).1) (hao : (zC ci).1 ∈ zAO) (hw : Cond.classLink (zow M) idx (zC ci).1 ∈ zWS) (hx0 : ¬ x < 0) (hx1 : x.toNatClampNeg ≤ 1000) (ok : decode (zbc M) pc = .ok (.anewarray idx, 3) ∧ nx = pc + 3) (hrm : h.2.2.2.1 + 1 ≤ n0 + R.cells ∧ h.2.2.2.2 + x.toNatClampNeg ≤ s0 + R.slots)
    (kg : zGo p l e R s m args below meth c Q sb c0 Ls n0 s0 xs D cA M nx L (.inr (some h.2.2.2.1) :: r) ((va_up h.1 h.2.2.2.1 (some (.inr (t, x.toNatClampNeg))), va_up h.2.1 h.2.2.2.1 (fun _ => 0), va_up h.2.2.1 h.2.2.2.1 (fun _ => none), h.2.2.2.1 + 1, h.2.2.2.2 + x.toNatClampNeg))) : zGo p l e R s m args below meth c Q sb c0 Ls n0 s0 xs D cA M pc L (.inl x :: r) h := by
  intro H locs cells slots ls hR hl hlo hn hs
  obtain ⟨hx, hb, hml, hown, hts, hct⟩ := F
  obtain ⟨h2, rfl⟩ := ok
  have hsz := hR.2.1
  have hn1 := hR.2.2.1
  have hT := E.1.2 t _ (zTys_get ht)
  rw [htc] at hT
  obtain ⟨kA', comp', q1, q2, q3, q4⟩ := hT.2
  refine W.anew hx hb hown (hts _ hw) (va_AO.use (E.2.2 _ hao)) rfl h2 rfl hx0 (by omega) (by omega) (by omega) fun cA' kA comp f1 f2 f3 f4 => ?_
  have hcA : cA' = cA t := Option.some.inj (f1.symm.trans q4)
  subst hcA
  generalize hH1 : H.push ({ cls := cA t, slots := Array.replicate x.toNatClampNeg .null, vm := .none } : Cell) = H1
  have z1 : H1.size = H.size + 1 := by rw [← hH1, Array.size_push]
  have e1 : H1[H.size]? = some (arrV (cA t) x.toNatClampNeg (fun _ => .null)) := by rw [← hH1, Array.getElem?_push_size, ← arrV_new]
  have o1 : ∀ q : Nat, q < H.size → H1[q]? = H[q]? := fun q hq => by rw [← hH1, Array.getElem?_push, if_neg (Nat.ne_of_lt hq)]
  have kk := kg H1 locs (cells + 1) (slots + x.toNatClampNeg) ls (zRel_new hsb hR rfl (fun a ha => va_up_ne _ _ ha) (fun a ha => va_up_ne _ _ ha) (fun a ha => va_up_ne _ _ ha) ?_ z1 o1) hl hlo (by show h.2.2.2.1 + 1 = _; omega) (by show h.2.2.2.2 + x.toNatClampNeg = _; omega)
  · have he : zTv sb c0 (.inr (some h.2.2.2.1)) = .ref H.size := by
      show Value.ref (zAd sb c0 h.2.2.2.1) = .ref H.size
      rw [zAd_pos (by omega), hsz]
    rw [List.map_cons, he] at kk
    exact kk
  · rw [zCel_r (t := t) (n := x.toNatClampNeg) (va_up_self _ _ _) ht2]
    show H1[H.size]? = some (vp_cell _ _)
    rw [e1, vp_cell_q]
    simp only [va_up_self, Option.map_none]
    rfl
end ZS
end
