section
-- ===== PART A: goes FIRST, ahead of the names: the tables' words, and 'selects' of the private methods out of them =====
/-- a private method of a class that the tables say can be made, by its rows of tables_1 -/
def lw_okq (q : MethodName × Nat) : Prop := (q.1.cls ≠ "java/lang/invoke/MethodHandle" ∧ q.1.cls ≠ "java/lang/invoke/VarHandle") ∧ Cond.instantiable q.1.cls q.2 ∈ tables_1 ∧ Cond.privateMethod q.1 ∈ tables_1 ∧ Cond.instanceMethod q.1 ∈ tables_1
theorem lw_p0 : lw_okq (⟨"FourWayKernel", "addOrder", "(IIIII)I"⟩, 10) := ⟨⟨by decide +kernel, by decide +kernel⟩, List.mem_of_getElem? (i := 9) (by decide +kernel), List.mem_of_getElem? (i := 187) (by decide +kernel), List.mem_of_getElem? (i := 188) (by decide +kernel)⟩
theorem lw_p1 : lw_okq (⟨"FourWayKernel", "findTask", "(I)LFourWayKernel$Task;"⟩, 10) := ⟨⟨by decide +kernel, by decide +kernel⟩, List.mem_of_getElem? (i := 9) (by decide +kernel), List.mem_of_getElem? (i := 191) (by decide +kernel), List.mem_of_getElem? (i := 192) (by decide +kernel)⟩
theorem lw_p2 : lw_okq (⟨"FourWayKernel", "microStep", "(LFourWayKernel$Processor;)I"⟩, 10) := ⟨⟨by decide +kernel, by decide +kernel⟩, List.mem_of_getElem? (i := 9) (by decide +kernel), List.mem_of_getElem? (i := 268) (by decide +kernel), List.mem_of_getElem? (i := 269) (by decide +kernel)⟩
theorem lw_p3 : lw_okq (⟨"FourWayKernel", "answerRequest", "(LFourWayKernel$Processor;)V"⟩, 10) := ⟨⟨by decide +kernel, by decide +kernel⟩, List.mem_of_getElem? (i := 9) (by decide +kernel), List.mem_of_getElem? (i := 272) (by decide +kernel), List.mem_of_getElem? (i := 273) (by decide +kernel)⟩
theorem lw_p4 : lw_okq (⟨"FourWayKernel", "takeThread", "(LFourWayKernel$Processor;)I"⟩, 10) := ⟨⟨by decide +kernel, by decide +kernel⟩, List.mem_of_getElem? (i := 9) (by decide +kernel), List.mem_of_getElem? (i := 284) (by decide +kernel), List.mem_of_getElem? (i := 285) (by decide +kernel)⟩
theorem lw_p5 : lw_okq (⟨"FourWayKernel", "longestQueue", "()LFourWayKernel$Line;"⟩, 10) := ⟨⟨by decide +kernel, by decide +kernel⟩, List.mem_of_getElem? (i := 9) (by decide +kernel), List.mem_of_getElem? (i := 288) (by decide +kernel), List.mem_of_getElem? (i := 289) (by decide +kernel)⟩
theorem lw_p6 : lw_okq (⟨"FourWayKernel", "makePhase", "(LFourWayKernel$Task;LFourWayKernel$Order;LFourWayKernel$Processor;)Z"⟩, 10) := ⟨⟨by decide +kernel, by decide +kernel⟩, List.mem_of_getElem? (i := 9) (by decide +kernel), List.mem_of_getElem? (i := 296) (by decide +kernel), List.mem_of_getElem? (i := 297) (by decide +kernel)⟩
theorem lw_p7 : lw_okq (⟨"FourWayKernel", "lookIntoBuffer", "(LFourWayKernel$Task;LFourWayKernel$Order;LFourWayKernel$Processor;)Z"⟩, 10) := ⟨⟨by decide +kernel, by decide +kernel⟩, List.mem_of_getElem? (i := 9) (by decide +kernel), List.mem_of_getElem? (i := 300) (by decide +kernel), List.mem_of_getElem? (i := 301) (by decide +kernel)⟩
theorem lw_p8 : lw_okq (⟨"FourWayKernel", "lookIntoTop", "(LFourWayKernel$Task;LFourWayKernel$Order;)Z"⟩, 10) := ⟨⟨by decide +kernel, by decide +kernel⟩, List.mem_of_getElem? (i := 9) (by decide +kernel), List.mem_of_getElem? (i := 314) (by decide +kernel), List.mem_of_getElem? (i := 315) (by decide +kernel)⟩
theorem lw_p9 : lw_okq (⟨"FourWayKernel", "lookIntoLeaf", "(LFourWayKernel$Task;LFourWayKernel$Order;LFourWayKernel$Processor;)Z"⟩, 10) := ⟨⟨by decide +kernel, by decide +kernel⟩, List.mem_of_getElem? (i := 9) (by decide +kernel), List.mem_of_getElem? (i := 318) (by decide +kernel), List.mem_of_getElem? (i := 319) (by decide +kernel)⟩
theorem lw_p10 : lw_okq (⟨"FourWayKernel", "drawTicket", "(LFourWayKernel$Task;)V"⟩, 10) := ⟨⟨by decide +kernel, by decide +kernel⟩, List.mem_of_getElem? (i := 9) (by decide +kernel), List.mem_of_getElem? (i := 327) (by decide +kernel), List.mem_of_getElem? (i := 328) (by decide +kernel)⟩
theorem lw_p11 : lw_okq (⟨"FourWayKernel", "waitForLock", "(LFourWayKernel$Task;LFourWayKernel$Order;)V"⟩, 10) := ⟨⟨by decide +kernel, by decide +kernel⟩, List.mem_of_getElem? (i := 9) (by decide +kernel), List.mem_of_getElem? (i := 331) (by decide +kernel), List.mem_of_getElem? (i := 332) (by decide +kernel)⟩
theorem lw_p12 : lw_okq (⟨"FourWayKernel", "checkMap", "(LFourWayKernel$Task;LFourWayKernel$Order;LFourWayKernel$Processor;)V"⟩, 10) := ⟨⟨by decide +kernel, by decide +kernel⟩, List.mem_of_getElem? (i := 9) (by decide +kernel), List.mem_of_getElem? (i := 335) (by decide +kernel), List.mem_of_getElem? (i := 336) (by decide +kernel)⟩
theorem lw_p13 : lw_okq (⟨"FourWayKernel", "isUnmapped", "(II)Z"⟩, 10) := ⟨⟨by decide +kernel, by decide +kernel⟩, List.mem_of_getElem? (i := 9) (by decide +kernel), List.mem_of_getElem? (i := 339) (by decide +kernel), List.mem_of_getElem? (i := 340) (by decide +kernel)⟩
theorem lw_p14 : lw_okq (⟨"FourWayKernel", "changePage", "(LFourWayKernel$Task;LFourWayKernel$Order;LFourWayKernel$Processor;)V"⟩, 10) := ⟨⟨by decide +kernel, by decide +kernel⟩, List.mem_of_getElem? (i := 9) (by decide +kernel), List.mem_of_getElem? (i := 343) (by decide +kernel), List.mem_of_getElem? (i := 344) (by decide +kernel)⟩
theorem lw_p15 : lw_okq (⟨"FourWayKernel", "mapPage", "(IILFourWayKernel$Processor;)Z"⟩, 10) := ⟨⟨by decide +kernel, by decide +kernel⟩, List.mem_of_getElem? (i := 9) (by decide +kernel), List.mem_of_getElem? (i := 347) (by decide +kernel), List.mem_of_getElem? (i := 348) (by decide +kernel)⟩
def lw_privs_1 : List (MethodName × Nat) := [(⟨"FourWayKernel", "addOrder", "(IIIII)I"⟩, 10), (⟨"FourWayKernel", "findTask", "(I)LFourWayKernel$Task;"⟩, 10), (⟨"FourWayKernel", "microStep", "(LFourWayKernel$Processor;)I"⟩, 10), (⟨"FourWayKernel", "answerRequest", "(LFourWayKernel$Processor;)V"⟩, 10), (⟨"FourWayKernel", "takeThread", "(LFourWayKernel$Processor;)I"⟩, 10), (⟨"FourWayKernel", "longestQueue", "()LFourWayKernel$Line;"⟩, 10), (⟨"FourWayKernel", "makePhase", "(LFourWayKernel$Task;LFourWayKernel$Order;LFourWayKernel$Processor;)Z"⟩, 10), (⟨"FourWayKernel", "lookIntoBuffer", "(LFourWayKernel$Task;LFourWayKernel$Order;LFourWayKernel$Processor;)Z"⟩, 10), (⟨"FourWayKernel", "lookIntoTop", "(LFourWayKernel$Task;LFourWayKernel$Order;)Z"⟩, 10), (⟨"FourWayKernel", "lookIntoLeaf", "(LFourWayKernel$Task;LFourWayKernel$Order;LFourWayKernel$Processor;)Z"⟩, 10), (⟨"FourWayKernel", "drawTicket", "(LFourWayKernel$Task;)V"⟩, 10), (⟨"FourWayKernel", "waitForLock", "(LFourWayKernel$Task;LFourWayKernel$Order;)V"⟩, 10), (⟨"FourWayKernel", "checkMap", "(LFourWayKernel$Task;LFourWayKernel$Order;LFourWayKernel$Processor;)V"⟩, 10), (⟨"FourWayKernel", "isUnmapped", "(II)Z"⟩, 10), (⟨"FourWayKernel", "changePage", "(LFourWayKernel$Task;LFourWayKernel$Order;LFourWayKernel$Processor;)V"⟩, 10), (⟨"FourWayKernel", "mapPage", "(IILFourWayKernel$Processor;)Z"⟩, 10)]
theorem lw_r1 : ∀ q ∈ lw_privs_1, lw_okq q := List.forall_mem_cons.mpr ⟨lw_p0, List.forall_mem_cons.mpr ⟨lw_p1, List.forall_mem_cons.mpr ⟨lw_p2, List.forall_mem_cons.mpr ⟨lw_p3, List.forall_mem_cons.mpr ⟨lw_p4, List.forall_mem_cons.mpr ⟨lw_p5, List.forall_mem_cons.mpr ⟨lw_p6, List.forall_mem_cons.mpr ⟨lw_p7, List.forall_mem_cons.mpr ⟨lw_p8, List.forall_mem_cons.mpr ⟨lw_p9, List.forall_mem_cons.mpr ⟨lw_p10, List.forall_mem_cons.mpr ⟨lw_p11, List.forall_mem_cons.mpr ⟨lw_p12, List.forall_mem_cons.mpr ⟨lw_p13, List.forall_mem_cons.mpr ⟨lw_p14, List.forall_mem_cons.mpr ⟨lw_p15, fun _ h => absurd h List.not_mem_nil⟩⟩⟩⟩⟩⟩⟩⟩⟩⟩⟩⟩⟩⟩⟩⟩
theorem lw_p16 : lw_okq (⟨"FourWayKernel", "unmapPage", "(ILFourWayKernel$Task;)Z"⟩, 10) := ⟨⟨by decide +kernel, by decide +kernel⟩, List.mem_of_getElem? (i := 9) (by decide +kernel), List.mem_of_getElem? (i := 351) (by decide +kernel), List.mem_of_getElem? (i := 352) (by decide +kernel)⟩
theorem lw_p17 : lw_okq (⟨"FourWayKernel", "protectPage", "(I)Z"⟩, 10) := ⟨⟨by decide +kernel, by decide +kernel⟩, List.mem_of_getElem? (i := 9) (by decide +kernel), List.mem_of_getElem? (i := 355) (by decide +kernel), List.mem_of_getElem? (i := 356) (by decide +kernel)⟩
theorem lw_p18 : lw_okq (⟨"FourWayKernel", "sendRequest", "(LFourWayKernel$Task;LFourWayKernel$Order;LFourWayKernel$Processor;)V"⟩, 10) := ⟨⟨by decide +kernel, by decide +kernel⟩, List.mem_of_getElem? (i := 9) (by decide +kernel), List.mem_of_getElem? (i := 360) (by decide +kernel), List.mem_of_getElem? (i := 361) (by decide +kernel)⟩
theorem lw_p19 : lw_okq (⟨"FourWayKernel", "awaitAnswers", "(LFourWayKernel$Task;LFourWayKernel$Order;)V"⟩, 10) := ⟨⟨by decide +kernel, by decide +kernel⟩, List.mem_of_getElem? (i := 9) (by decide +kernel), List.mem_of_getElem? (i := 364) (by decide +kernel), List.mem_of_getElem? (i := 365) (by decide +kernel)⟩
theorem lw_p20 : lw_okq (⟨"FourWayKernel", "releaseFrame", "(LFourWayKernel$Task;LFourWayKernel$Processor;)V"⟩, 10) := ⟨⟨by decide +kernel, by decide +kernel⟩, List.mem_of_getElem? (i := 9) (by decide +kernel), List.mem_of_getElem? (i := 368) (by decide +kernel), List.mem_of_getElem? (i := 369) (by decide +kernel)⟩
theorem lw_p21 : lw_okq (⟨"FourWayKernel", "finishOrder", "(LFourWayKernel$Task;LFourWayKernel$Order;LFourWayKernel$Processor;)V"⟩, 10) := ⟨⟨by decide +kernel, by decide +kernel⟩, List.mem_of_getElem? (i := 9) (by decide +kernel), List.mem_of_getElem? (i := 372) (by decide +kernel), List.mem_of_getElem? (i := 373) (by decide +kernel)⟩
theorem lw_p22 : lw_okq (⟨"FourWayKernelModel", "order", "(IIIII)I"⟩, 34) := ⟨⟨by decide +kernel, by decide +kernel⟩, List.mem_of_getElem? (i := 433) (by decide +kernel), List.mem_of_getElem? (i := 556) (by decide +kernel), List.mem_of_getElem? (i := 557) (by decide +kernel)⟩
theorem lw_p23 : lw_okq (⟨"FourWayKernelModel", "tick", "()I"⟩, 34) := ⟨⟨by decide +kernel, by decide +kernel⟩, List.mem_of_getElem? (i := 433) (by decide +kernel), List.mem_of_getElem? (i := 560) (by decide +kernel), List.mem_of_getElem? (i := 561) (by decide +kernel)⟩
theorem lw_p24 : lw_okq (⟨"FourWayKernelModel", "begin", "(I)V"⟩, 34) := ⟨⟨by decide +kernel, by decide +kernel⟩, List.mem_of_getElem? (i := 433) (by decide +kernel), List.mem_of_getElem? (i := 564) (by decide +kernel), List.mem_of_getElem? (i := 565) (by decide +kernel)⟩
theorem lw_p25 : lw_okq (⟨"FourWayKernelModel", "forget", "(II)V"⟩, 34) := ⟨⟨by decide +kernel, by decide +kernel⟩, List.mem_of_getElem? (i := 433) (by decide +kernel), List.mem_of_getElem? (i := 595) (by decide +kernel), List.mem_of_getElem? (i := 596) (by decide +kernel)⟩
theorem lw_p26 : lw_okq (⟨"FourWayKernelModel", "currentOf", "(I)I"⟩, 34) := ⟨⟨by decide +kernel, by decide +kernel⟩, List.mem_of_getElem? (i := 433) (by decide +kernel), List.mem_of_getElem? (i := 599) (by decide +kernel), List.mem_of_getElem? (i := 600) (by decide +kernel)⟩
theorem lw_p27 : lw_okq (⟨"FourWayKernelModel", "act", "(II)I"⟩, 34) := ⟨⟨by decide +kernel, by decide +kernel⟩, List.mem_of_getElem? (i := 433) (by decide +kernel), List.mem_of_getElem? (i := 603) (by decide +kernel), List.mem_of_getElem? (i := 604) (by decide +kernel)⟩
theorem lw_p28 : lw_okq (⟨"FourWayKernelModel", "access", "(III)Z"⟩, 34) := ⟨⟨by decide +kernel, by decide +kernel⟩, List.mem_of_getElem? (i := 433) (by decide +kernel), List.mem_of_getElem? (i := 607) (by decide +kernel), List.mem_of_getElem? (i := 608) (by decide +kernel)⟩
theorem lw_p29 : lw_okq (⟨"FourWayKernelModel", "end", "(II)Z"⟩, 34) := ⟨⟨by decide +kernel, by decide +kernel⟩, List.mem_of_getElem? (i := 433) (by decide +kernel), List.mem_of_getElem? (i := 611) (by decide +kernel), List.mem_of_getElem? (i := 612) (by decide +kernel)⟩
theorem lw_p30 : lw_okq (⟨"FourWayKernelModel", "know", "(II)V"⟩, 34) := ⟨⟨by decide +kernel, by decide +kernel⟩, List.mem_of_getElem? (i := 433) (by decide +kernel), List.mem_of_getElem? (i := 615) (by decide +kernel), List.mem_of_getElem? (i := 616) (by decide +kernel)⟩
theorem lw_p31 : lw_okq (⟨"FourWayKernelModel", "change", "(III)Z"⟩, 34) := ⟨⟨by decide +kernel, by decide +kernel⟩, List.mem_of_getElem? (i := 433) (by decide +kernel), List.mem_of_getElem? (i := 619) (by decide +kernel), List.mem_of_getElem? (i := 620) (by decide +kernel)⟩
def lw_privs_2 : List (MethodName × Nat) := [(⟨"FourWayKernel", "unmapPage", "(ILFourWayKernel$Task;)Z"⟩, 10), (⟨"FourWayKernel", "protectPage", "(I)Z"⟩, 10), (⟨"FourWayKernel", "sendRequest", "(LFourWayKernel$Task;LFourWayKernel$Order;LFourWayKernel$Processor;)V"⟩, 10), (⟨"FourWayKernel", "awaitAnswers", "(LFourWayKernel$Task;LFourWayKernel$Order;)V"⟩, 10), (⟨"FourWayKernel", "releaseFrame", "(LFourWayKernel$Task;LFourWayKernel$Processor;)V"⟩, 10), (⟨"FourWayKernel", "finishOrder", "(LFourWayKernel$Task;LFourWayKernel$Order;LFourWayKernel$Processor;)V"⟩, 10), (⟨"FourWayKernelModel", "order", "(IIIII)I"⟩, 34), (⟨"FourWayKernelModel", "tick", "()I"⟩, 34), (⟨"FourWayKernelModel", "begin", "(I)V"⟩, 34), (⟨"FourWayKernelModel", "forget", "(II)V"⟩, 34), (⟨"FourWayKernelModel", "currentOf", "(I)I"⟩, 34), (⟨"FourWayKernelModel", "act", "(II)I"⟩, 34), (⟨"FourWayKernelModel", "access", "(III)Z"⟩, 34), (⟨"FourWayKernelModel", "end", "(II)Z"⟩, 34), (⟨"FourWayKernelModel", "know", "(II)V"⟩, 34), (⟨"FourWayKernelModel", "change", "(III)Z"⟩, 34)]
theorem lw_r2 : ∀ q ∈ lw_privs_2, lw_okq q := List.forall_mem_cons.mpr ⟨lw_p16, List.forall_mem_cons.mpr ⟨lw_p17, List.forall_mem_cons.mpr ⟨lw_p18, List.forall_mem_cons.mpr ⟨lw_p19, List.forall_mem_cons.mpr ⟨lw_p20, List.forall_mem_cons.mpr ⟨lw_p21, List.forall_mem_cons.mpr ⟨lw_p22, List.forall_mem_cons.mpr ⟨lw_p23, List.forall_mem_cons.mpr ⟨lw_p24, List.forall_mem_cons.mpr ⟨lw_p25, List.forall_mem_cons.mpr ⟨lw_p26, List.forall_mem_cons.mpr ⟨lw_p27, List.forall_mem_cons.mpr ⟨lw_p28, List.forall_mem_cons.mpr ⟨lw_p29, List.forall_mem_cons.mpr ⟨lw_p30, List.forall_mem_cons.mpr ⟨lw_p31, fun _ h => absurd h List.not_mem_nil⟩⟩⟩⟩⟩⟩⟩⟩⟩⟩⟩⟩⟩⟩⟩⟩
theorem lw_p32 : lw_okq (⟨"FourWayKernelModel", "some", "(I)Z"⟩, 34) := ⟨⟨by decide +kernel, by decide +kernel⟩, List.mem_of_getElem? (i := 433) (by decide +kernel), List.mem_of_getElem? (i := 623) (by decide +kernel), List.mem_of_getElem? (i := 624) (by decide +kernel)⟩
theorem lw_p33 : lw_okq (⟨"FourWayKernelModel", "framesAt", "(I)I"⟩, 34) := ⟨⟨by decide +kernel, by decide +kernel⟩, List.mem_of_getElem? (i := 433) (by decide +kernel), List.mem_of_getElem? (i := 627) (by decide +kernel), List.mem_of_getElem? (i := 628) (by decide +kernel)⟩
theorem lw_p34 : lw_okq (⟨"FourWayKernelModel", "changed", "(IIII)Z"⟩, 34) := ⟨⟨by decide +kernel, by decide +kernel⟩, List.mem_of_getElem? (i := 433) (by decide +kernel), List.mem_of_getElem? (i := 631) (by decide +kernel), List.mem_of_getElem? (i := 632) (by decide +kernel)⟩
theorem lw_p35 : lw_okq (⟨"FourWayKernelModel", "frameFor", "(I)I"⟩, 34) := ⟨⟨by decide +kernel, by decide +kernel⟩, List.mem_of_getElem? (i := 433) (by decide +kernel), List.mem_of_getElem? (i := 635) (by decide +kernel), List.mem_of_getElem? (i := 636) (by decide +kernel)⟩
theorem lw_p36 : lw_okq (⟨"FourWayKernelModel", "shoot", "(III)Z"⟩, 34) := ⟨⟨by decide +kernel, by decide +kernel⟩, List.mem_of_getElem? (i := 433) (by decide +kernel), List.mem_of_getElem? (i := 639) (by decide +kernel), List.mem_of_getElem? (i := 640) (by decide +kernel)⟩
theorem lw_p37 : lw_okq (⟨"FourWayKernelModel", "lengthOf", "(I)I"⟩, 34) := ⟨⟨by decide +kernel, by decide +kernel⟩, List.mem_of_getElem? (i := 433) (by decide +kernel), List.mem_of_getElem? (i := 643) (by decide +kernel), List.mem_of_getElem? (i := 644) (by decide +kernel)⟩
theorem lw_p38 : lw_okq (⟨"FourWayKernelModel", "at", "(II)I"⟩, 34) := ⟨⟨by decide +kernel, by decide +kernel⟩, List.mem_of_getElem? (i := 433) (by decide +kernel), List.mem_of_getElem? (i := 647) (by decide +kernel), List.mem_of_getElem? (i := 648) (by decide +kernel)⟩
theorem lw_p39 : lw_okq (⟨"FourWayKernelModel", "ahead", "(II)I"⟩, 34) := ⟨⟨by decide +kernel, by decide +kernel⟩, List.mem_of_getElem? (i := 433) (by decide +kernel), List.mem_of_getElem? (i := 651) (by decide +kernel), List.mem_of_getElem? (i := 652) (by decide +kernel)⟩
theorem lw_p40 : lw_okq (⟨"FourWayKernelModel", "run1", "(II)V"⟩, 34) := ⟨⟨by decide +kernel, by decide +kernel⟩, List.mem_of_getElem? (i := 433) (by decide +kernel), List.mem_of_getElem? (i := 655) (by decide +kernel), List.mem_of_getElem? (i := 656) (by decide +kernel)⟩
theorem lw_p41 : lw_okq (⟨"FourWayKernelModel", "longest", "()I"⟩, 34) := ⟨⟨by decide +kernel, by decide +kernel⟩, List.mem_of_getElem? (i := 433) (by decide +kernel), List.mem_of_getElem? (i := 659) (by decide +kernel), List.mem_of_getElem? (i := 660) (by decide +kernel)⟩
def lw_privs_3 : List (MethodName × Nat) := [(⟨"FourWayKernelModel", "some", "(I)Z"⟩, 34), (⟨"FourWayKernelModel", "framesAt", "(I)I"⟩, 34), (⟨"FourWayKernelModel", "changed", "(IIII)Z"⟩, 34), (⟨"FourWayKernelModel", "frameFor", "(I)I"⟩, 34), (⟨"FourWayKernelModel", "shoot", "(III)Z"⟩, 34), (⟨"FourWayKernelModel", "lengthOf", "(I)I"⟩, 34), (⟨"FourWayKernelModel", "at", "(II)I"⟩, 34), (⟨"FourWayKernelModel", "ahead", "(II)I"⟩, 34), (⟨"FourWayKernelModel", "run1", "(II)V"⟩, 34), (⟨"FourWayKernelModel", "longest", "()I"⟩, 34)]
theorem lw_r3 : ∀ q ∈ lw_privs_3, lw_okq q := List.forall_mem_cons.mpr ⟨lw_p32, List.forall_mem_cons.mpr ⟨lw_p33, List.forall_mem_cons.mpr ⟨lw_p34, List.forall_mem_cons.mpr ⟨lw_p35, List.forall_mem_cons.mpr ⟨lw_p36, List.forall_mem_cons.mpr ⟨lw_p37, List.forall_mem_cons.mpr ⟨lw_p38, List.forall_mem_cons.mpr ⟨lw_p39, List.forall_mem_cons.mpr ⟨lw_p40, List.forall_mem_cons.mpr ⟨lw_p41, fun _ h => absurd h List.not_mem_nil⟩⟩⟩⟩⟩⟩⟩⟩⟩⟩
def lw_privs : List (MethodName × Nat) := lw_privs_1 ++ (lw_privs_2 ++ (lw_privs_3))
def lw_tbl : List Cond := k2_sels lw_privs ++ tables_1
theorem lw_privs_ok : ∀ q ∈ lw_privs, lw_okq q := by
  show ∀ q ∈ lw_privs_1 ++ (lw_privs_2 ++ (lw_privs_3)), lw_okq q
  exact List.forall_mem_append.mpr ⟨lw_r1, List.forall_mem_append.mpr ⟨lw_r2, lw_r3⟩⟩
end
section
/-! A small machine of its own: values, heap, instructions by number, runs with fuel and depth.
Addresses are counted from the law's start: 0 is the script, 1, 2 .. are the cells in the order in which they are made. -/
abbrev ZV : Type := Int32 ⊕ Option Nat
abbrev ZK : Type := Nat ⊕ (Nat × Nat)
abbrev ZH : Type := (Nat → Option ZK) × (Nat → Nat → Int32) × (Nat → Nat → Option Nat) × Nat × Nat
abbrev ZL : Type := List (Nat × ZV)
abbrev ZI : Type := Nat × Nat × Nat × Int × List Nat
/-- one place of a two-place store -/
def zU {α : Type} (I : Nat → Nat → α) (a k : Nat) (x : α) : Nat → Nat → α := fun b j => if b = a then (if j = k then x else I a j) else I b j
theorem zU_s {α : Type} (I : Nat → Nat → α) (a k : Nat) (x : α) : zU I a k x a k = x := by simp [zU]
theorem zU_k {α : Type} (I : Nat → Nat → α) (a : Nat) {k j : Nat} (x : α) (h : j ≠ k) : zU I a k x a j = I a j := by simp [zU, h]
theorem zU_ab {α : Type} (I : Nat → Nat → α) {a b : Nat} (k : Nat) (x : α) (h : b ≠ a) : zU I a k x b = I b := by funext j; simp [zU, h]
theorem zU_aa (I : Nat → Nat → Int32) (a k : Nat) (x : Int32) : zU I a k x a = upd (I a) k x := by funext j; simp [zU, upd]
theorem zU_ao {α : Type} (I : Nat → Nat → α) (a k : Nat) (x : α) : zU I a k x a = va_up (I a) k x := by funext j; simp [zU, va_up]
def zget (L : ZL) (i : Nat) : Option ZV := (L.find? (fun q => q.1 == i)).map (fun q => q.2)
def zset : ZL → Nat → ZV → ZL
  | [], i, v => [(i, v)]
  | (j, u) :: L, i, v => if j = i then (i, v) :: L else (j, u) :: zset L i v
def zen : Nat → List ZV → ZL
  | _, [] => []
  | k, v :: r => (k, v) :: zen (k + 1) r
def zar (b : Nat) (x y : Int32) : Option Int32 :=
  if b = 0 then some (x + y) else if b = 1 then some (x - y) else if b = 2 then some (x * y)
  else if b = 3 then (if y = 0 then none else some (x / y)) else if b = 4 then some (x &&& y)
  else if b = 5 then some (x >>> (y &&& 31)) else if b = 6 then some ((x.toUInt32 >>> (y.toUInt32 &&& Int32.toUInt32 31)).toInt32) else none
/-- the compares: eq ne lt ge gt le -/
def zcp (b : Nat) (x y : Int32) : Bool :=
  if b = 0 then decide (x = y) else if b = 1 then decide (¬ x = y) else if b = 2 then decide (x < y) else if b = 3 then decide (y ≤ x) else if b = 4 then decide (y < x) else decide (x ≤ y)
def zin (i : Int32) (n : Nat) : Bool := decide (¬ (i < 0 ∨ n ≤ i.toNatClampNeg))
/-- one instruction that is no call and no return: (number, a, b, c, list), the pc behind it, locals, stack, heap -/
def zst (N : Nat → Nat) (i : ZI) (nx : Nat) (L : ZL) (st : List ZV) (h : ZH) : Option (Nat × ZL × List ZV × ZH) :=
  if i.1 = 0 then some (nx, L, .inl (Int32.ofInt i.2.2.2.1) :: st, h)
  else if i.1 = 1 then (match zget L i.2.1 with | some (.inl x) => some (nx, L, .inl x :: st, h) | _ => none)
  else if i.1 = 2 then (match zget L i.2.1 with | some (.inr x) => some (nx, L, .inr x :: st, h) | _ => none)
  else if i.1 = 3 then (match st with | .inl x :: r => some (nx, zset L i.2.1 (.inl x), r, h) | _ => none)
  else if i.1 = 4 then (match st with | .inr x :: r => some (nx, zset L i.2.1 (.inr x), r, h) | _ => none)
  else if i.1 = 5 then (match zget L i.2.1 with | some (.inl x) => some (nx, zset L i.2.1 (.inl (x + Int32.ofInt i.2.2.2.1)), st, h) | _ => none)
  else if i.1 = 6 then (match st with | .inl y :: .inl x :: r => (match zar i.2.2.1 x y with | some v => some (nx, L, .inl v :: r, h) | none => none) | _ => none)
  else if i.1 = 7 then (match st with | v :: r => some (nx, L, v :: v :: r, h) | _ => none)
  else if i.1 = 8 then (match st with | v :: w :: r => some (nx, L, v :: w :: v :: w :: r, h) | _ => none)
  else if i.1 = 9 then (match st with | v :: w :: r => some (nx, L, v :: w :: v :: r, h) | _ => none)
  else if i.1 = 10 then (match st with | _ :: r => some (nx, L, r, h) | _ => none)
  else if i.1 = 11 then (match st with | .inl y :: .inl x :: r => some (if zcp i.2.2.1 x y = true then i.2.1 else nx, L, r, h) | _ => none)
  else if i.1 = 12 then (match st with | .inl x :: r => some (if zcp i.2.2.1 x 0 = true then i.2.1 else nx, L, r, h) | _ => none)
  else if i.1 = 13 then some (i.2.1, L, st, h)
  else if i.1 = 14 then (match st with | .inr none :: r => some (i.2.1, L, r, h) | .inr (some _) :: r => some (nx, L, r, h) | _ => none)
  else if i.1 = 15 then (match st with | .inr none :: r => some (nx, L, r, h) | .inr (some _) :: r => some (i.2.1, L, r, h) | _ => none)
  else if i.1 = 16 then (match st with | .inl x :: r => (if x.toInt < i.2.2.2.1 then some (i.2.1, L, r, h) else match i.2.2.2.2[(x.toInt - i.2.2.2.1).toNat]? with | some t => some (t, L, r, h) | none => some (i.2.1, L, r, h)) | _ => none)
  else if i.1 = 17 then some (nx, L, .inr none :: st, h)
  else if i.1 = 20 then (match st with | .inr (some o) :: r => (if h.1 o = some (.inl i.2.1) then some (nx, L, .inl (h.2.1 o i.2.2.1) :: r, h) else none) | _ => none)
  else if i.1 = 21 then (match st with | .inr (some o) :: r => (if h.1 o = some (.inl i.2.1) then some (nx, L, .inr (h.2.2.1 o i.2.2.1) :: r, h) else none) | _ => none)
  else if i.1 = 22 then (match st with | .inl x :: .inr (some o) :: r => (if h.1 o = some (.inl i.2.1) then some (nx, L, r, (h.1, zU h.2.1 o i.2.2.1 x, h.2.2)) else none) | _ => none)
  else if i.1 = 23 then (match st with | .inr x :: .inr (some o) :: r => (if h.1 o = some (.inl i.2.1) then some (nx, L, r, (h.1, h.2.1, zU h.2.2.1 o i.2.2.1 x, h.2.2.2)) else none) | _ => none)
  else if i.1 = 24 then (match st with | .inl j :: .inr (some o) :: r => (match h.1 o with | some (.inr (t, n)) => (if (t = 0 ∨ (t = 9 ∧ o = 0)) ∧ zin j n = true then some (nx, L, .inl (h.2.1 o j.toNatClampNeg) :: r, h) else none) | _ => none) | _ => none)
  else if i.1 = 25 then (match st with | .inl x :: .inl j :: .inr (some o) :: r => (match h.1 o with | some (.inr (t, n)) => (if t = 0 ∧ zin j n = true then some (nx, L, r, (h.1, zU h.2.1 o j.toNatClampNeg x, h.2.2)) else none) | _ => none) | _ => none)
  else if i.1 = 26 then (match st with | .inl j :: .inr (some o) :: r => (match h.1 o with | some (.inr (t, n)) => (if t = 1 ∧ zin j n = true then some (nx, L, .inl (h.2.1 o j.toNatClampNeg) :: r, h) else none) | _ => none) | _ => none)
  else if i.1 = 27 then (match st with | .inl x :: .inl j :: .inr (some o) :: r => (match h.1 o with | some (.inr (t, n)) => (if t = 1 ∧ zin j n = true ∧ (x = 0 ∨ x = 1) then some (nx, L, r, (h.1, zU h.2.1 o j.toNatClampNeg x, h.2.2)) else none) | _ => none) | _ => none)
  else if i.1 = 28 then (match st with | .inl j :: .inr (some o) :: r => (match h.1 o with | some (.inr (t, n)) => (if t = i.2.1 ∧ zin j n = true then some (nx, L, .inr (h.2.2.1 o j.toNatClampNeg) :: r, h) else none) | _ => none) | _ => none)
  else if i.1 = 29 then (match st with | .inr (some v) :: .inl j :: .inr (some o) :: r => (match h.1 o with | some (.inr (t, n)) => (if t = i.2.1 ∧ zin j n = true ∧ h.1 v = some (.inl i.2.2.1) then some (nx, L, r, (h.1, h.2.1, zU h.2.2.1 o j.toNatClampNeg (some v), h.2.2.2)) else none) | _ => none) | _ => none)
  else if i.1 = 30 then (match st with | .inr (some o) :: r => (match h.1 o with | some (.inr (t, n)) => (if t < 5 ∨ (t = 9 ∧ o = 0) then some (nx, L, .inl (Int32.ofNat n) :: r, h) else none) | _ => none) | _ => none)
  else if i.1 = 31 then some (nx, L, .inr (some h.2.2.2.1) :: st, (va_up h.1 h.2.2.2.1 (some (.inl i.2.1)), va_up h.2.1 h.2.2.2.1 (fun _ => 0), va_up h.2.2.1 h.2.2.2.1 (fun _ => none), h.2.2.2.1 + 1, h.2.2.2.2 + N i.2.1))
  else if i.1 = 32 then (match st with | .inl x :: r => (if ¬ x < 0 ∧ x.toNatClampNeg ≤ 1000 then some (nx, L, .inr (some h.2.2.2.1) :: r, (va_up h.1 h.2.2.2.1 (some (.inr (i.2.1, x.toNatClampNeg))), va_up h.2.1 h.2.2.2.1 (fun _ => 0), va_up h.2.2.1 h.2.2.2.1 (fun _ => none), h.2.2.2.1 + 1, h.2.2.2.2 + x.toNatClampNeg)) else none) | _ => none)
  else none
/-- the receiver of a call, [kind, class]: none at a static one (kind 0); else an object of the method's class -/
def zcb (k : List Nat) (as : List ZV) (h : ZH) : Bool := match k with
  | [0, _] => true
  | [_, c] => (match as with | .inr (some o) :: _ => decide (h.1 o = some (.inl c)) | _ => false)
  | _ => false
abbrev ZR : Type := Nat → Nat → Nat → ZL → List ZV → ZH → Option (Option ZV × ZH)
/-- one instruction and what follows by rec -/
def zb (N : Nat → Nat) (rec : ZR) (q : Option (ZI × Nat)) (d M : Nat) (L : ZL) (st : List ZV) (h : ZH) : Option (Option ZV × ZH) :=
  match q with
  | none => none
  | some (i, nx) =>
    if i.1 = 40 then
      (match d with
      | 0 => none
      | d' + 1 =>
        if i.2.2.1 ≤ st.length ∧ (st.drop i.2.2.1).length ≤ 8 ∧ zcb i.2.2.2.2 (st.take i.2.2.1).reverse h = true then
          (match rec d' i.2.1 0 (zen 0 (st.take i.2.2.1).reverse) [] h with
          | none => none
          | some (r, h1) => rec (d' + 1) M nx L (r.toList ++ st.drop i.2.2.1) h1)
        else none)
    else if i.1 = 41 then
      (match d with
      | 0 => none
      | d' + 1 => (match st with | .inr (some _) :: r => (if r.length ≤ 8 then rec (d' + 1) M nx L r h else none) | _ => none))
    else if i.1 = 50 then (match st with | [] => some (none, h) | _ => none)
    else if i.1 = 51 then (match st with | [.inl x] => (if i.2.2.1 = 0 ∨ x = 0 ∨ x = 1 then some (some (.inl x), h) else none) | _ => none)
    else if i.1 = 52 then (match st with | [.inr x] => some (some (.inr x), h) | _ => none)
    else match zst N i nx L st h with
      | none => none
      | some q => rec d M q.1 q.2.1 q.2.2.1 q.2.2.2
/-- a run: fuel, depth, method, pc, locals, stack, heap; cd: the code, N: how many fields a class has -/
def zev (cd : Nat → Nat → Option (ZI × Nat)) (N : Nat → Nat) : Nat → ZR
  | 0 => fun _ _ _ _ _ _ => none
  | n + 1 => fun d M pc L st h => zb N (zev cd N n) (cd M pc) d M L st h
section ZT
variable {cd : Nat → Nat → Option (ZI × Nat)} {N : Nat → Nat}
/-- what 'rec' answers, 'rec2' answers too: then one instruction more, too -/
theorem zb_mono {rec rec2 : ZR} (hr : ∀ d M pc L st h x, rec d M pc L st h = some x → rec2 d M pc L st h = some x) {q : Option (ZI × Nat)} {d M : Nat} {L : ZL} {st : List ZV} {h : ZH} {x : Option ZV × ZH} (e : zb N rec q d M L st h = some x) : zb N rec2 q d M L st h = some x := by
  unfold zb at e ⊢
  cases q with
  | none => cases e
  | some q =>
    obtain ⟨i, nx⟩ := q
    dsimp only at e ⊢
    by_cases h40 : i.1 = 40
    · rw [if_pos h40] at e ⊢
      cases d with
      | zero => cases e
      | succ d' =>
        dsimp only at e ⊢
        by_cases hc : i.2.2.1 ≤ st.length ∧ (st.drop i.2.2.1).length ≤ 8 ∧ zcb i.2.2.2.2 (st.take i.2.2.1).reverse h = true
        · rw [if_pos hc] at e ⊢
          cases hq : rec d' i.2.1 0 (zen 0 (st.take i.2.2.1).reverse) [] h with
          | none => rw [hq] at e; cases e
          | some y =>
            rw [hq] at e
            rw [hr _ _ _ _ _ _ _ hq]
            exact hr _ _ _ _ _ _ _ e
        · rw [if_neg hc] at e
          cases e
    · rw [if_neg h40] at e ⊢
      by_cases h41 : i.1 = 41
      · rw [if_pos h41] at e ⊢
        cases d with
        | zero => cases e
        | succ d' =>
          dsimp only at e ⊢
          split at e
          · split at e
            · rename_i hl
              rw [if_pos hl]
              exact hr _ _ _ _ _ _ _ e
            · cases e
          · cases e
      · rw [if_neg h41] at e ⊢
        by_cases h50 : i.1 = 50
        · rw [if_pos h50] at e ⊢; exact e
        · rw [if_neg h50] at e ⊢
          by_cases h51 : i.1 = 51
          · rw [if_pos h51] at e ⊢; exact e
          · rw [if_neg h51] at e ⊢
            by_cases h52 : i.1 = 52
            · rw [if_pos h52] at e ⊢; exact e
            · rw [if_neg h52] at e ⊢
              cases hz : zst N i nx L st h with
              | none => rw [hz] at e; cases e
              | some y =>
                rw [hz] at e
                exact hr _ _ _ _ _ _ _ e
theorem zev_s : ∀ (n d M pc : Nat) (L : ZL) (st : List ZV) (h : ZH) (x : Option ZV × ZH), zev cd N n d M pc L st h = some x → zev cd N (n + 1) d M pc L st h = some x := by
  intro n
  induction n with
  | zero => intro d M pc L st h x e; cases e
  | succ n ih => intro d M pc L st h x e; exact zb_mono (rec := zev cd N n) ih e
theorem zev_le {n k : Nat} (hk : n ≤ k) {d M pc : Nat} {L : ZL} {st : List ZV} {h : ZH} {x : Option ZV × ZH} (e : zev cd N n d M pc L st h = some x) : zev cd N k d M pc L st h = some x := by
  induction hk with
  | refl => exact e
  | step _ ih => exact zev_s _ _ _ _ _ _ _ _ ih
end ZT
set_option maxHeartbeats 4000000 in
theorem zst_n {N : Nat → Nat} {i : ZI} {nx : Nat} {L : ZL} {st : List ZV} {h : ZH} {q : Nat × ZL × List ZV × ZH} (e : zst N i nx L st h = some q) : h.2.2.2.1 ≤ q.2.2.2.2.2.2.1 ∧ h.2.2.2.2 ≤ q.2.2.2.2.2.2.2 := by
  unfold zst at e
  by_cases h0 : i.1 = 0
  · rw [if_pos h0] at e
    repeat' (first | (cases e; done) | (cases e; exact ⟨Nat.le_refl _, Nat.le_refl _⟩) | (cases e; exact ⟨Nat.le_succ _, Nat.le_add_right _ _⟩) | split at e)
  rw [if_neg h0] at e
  by_cases h1 : i.1 = 1
  · rw [if_pos h1] at e
    repeat' (first | (cases e; done) | (cases e; exact ⟨Nat.le_refl _, Nat.le_refl _⟩) | (cases e; exact ⟨Nat.le_succ _, Nat.le_add_right _ _⟩) | split at e)
  rw [if_neg h1] at e
  by_cases h2 : i.1 = 2
  · rw [if_pos h2] at e
    repeat' (first | (cases e; done) | (cases e; exact ⟨Nat.le_refl _, Nat.le_refl _⟩) | (cases e; exact ⟨Nat.le_succ _, Nat.le_add_right _ _⟩) | split at e)
  rw [if_neg h2] at e
  by_cases h3 : i.1 = 3
  · rw [if_pos h3] at e
    repeat' (first | (cases e; done) | (cases e; exact ⟨Nat.le_refl _, Nat.le_refl _⟩) | (cases e; exact ⟨Nat.le_succ _, Nat.le_add_right _ _⟩) | split at e)
  rw [if_neg h3] at e
  by_cases h4 : i.1 = 4
  · rw [if_pos h4] at e
    repeat' (first | (cases e; done) | (cases e; exact ⟨Nat.le_refl _, Nat.le_refl _⟩) | (cases e; exact ⟨Nat.le_succ _, Nat.le_add_right _ _⟩) | split at e)
  rw [if_neg h4] at e
  by_cases h5 : i.1 = 5
  · rw [if_pos h5] at e
    repeat' (first | (cases e; done) | (cases e; exact ⟨Nat.le_refl _, Nat.le_refl _⟩) | (cases e; exact ⟨Nat.le_succ _, Nat.le_add_right _ _⟩) | split at e)
  rw [if_neg h5] at e
  by_cases h6 : i.1 = 6
  · rw [if_pos h6] at e
    repeat' (first | (cases e; done) | (cases e; exact ⟨Nat.le_refl _, Nat.le_refl _⟩) | (cases e; exact ⟨Nat.le_succ _, Nat.le_add_right _ _⟩) | split at e)
  rw [if_neg h6] at e
  by_cases h7 : i.1 = 7
  · rw [if_pos h7] at e
    repeat' (first | (cases e; done) | (cases e; exact ⟨Nat.le_refl _, Nat.le_refl _⟩) | (cases e; exact ⟨Nat.le_succ _, Nat.le_add_right _ _⟩) | split at e)
  rw [if_neg h7] at e
  by_cases h8 : i.1 = 8
  · rw [if_pos h8] at e
    repeat' (first | (cases e; done) | (cases e; exact ⟨Nat.le_refl _, Nat.le_refl _⟩) | (cases e; exact ⟨Nat.le_succ _, Nat.le_add_right _ _⟩) | split at e)
  rw [if_neg h8] at e
  by_cases h9 : i.1 = 9
  · rw [if_pos h9] at e
    repeat' (first | (cases e; done) | (cases e; exact ⟨Nat.le_refl _, Nat.le_refl _⟩) | (cases e; exact ⟨Nat.le_succ _, Nat.le_add_right _ _⟩) | split at e)
  rw [if_neg h9] at e
  by_cases h10 : i.1 = 10
  · rw [if_pos h10] at e
    repeat' (first | (cases e; done) | (cases e; exact ⟨Nat.le_refl _, Nat.le_refl _⟩) | (cases e; exact ⟨Nat.le_succ _, Nat.le_add_right _ _⟩) | split at e)
  rw [if_neg h10] at e
  by_cases h11 : i.1 = 11
  · rw [if_pos h11] at e
    repeat' (first | (cases e; done) | (cases e; exact ⟨Nat.le_refl _, Nat.le_refl _⟩) | (cases e; exact ⟨Nat.le_succ _, Nat.le_add_right _ _⟩) | split at e)
  rw [if_neg h11] at e
  by_cases h12 : i.1 = 12
  · rw [if_pos h12] at e
    repeat' (first | (cases e; done) | (cases e; exact ⟨Nat.le_refl _, Nat.le_refl _⟩) | (cases e; exact ⟨Nat.le_succ _, Nat.le_add_right _ _⟩) | split at e)
  rw [if_neg h12] at e
  by_cases h13 : i.1 = 13
  · rw [if_pos h13] at e
    repeat' (first | (cases e; done) | (cases e; exact ⟨Nat.le_refl _, Nat.le_refl _⟩) | (cases e; exact ⟨Nat.le_succ _, Nat.le_add_right _ _⟩) | split at e)
  rw [if_neg h13] at e
  by_cases h14 : i.1 = 14
  · rw [if_pos h14] at e
    repeat' (first | (cases e; done) | (cases e; exact ⟨Nat.le_refl _, Nat.le_refl _⟩) | (cases e; exact ⟨Nat.le_succ _, Nat.le_add_right _ _⟩) | split at e)
  rw [if_neg h14] at e
  by_cases h15 : i.1 = 15
  · rw [if_pos h15] at e
    repeat' (first | (cases e; done) | (cases e; exact ⟨Nat.le_refl _, Nat.le_refl _⟩) | (cases e; exact ⟨Nat.le_succ _, Nat.le_add_right _ _⟩) | split at e)
  rw [if_neg h15] at e
  by_cases h16 : i.1 = 16
  · rw [if_pos h16] at e
    repeat' (first | (cases e; done) | (cases e; exact ⟨Nat.le_refl _, Nat.le_refl _⟩) | (cases e; exact ⟨Nat.le_succ _, Nat.le_add_right _ _⟩) | split at e)
  rw [if_neg h16] at e
  by_cases h17 : i.1 = 17
  · rw [if_pos h17] at e
    repeat' (first | (cases e; done) | (cases e; exact ⟨Nat.le_refl _, Nat.le_refl _⟩) | (cases e; exact ⟨Nat.le_succ _, Nat.le_add_right _ _⟩) | split at e)
  rw [if_neg h17] at e
  by_cases h20 : i.1 = 20
  · rw [if_pos h20] at e
    repeat' (first | (cases e; done) | (cases e; exact ⟨Nat.le_refl _, Nat.le_refl _⟩) | (cases e; exact ⟨Nat.le_succ _, Nat.le_add_right _ _⟩) | split at e)
  rw [if_neg h20] at e
  by_cases h21 : i.1 = 21
  · rw [if_pos h21] at e
    repeat' (first | (cases e; done) | (cases e; exact ⟨Nat.le_refl _, Nat.le_refl _⟩) | (cases e; exact ⟨Nat.le_succ _, Nat.le_add_right _ _⟩) | split at e)
  rw [if_neg h21] at e
  by_cases h22 : i.1 = 22
  · rw [if_pos h22] at e
    repeat' (first | (cases e; done) | (cases e; exact ⟨Nat.le_refl _, Nat.le_refl _⟩) | (cases e; exact ⟨Nat.le_succ _, Nat.le_add_right _ _⟩) | split at e)
  rw [if_neg h22] at e
  by_cases h23 : i.1 = 23
  · rw [if_pos h23] at e
    repeat' (first | (cases e; done) | (cases e; exact ⟨Nat.le_refl _, Nat.le_refl _⟩) | (cases e; exact ⟨Nat.le_succ _, Nat.le_add_right _ _⟩) | split at e)
  rw [if_neg h23] at e
  by_cases h24 : i.1 = 24
  · rw [if_pos h24] at e
    repeat' (first | (cases e; done) | (cases e; exact ⟨Nat.le_refl _, Nat.le_refl _⟩) | (cases e; exact ⟨Nat.le_succ _, Nat.le_add_right _ _⟩) | split at e)
  rw [if_neg h24] at e
  by_cases h25 : i.1 = 25
  · rw [if_pos h25] at e
    repeat' (first | (cases e; done) | (cases e; exact ⟨Nat.le_refl _, Nat.le_refl _⟩) | (cases e; exact ⟨Nat.le_succ _, Nat.le_add_right _ _⟩) | split at e)
  rw [if_neg h25] at e
  by_cases h26 : i.1 = 26
  · rw [if_pos h26] at e
    repeat' (first | (cases e; done) | (cases e; exact ⟨Nat.le_refl _, Nat.le_refl _⟩) | (cases e; exact ⟨Nat.le_succ _, Nat.le_add_right _ _⟩) | split at e)
  rw [if_neg h26] at e
  by_cases h27 : i.1 = 27
  · rw [if_pos h27] at e
    repeat' (first | (cases e; done) | (cases e; exact ⟨Nat.le_refl _, Nat.le_refl _⟩) | (cases e; exact ⟨Nat.le_succ _, Nat.le_add_right _ _⟩) | split at e)
  rw [if_neg h27] at e
  by_cases h28 : i.1 = 28
  · rw [if_pos h28] at e
    repeat' (first | (cases e; done) | (cases e; exact ⟨Nat.le_refl _, Nat.le_refl _⟩) | (cases e; exact ⟨Nat.le_succ _, Nat.le_add_right _ _⟩) | split at e)
  rw [if_neg h28] at e
  by_cases h29 : i.1 = 29
  · rw [if_pos h29] at e
    repeat' (first | (cases e; done) | (cases e; exact ⟨Nat.le_refl _, Nat.le_refl _⟩) | (cases e; exact ⟨Nat.le_succ _, Nat.le_add_right _ _⟩) | split at e)
  rw [if_neg h29] at e
  by_cases h30 : i.1 = 30
  · rw [if_pos h30] at e
    repeat' (first | (cases e; done) | (cases e; exact ⟨Nat.le_refl _, Nat.le_refl _⟩) | (cases e; exact ⟨Nat.le_succ _, Nat.le_add_right _ _⟩) | split at e)
  rw [if_neg h30] at e
  by_cases h31 : i.1 = 31
  · rw [if_pos h31] at e
    repeat' (first | (cases e; done) | (cases e; exact ⟨Nat.le_refl _, Nat.le_refl _⟩) | (cases e; exact ⟨Nat.le_succ _, Nat.le_add_right _ _⟩) | split at e)
  rw [if_neg h31] at e
  by_cases h32 : i.1 = 32
  · rw [if_pos h32] at e
    repeat' (first | (cases e; done) | (cases e; exact ⟨Nat.le_refl _, Nat.le_refl _⟩) | (cases e; exact ⟨Nat.le_succ _, Nat.le_add_right _ _⟩) | split at e)
  rw [if_neg h32] at e
  cases e
end
