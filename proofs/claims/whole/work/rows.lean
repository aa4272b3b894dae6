section
-- ===== PART A: goes FIRST, ahead of the names: the tables' words, and 'selects' of the private methods out of them =====
/-- a private method of a class that the tables say can be made, by its rows of tables_1 -/
def lw_okq (q : MethodName × Nat) : Prop := (q.1.cls ≠ "java/lang/invoke/MethodHandle" ∧ q.1.cls ≠ "java/lang/invoke/VarHandle") ∧ Cond.instantiable q.1.cls q.2 ∈ tables_1 ∧ Cond.privateMethod q.1 ∈ tables_1 ∧ Cond.instanceMethod q.1 ∈ tables_1
theorem lw_p0 : lw_okq (⟨"TimedNet", "refuse", "(I)I"⟩, 9) := ⟨⟨by decide +kernel, by decide +kernel⟩, List.mem_of_getElem? (i := 11) (by decide +kernel), List.mem_of_getElem? (i := 278) (by decide +kernel), List.mem_of_getElem? (i := 279) (by decide +kernel)⟩
theorem lw_p1 : lw_okq (⟨"TimedNet$Nodes", "add", "(II)I"⟩, 3) := ⟨⟨by decide +kernel, by decide +kernel⟩, List.mem_of_getElem? (i := 19) (by decide +kernel), List.mem_of_getElem? (i := 282) (by decide +kernel), List.mem_of_getElem? (i := 283) (by decide +kernel)⟩
theorem lw_p2 : lw_okq (⟨"TimedNet$Nodes", "set", "(III)V"⟩, 3) := ⟨⟨by decide +kernel, by decide +kernel⟩, List.mem_of_getElem? (i := 19) (by decide +kernel), List.mem_of_getElem? (i := 286) (by decide +kernel), List.mem_of_getElem? (i := 287) (by decide +kernel)⟩
theorem lw_p3 : lw_okq (⟨"TimedNet", "answer", "(I)I"⟩, 9) := ⟨⟨by decide +kernel, by decide +kernel⟩, List.mem_of_getElem? (i := 11) (by decide +kernel), List.mem_of_getElem? (i := 290) (by decide +kernel), List.mem_of_getElem? (i := 291) (by decide +kernel)⟩
theorem lw_p4 : lw_okq (⟨"TimedNet", "isNode", "(I)Z"⟩, 9) := ⟨⟨by decide +kernel, by decide +kernel⟩, List.mem_of_getElem? (i := 11) (by decide +kernel), List.mem_of_getElem? (i := 298) (by decide +kernel), List.mem_of_getElem? (i := 299) (by decide +kernel)⟩
theorem lw_p5 : lw_okq (⟨"TimedNet", "deny", "(I)Z"⟩, 9) := ⟨⟨by decide +kernel, by decide +kernel⟩, List.mem_of_getElem? (i := 11) (by decide +kernel), List.mem_of_getElem? (i := 302) (by decide +kernel), List.mem_of_getElem? (i := 303) (by decide +kernel)⟩
theorem lw_p6 : lw_okq (⟨"TimedNet", "agree", "()Z"⟩, 9) := ⟨⟨by decide +kernel, by decide +kernel⟩, List.mem_of_getElem? (i := 11) (by decide +kernel), List.mem_of_getElem? (i := 307) (by decide +kernel), List.mem_of_getElem? (i := 308) (by decide +kernel)⟩
theorem lw_p7 : lw_okq (⟨"TimedNet", "areEnds", "(II)Z"⟩, 9) := ⟨⟨by decide +kernel, by decide +kernel⟩, List.mem_of_getElem? (i := 11) (by decide +kernel), List.mem_of_getElem? (i := 315) (by decide +kernel), List.mem_of_getElem? (i := 316) (by decide +kernel)⟩
theorem lw_p8 : lw_okq (⟨"TimedNet$Log", "isFull", "()Z"⟩, 6) := ⟨⟨by decide +kernel, by decide +kernel⟩, List.mem_of_getElem? (i := 90) (by decide +kernel), List.mem_of_getElem? (i := 322) (by decide +kernel), List.mem_of_getElem? (i := 323) (by decide +kernel)⟩
theorem lw_p9 : lw_okq (⟨"TimedNet$Lines", "add", "(IIIIIII)I"⟩, 11) := ⟨⟨by decide +kernel, by decide +kernel⟩, List.mem_of_getElem? (i := 37) (by decide +kernel), List.mem_of_getElem? (i := 326) (by decide +kernel), List.mem_of_getElem? (i := 327) (by decide +kernel)⟩
theorem lw_p10 : lw_okq (⟨"TimedNet$Log", "add", "(IIII)V"⟩, 6) := ⟨⟨by decide +kernel, by decide +kernel⟩, List.mem_of_getElem? (i := 90) (by decide +kernel), List.mem_of_getElem? (i := 330) (by decide +kernel), List.mem_of_getElem? (i := 331) (by decide +kernel)⟩
theorem lw_p11 : lw_okq (⟨"TimedNet", "isLine", "(I)Z"⟩, 9) := ⟨⟨by decide +kernel, by decide +kernel⟩, List.mem_of_getElem? (i := 11) (by decide +kernel), List.mem_of_getElem? (i := 338) (by decide +kernel), List.mem_of_getElem? (i := 339) (by decide +kernel)⟩
theorem lw_p12 : lw_okq (⟨"TimedNet$Log", "removeLatest", "()V"⟩, 6) := ⟨⟨by decide +kernel, by decide +kernel⟩, List.mem_of_getElem? (i := 90) (by decide +kernel), List.mem_of_getElem? (i := 361) (by decide +kernel), List.mem_of_getElem? (i := 362) (by decide +kernel)⟩
theorem lw_p13 : lw_okq (⟨"TimedNet$Lines", "removeLatest", "()V"⟩, 11) := ⟨⟨by decide +kernel, by decide +kernel⟩, List.mem_of_getElem? (i := 37) (by decide +kernel), List.mem_of_getElem? (i := 365) (by decide +kernel), List.mem_of_getElem? (i := 366) (by decide +kernel)⟩
theorem lw_p14 : lw_okq (⟨"TimedNet$View", "forget", "()V"⟩, 18) := ⟨⟨by decide +kernel, by decide +kernel⟩, List.mem_of_getElem? (i := 122) (by decide +kernel), List.mem_of_getElem? (i := 369) (by decide +kernel), List.mem_of_getElem? (i := 370) (by decide +kernel)⟩
theorem lw_p15 : lw_okq (⟨"TimedNet$Lines", "tell", "(II)I"⟩, 11) := ⟨⟨by decide +kernel, by decide +kernel⟩, List.mem_of_getElem? (i := 37) (by decide +kernel), List.mem_of_getElem? (i := 377) (by decide +kernel), List.mem_of_getElem? (i := 378) (by decide +kernel)⟩
def lw_privs_1 : List (MethodName × Nat) := [(⟨"TimedNet", "refuse", "(I)I"⟩, 9), (⟨"TimedNet$Nodes", "add", "(II)I"⟩, 3), (⟨"TimedNet$Nodes", "set", "(III)V"⟩, 3), (⟨"TimedNet", "answer", "(I)I"⟩, 9), (⟨"TimedNet", "isNode", "(I)Z"⟩, 9), (⟨"TimedNet", "deny", "(I)Z"⟩, 9), (⟨"TimedNet", "agree", "()Z"⟩, 9), (⟨"TimedNet", "areEnds", "(II)Z"⟩, 9), (⟨"TimedNet$Log", "isFull", "()Z"⟩, 6), (⟨"TimedNet$Lines", "add", "(IIIIIII)I"⟩, 11), (⟨"TimedNet$Log", "add", "(IIII)V"⟩, 6), (⟨"TimedNet", "isLine", "(I)Z"⟩, 9), (⟨"TimedNet$Log", "removeLatest", "()V"⟩, 6), (⟨"TimedNet$Lines", "removeLatest", "()V"⟩, 11), (⟨"TimedNet$View", "forget", "()V"⟩, 18), (⟨"TimedNet$Lines", "tell", "(II)I"⟩, 11)]
theorem lw_r1 : ∀ q ∈ lw_privs_1, lw_okq q := List.forall_mem_cons.mpr ⟨lw_p0, List.forall_mem_cons.mpr ⟨lw_p1, List.forall_mem_cons.mpr ⟨lw_p2, List.forall_mem_cons.mpr ⟨lw_p3, List.forall_mem_cons.mpr ⟨lw_p4, List.forall_mem_cons.mpr ⟨lw_p5, List.forall_mem_cons.mpr ⟨lw_p6, List.forall_mem_cons.mpr ⟨lw_p7, List.forall_mem_cons.mpr ⟨lw_p8, List.forall_mem_cons.mpr ⟨lw_p9, List.forall_mem_cons.mpr ⟨lw_p10, List.forall_mem_cons.mpr ⟨lw_p11, List.forall_mem_cons.mpr ⟨lw_p12, List.forall_mem_cons.mpr ⟨lw_p13, List.forall_mem_cons.mpr ⟨lw_p14, List.forall_mem_cons.mpr ⟨lw_p15, fun _ h => absurd h List.not_mem_nil⟩⟩⟩⟩⟩⟩⟩⟩⟩⟩⟩⟩⟩⟩⟩⟩
theorem lw_p16 : lw_okq (⟨"TimedNet", "isChange", "(I)Z"⟩, 9) := ⟨⟨by decide +kernel, by decide +kernel⟩, List.mem_of_getElem? (i := 11) (by decide +kernel), List.mem_of_getElem? (i := 385) (by decide +kernel), List.mem_of_getElem? (i := 386) (by decide +kernel)⟩
theorem lw_p17 : lw_okq (⟨"TimedNet$View", "show", "(I)V"⟩, 18) := ⟨⟨by decide +kernel, by decide +kernel⟩, List.mem_of_getElem? (i := 122) (by decide +kernel), List.mem_of_getElem? (i := 389) (by decide +kernel), List.mem_of_getElem? (i := 390) (by decide +kernel)⟩
theorem lw_p18 : lw_okq (⟨"TimedNet$View", "replay", "(I)V"⟩, 18) := ⟨⟨by decide +kernel, by decide +kernel⟩, List.mem_of_getElem? (i := 122) (by decide +kernel), List.mem_of_getElem? (i := 393) (by decide +kernel), List.mem_of_getElem? (i := 394) (by decide +kernel)⟩
theorem lw_p19 : lw_okq (⟨"TimedNet$View", "repeat", "(I)V"⟩, 18) := ⟨⟨by decide +kernel, by decide +kernel⟩, List.mem_of_getElem? (i := 122) (by decide +kernel), List.mem_of_getElem? (i := 397) (by decide +kernel), List.mem_of_getElem? (i := 398) (by decide +kernel)⟩
theorem lw_p20 : lw_okq (⟨"TimedNet$View", "timeRuns", "()V"⟩, 18) := ⟨⟨by decide +kernel, by decide +kernel⟩, List.mem_of_getElem? (i := 122) (by decide +kernel), List.mem_of_getElem? (i := 401) (by decide +kernel), List.mem_of_getElem? (i := 402) (by decide +kernel)⟩
theorem lw_p21 : lw_okq (⟨"TimedNet$View", "timeRun", "(II)V"⟩, 18) := ⟨⟨by decide +kernel, by decide +kernel⟩, List.mem_of_getElem? (i := 122) (by decide +kernel), List.mem_of_getElem? (i := 405) (by decide +kernel), List.mem_of_getElem? (i := 406) (by decide +kernel)⟩
theorem lw_p22 : lw_okq (⟨"TimedNet$Lines", "plannedLeaving", "(II)I"⟩, 11) := ⟨⟨by decide +kernel, by decide +kernel⟩, List.mem_of_getElem? (i := 37) (by decide +kernel), List.mem_of_getElem? (i := 409) (by decide +kernel), List.mem_of_getElem? (i := 410) (by decide +kernel)⟩
theorem lw_p23 : lw_okq (⟨"TimedNet$View", "isClosed", "(II)Z"⟩, 18) := ⟨⟨by decide +kernel, by decide +kernel⟩, List.mem_of_getElem? (i := 122) (by decide +kernel), List.mem_of_getElem? (i := 413) (by decide +kernel), List.mem_of_getElem? (i := 414) (by decide +kernel)⟩
theorem lw_p24 : lw_okq (⟨"TimedNet$Log", "isClosing", "(III)Z"⟩, 6) := ⟨⟨by decide +kernel, by decide +kernel⟩, List.mem_of_getElem? (i := 90) (by decide +kernel), List.mem_of_getElem? (i := 417) (by decide +kernel), List.mem_of_getElem? (i := 418) (by decide +kernel)⟩
theorem lw_p25 : lw_okq (⟨"TimedNet$View", "orderRuns", "()V"⟩, 18) := ⟨⟨by decide +kernel, by decide +kernel⟩, List.mem_of_getElem? (i := 122) (by decide +kernel), List.mem_of_getElem? (i := 421) (by decide +kernel), List.mem_of_getElem? (i := 422) (by decide +kernel)⟩
theorem lw_p26 : lw_okq (⟨"TimedNet$Sorter", "sort", "([II[I)V"⟩, 1) := ⟨⟨by decide +kernel, by decide +kernel⟩, List.mem_of_getElem? (i := 128) (by decide +kernel), List.mem_of_getElem? (i := 425) (by decide +kernel), List.mem_of_getElem? (i := 426) (by decide +kernel)⟩
theorem lw_p27 : lw_okq (⟨"TimedNet$Sorter", "merge", "([I[IIII)V"⟩, 1) := ⟨⟨by decide +kernel, by decide +kernel⟩, List.mem_of_getElem? (i := 128) (by decide +kernel), List.mem_of_getElem? (i := 432) (by decide +kernel), List.mem_of_getElem? (i := 433) (by decide +kernel)⟩
theorem lw_p28 : lw_okq (⟨"TimedNet$View", "goalOf", "(I)I"⟩, 18) := ⟨⟨by decide +kernel, by decide +kernel⟩, List.mem_of_getElem? (i := 122) (by decide +kernel), List.mem_of_getElem? (i := 436) (by decide +kernel), List.mem_of_getElem? (i := 437) (by decide +kernel)⟩
theorem lw_p29 : lw_okq (⟨"TimedNet$View", "tell", "(II)I"⟩, 18) := ⟨⟨by decide +kernel, by decide +kernel⟩, List.mem_of_getElem? (i := 122) (by decide +kernel), List.mem_of_getElem? (i := 440) (by decide +kernel), List.mem_of_getElem? (i := 441) (by decide +kernel)⟩
theorem lw_p30 : lw_okq (⟨"TimedNet", "wayFault", "(IIIII)I"⟩, 9) := ⟨⟨by decide +kernel, by decide +kernel⟩, List.mem_of_getElem? (i := 11) (by decide +kernel), List.mem_of_getElem? (i := 448) (by decide +kernel), List.mem_of_getElem? (i := 449) (by decide +kernel)⟩
theorem lw_p31 : lw_okq (⟨"TimedNet", "reachFault", "(IIIII)I"⟩, 9) := ⟨⟨by decide +kernel, by decide +kernel⟩, List.mem_of_getElem? (i := 11) (by decide +kernel), List.mem_of_getElem? (i := 452) (by decide +kernel), List.mem_of_getElem? (i := 453) (by decide +kernel)⟩
def lw_privs_2 : List (MethodName × Nat) := [(⟨"TimedNet", "isChange", "(I)Z"⟩, 9), (⟨"TimedNet$View", "show", "(I)V"⟩, 18), (⟨"TimedNet$View", "replay", "(I)V"⟩, 18), (⟨"TimedNet$View", "repeat", "(I)V"⟩, 18), (⟨"TimedNet$View", "timeRuns", "()V"⟩, 18), (⟨"TimedNet$View", "timeRun", "(II)V"⟩, 18), (⟨"TimedNet$Lines", "plannedLeaving", "(II)I"⟩, 11), (⟨"TimedNet$View", "isClosed", "(II)Z"⟩, 18), (⟨"TimedNet$Log", "isClosing", "(III)Z"⟩, 6), (⟨"TimedNet$View", "orderRuns", "()V"⟩, 18), (⟨"TimedNet$Sorter", "sort", "([II[I)V"⟩, 1), (⟨"TimedNet$Sorter", "merge", "([I[IIII)V"⟩, 1), (⟨"TimedNet$View", "goalOf", "(I)I"⟩, 18), (⟨"TimedNet$View", "tell", "(II)I"⟩, 18), (⟨"TimedNet", "wayFault", "(IIIII)I"⟩, 9), (⟨"TimedNet", "reachFault", "(IIIII)I"⟩, 9)]
theorem lw_r2 : ∀ q ∈ lw_privs_2, lw_okq q := List.forall_mem_cons.mpr ⟨lw_p16, List.forall_mem_cons.mpr ⟨lw_p17, List.forall_mem_cons.mpr ⟨lw_p18, List.forall_mem_cons.mpr ⟨lw_p19, List.forall_mem_cons.mpr ⟨lw_p20, List.forall_mem_cons.mpr ⟨lw_p21, List.forall_mem_cons.mpr ⟨lw_p22, List.forall_mem_cons.mpr ⟨lw_p23, List.forall_mem_cons.mpr ⟨lw_p24, List.forall_mem_cons.mpr ⟨lw_p25, List.forall_mem_cons.mpr ⟨lw_p26, List.forall_mem_cons.mpr ⟨lw_p27, List.forall_mem_cons.mpr ⟨lw_p28, List.forall_mem_cons.mpr ⟨lw_p29, List.forall_mem_cons.mpr ⟨lw_p30, List.forall_mem_cons.mpr ⟨lw_p31, fun _ h => absurd h List.not_mem_nil⟩⟩⟩⟩⟩⟩⟩⟩⟩⟩⟩⟩⟩⟩⟩⟩
theorem lw_p32 : lw_okq (⟨"TimedNet", "explore", "(IIIZ)V"⟩, 9) := ⟨⟨by decide +kernel, by decide +kernel⟩, List.mem_of_getElem? (i := 11) (by decide +kernel), List.mem_of_getElem? (i := 456) (by decide +kernel), List.mem_of_getElem? (i := 457) (by decide +kernel)⟩
theorem lw_p33 : lw_okq (⟨"TimedNet$Search", "spread", "(IIIZ)V"⟩, 9) := ⟨⟨by decide +kernel, by decide +kernel⟩, List.mem_of_getElem? (i := 202) (by decide +kernel), List.mem_of_getElem? (i := 460) (by decide +kernel), List.mem_of_getElem? (i := 461) (by decide +kernel)⟩
theorem lw_p34 : lw_okq (⟨"TimedNet$Search", "emptyQueues", "()V"⟩, 9) := ⟨⟨by decide +kernel, by decide +kernel⟩, List.mem_of_getElem? (i := 202) (by decide +kernel), List.mem_of_getElem? (i := 464) (by decide +kernel), List.mem_of_getElem? (i := 465) (by decide +kernel)⟩
theorem lw_p35 : lw_okq (⟨"TimedNet$View", "goalBegin", "(I)I"⟩, 18) := ⟨⟨by decide +kernel, by decide +kernel⟩, List.mem_of_getElem? (i := 122) (by decide +kernel), List.mem_of_getElem? (i := 468) (by decide +kernel), List.mem_of_getElem? (i := 469) (by decide +kernel)⟩
theorem lw_p36 : lw_okq (⟨"TimedNet$View", "startOf", "(I)I"⟩, 18) := ⟨⟨by decide +kernel, by decide +kernel⟩, List.mem_of_getElem? (i := 122) (by decide +kernel), List.mem_of_getElem? (i := 472) (by decide +kernel), List.mem_of_getElem? (i := 473) (by decide +kernel)⟩
theorem lw_p37 : lw_okq (⟨"TimedNet$Search", "worthBehindOthers", "(I)I"⟩, 9) := ⟨⟨by decide +kernel, by decide +kernel⟩, List.mem_of_getElem? (i := 202) (by decide +kernel), List.mem_of_getElem? (i := 476) (by decide +kernel), List.mem_of_getElem? (i := 477) (by decide +kernel)⟩
theorem lw_p38 : lw_okq (⟨"TimedNet$Nodes", "latestComing", "(II)I"⟩, 3) := ⟨⟨by decide +kernel, by decide +kernel⟩, List.mem_of_getElem? (i := 19) (by decide +kernel), List.mem_of_getElem? (i := 480) (by decide +kernel), List.mem_of_getElem? (i := 481) (by decide +kernel)⟩
theorem lw_p39 : lw_okq (⟨"TimedNet$Search", "takeIn", "(II)V"⟩, 9) := ⟨⟨by decide +kernel, by decide +kernel⟩, List.mem_of_getElem? (i := 202) (by decide +kernel), List.mem_of_getElem? (i := 484) (by decide +kernel), List.mem_of_getElem? (i := 485) (by decide +kernel)⟩
theorem lw_p40 : lw_okq (⟨"TimedNet$Search", "join", "(II)V"⟩, 9) := ⟨⟨by decide +kernel, by decide +kernel⟩, List.mem_of_getElem? (i := 202) (by decide +kernel), List.mem_of_getElem? (i := 488) (by decide +kernel), List.mem_of_getElem? (i := 489) (by decide +kernel)⟩
theorem lw_p41 : lw_okq (⟨"TimedNet$Search", "isBetter", "(II)Z"⟩, 9) := ⟨⟨by decide +kernel, by decide +kernel⟩, List.mem_of_getElem? (i := 202) (by decide +kernel), List.mem_of_getElem? (i := 492) (by decide +kernel), List.mem_of_getElem? (i := 493) (by decide +kernel)⟩
theorem lw_p42 : lw_okq (⟨"TimedNet$Nodes", "soonestComing", "(II)I"⟩, 3) := ⟨⟨by decide +kernel, by decide +kernel⟩, List.mem_of_getElem? (i := 19) (by decide +kernel), List.mem_of_getElem? (i := 496) (by decide +kernel), List.mem_of_getElem? (i := 497) (by decide +kernel)⟩
theorem lw_p43 : lw_okq (⟨"TimedNet$Search", "dropOld", "(II)V"⟩, 9) := ⟨⟨by decide +kernel, by decide +kernel⟩, List.mem_of_getElem? (i := 202) (by decide +kernel), List.mem_of_getElem? (i := 500) (by decide +kernel), List.mem_of_getElem? (i := 501) (by decide +kernel)⟩
theorem lw_p44 : lw_okq (⟨"TimedNet$Search", "firstComing", "(I)I"⟩, 9) := ⟨⟨by decide +kernel, by decide +kernel⟩, List.mem_of_getElem? (i := 202) (by decide +kernel), List.mem_of_getElem? (i := 504) (by decide +kernel), List.mem_of_getElem? (i := 505) (by decide +kernel)⟩
theorem lw_p45 : lw_okq (⟨"TimedNet", "answerOfWay", "(I)I"⟩, 9) := ⟨⟨by decide +kernel, by decide +kernel⟩, List.mem_of_getElem? (i := 11) (by decide +kernel), List.mem_of_getElem? (i := 508) (by decide +kernel), List.mem_of_getElem? (i := 509) (by decide +kernel)⟩
theorem lw_p46 : lw_okq (⟨"TimedNet$Search", "lastLeaving", "(II)I"⟩, 9) := ⟨⟨by decide +kernel, by decide +kernel⟩, List.mem_of_getElem? (i := 202) (by decide +kernel), List.mem_of_getElem? (i := 516) (by decide +kernel), List.mem_of_getElem? (i := 517) (by decide +kernel)⟩
theorem lw_p47 : lw_okq (⟨"TimedNet$Search", "isEnd", "(II)Z"⟩, 9) := ⟨⟨by decide +kernel, by decide +kernel⟩, List.mem_of_getElem? (i := 202) (by decide +kernel), List.mem_of_getElem? (i := 520) (by decide +kernel), List.mem_of_getElem? (i := 521) (by decide +kernel)⟩
def lw_privs_3 : List (MethodName × Nat) := [(⟨"TimedNet", "explore", "(IIIZ)V"⟩, 9), (⟨"TimedNet$Search", "spread", "(IIIZ)V"⟩, 9), (⟨"TimedNet$Search", "emptyQueues", "()V"⟩, 9), (⟨"TimedNet$View", "goalBegin", "(I)I"⟩, 18), (⟨"TimedNet$View", "startOf", "(I)I"⟩, 18), (⟨"TimedNet$Search", "worthBehindOthers", "(I)I"⟩, 9), (⟨"TimedNet$Nodes", "latestComing", "(II)I"⟩, 3), (⟨"TimedNet$Search", "takeIn", "(II)V"⟩, 9), (⟨"TimedNet$Search", "join", "(II)V"⟩, 9), (⟨"TimedNet$Search", "isBetter", "(II)Z"⟩, 9), (⟨"TimedNet$Nodes", "soonestComing", "(II)I"⟩, 3), (⟨"TimedNet$Search", "dropOld", "(II)V"⟩, 9), (⟨"TimedNet$Search", "firstComing", "(I)I"⟩, 9), (⟨"TimedNet", "answerOfWay", "(I)I"⟩, 9), (⟨"TimedNet$Search", "lastLeaving", "(II)I"⟩, 9), (⟨"TimedNet$Search", "isEnd", "(II)Z"⟩, 9)]
theorem lw_r3 : ∀ q ∈ lw_privs_3, lw_okq q := List.forall_mem_cons.mpr ⟨lw_p32, List.forall_mem_cons.mpr ⟨lw_p33, List.forall_mem_cons.mpr ⟨lw_p34, List.forall_mem_cons.mpr ⟨lw_p35, List.forall_mem_cons.mpr ⟨lw_p36, List.forall_mem_cons.mpr ⟨lw_p37, List.forall_mem_cons.mpr ⟨lw_p38, List.forall_mem_cons.mpr ⟨lw_p39, List.forall_mem_cons.mpr ⟨lw_p40, List.forall_mem_cons.mpr ⟨lw_p41, List.forall_mem_cons.mpr ⟨lw_p42, List.forall_mem_cons.mpr ⟨lw_p43, List.forall_mem_cons.mpr ⟨lw_p44, List.forall_mem_cons.mpr ⟨lw_p45, List.forall_mem_cons.mpr ⟨lw_p46, List.forall_mem_cons.mpr ⟨lw_p47, fun _ h => absurd h List.not_mem_nil⟩⟩⟩⟩⟩⟩⟩⟩⟩⟩⟩⟩⟩⟩⟩⟩
theorem lw_p48 : lw_okq (⟨"TimedNet$Search", "leastTicks", "(II)I"⟩, 9) := ⟨⟨by decide +kernel, by decide +kernel⟩, List.mem_of_getElem? (i := 202) (by decide +kernel), List.mem_of_getElem? (i := 531) (by decide +kernel), List.mem_of_getElem? (i := 532) (by decide +kernel)⟩
theorem lw_p49 : lw_okq (⟨"TimedNet$Search", "leastRuns", "(II)I"⟩, 9) := ⟨⟨by decide +kernel, by decide +kernel⟩, List.mem_of_getElem? (i := 202) (by decide +kernel), List.mem_of_getElem? (i := 539) (by decide +kernel), List.mem_of_getElem? (i := 540) (by decide +kernel)⟩
theorem lw_p50 : lw_okq (⟨"TimedNet$Search", "trace", "(I[I)I"⟩, 9) := ⟨⟨by decide +kernel, by decide +kernel⟩, List.mem_of_getElem? (i := 202) (by decide +kernel), List.mem_of_getElem? (i := 547) (by decide +kernel), List.mem_of_getElem? (i := 548) (by decide +kernel)⟩
theorem lw_p51 : lw_okq (⟨"TimedNet$Search", "lastOfWay", "(I)I"⟩, 9) := ⟨⟨by decide +kernel, by decide +kernel⟩, List.mem_of_getElem? (i := 202) (by decide +kernel), List.mem_of_getElem? (i := 551) (by decide +kernel), List.mem_of_getElem? (i := 552) (by decide +kernel)⟩
theorem lw_p52 : lw_okq (⟨"TimedNet$Search", "isLesserEnd", "(II)Z"⟩, 9) := ⟨⟨by decide +kernel, by decide +kernel⟩, List.mem_of_getElem? (i := 202) (by decide +kernel), List.mem_of_getElem? (i := 556) (by decide +kernel), List.mem_of_getElem? (i := 557) (by decide +kernel)⟩
theorem lw_p53 : lw_okq (⟨"TimedNet$View", "placeOf", "(I)I"⟩, 18) := ⟨⟨by decide +kernel, by decide +kernel⟩, List.mem_of_getElem? (i := 122) (by decide +kernel), List.mem_of_getElem? (i := 560) (by decide +kernel), List.mem_of_getElem? (i := 561) (by decide +kernel)⟩
theorem lw_p54 : lw_okq (⟨"TimedNet$Search", "oneAhead", "(I)I"⟩, 9) := ⟨⟨by decide +kernel, by decide +kernel⟩, List.mem_of_getElem? (i := 202) (by decide +kernel), List.mem_of_getElem? (i := 564) (by decide +kernel), List.mem_of_getElem? (i := 565) (by decide +kernel)⟩
theorem lw_p55 : lw_okq (⟨"TimedNet$Search", "findBestPairs", "(I)I"⟩, 9) := ⟨⟨by decide +kernel, by decide +kernel⟩, List.mem_of_getElem? (i := 202) (by decide +kernel), List.mem_of_getElem? (i := 577) (by decide +kernel), List.mem_of_getElem? (i := 578) (by decide +kernel)⟩
theorem lw_p56 : lw_okq (⟨"TimedNet$Search", "pairComing", "(I)I"⟩, 9) := ⟨⟨by decide +kernel, by decide +kernel⟩, List.mem_of_getElem? (i := 202) (by decide +kernel), List.mem_of_getElem? (i := 581) (by decide +kernel), List.mem_of_getElem? (i := 582) (by decide +kernel)⟩
theorem lw_p57 : lw_okq (⟨"TimedNet$Search", "pairLeaving", "(I)I"⟩, 9) := ⟨⟨by decide +kernel, by decide +kernel⟩, List.mem_of_getElem? (i := 202) (by decide +kernel), List.mem_of_getElem? (i := 590) (by decide +kernel), List.mem_of_getElem? (i := 591) (by decide +kernel)⟩
theorem lw_p58 : lw_okq (⟨"TimedNet", "isFound", "(III)Z"⟩, 9) := ⟨⟨by decide +kernel, by decide +kernel⟩, List.mem_of_getElem? (i := 11) (by decide +kernel), List.mem_of_getElem? (i := 598) (by decide +kernel), List.mem_of_getElem? (i := 599) (by decide +kernel)⟩
theorem lw_p59 : lw_okq (⟨"TimedNet$Search", "isComing", "(II)Z"⟩, 9) := ⟨⟨by decide +kernel, by decide +kernel⟩, List.mem_of_getElem? (i := 202) (by decide +kernel), List.mem_of_getElem? (i := 602) (by decide +kernel), List.mem_of_getElem? (i := 603) (by decide +kernel)⟩
theorem lw_p60 : lw_okq (⟨"TimedNet", "comingWithout", "(IIII)I"⟩, 9) := ⟨⟨by decide +kernel, by decide +kernel⟩, List.mem_of_getElem? (i := 11) (by decide +kernel), List.mem_of_getElem? (i := 614) (by decide +kernel), List.mem_of_getElem? (i := 615) (by decide +kernel)⟩
theorem lw_p61 : lw_okq (⟨"TimedNet", "isInSpareRow", "(II)Z"⟩, 9) := ⟨⟨by decide +kernel, by decide +kernel⟩, List.mem_of_getElem? (i := 11) (by decide +kernel), List.mem_of_getElem? (i := 622) (by decide +kernel), List.mem_of_getElem? (i := 623) (by decide +kernel)⟩
theorem lw_p62 : lw_okq (⟨"TimedNetModel", "refuse", "(I)I"⟩, 36) := ⟨⟨by decide +kernel, by decide +kernel⟩, List.mem_of_getElem? (i := 630) (by decide +kernel), List.mem_of_getElem? (i := 756) (by decide +kernel), List.mem_of_getElem? (i := 757) (by decide +kernel)⟩
theorem lw_p63 : lw_okq (⟨"TimedNetModel", "isNode", "(I)Z"⟩, 36) := ⟨⟨by decide +kernel, by decide +kernel⟩, List.mem_of_getElem? (i := 630) (by decide +kernel), List.mem_of_getElem? (i := 764) (by decide +kernel), List.mem_of_getElem? (i := 765) (by decide +kernel)⟩
def lw_privs_4 : List (MethodName × Nat) := [(⟨"TimedNet$Search", "leastTicks", "(II)I"⟩, 9), (⟨"TimedNet$Search", "leastRuns", "(II)I"⟩, 9), (⟨"TimedNet$Search", "trace", "(I[I)I"⟩, 9), (⟨"TimedNet$Search", "lastOfWay", "(I)I"⟩, 9), (⟨"TimedNet$Search", "isLesserEnd", "(II)Z"⟩, 9), (⟨"TimedNet$View", "placeOf", "(I)I"⟩, 18), (⟨"TimedNet$Search", "oneAhead", "(I)I"⟩, 9), (⟨"TimedNet$Search", "findBestPairs", "(I)I"⟩, 9), (⟨"TimedNet$Search", "pairComing", "(I)I"⟩, 9), (⟨"TimedNet$Search", "pairLeaving", "(I)I"⟩, 9), (⟨"TimedNet", "isFound", "(III)Z"⟩, 9), (⟨"TimedNet$Search", "isComing", "(II)Z"⟩, 9), (⟨"TimedNet", "comingWithout", "(IIII)I"⟩, 9), (⟨"TimedNet", "isInSpareRow", "(II)Z"⟩, 9), (⟨"TimedNetModel", "refuse", "(I)I"⟩, 36), (⟨"TimedNetModel", "isNode", "(I)Z"⟩, 36)]
theorem lw_r4 : ∀ q ∈ lw_privs_4, lw_okq q := List.forall_mem_cons.mpr ⟨lw_p48, List.forall_mem_cons.mpr ⟨lw_p49, List.forall_mem_cons.mpr ⟨lw_p50, List.forall_mem_cons.mpr ⟨lw_p51, List.forall_mem_cons.mpr ⟨lw_p52, List.forall_mem_cons.mpr ⟨lw_p53, List.forall_mem_cons.mpr ⟨lw_p54, List.forall_mem_cons.mpr ⟨lw_p55, List.forall_mem_cons.mpr ⟨lw_p56, List.forall_mem_cons.mpr ⟨lw_p57, List.forall_mem_cons.mpr ⟨lw_p58, List.forall_mem_cons.mpr ⟨lw_p59, List.forall_mem_cons.mpr ⟨lw_p60, List.forall_mem_cons.mpr ⟨lw_p61, List.forall_mem_cons.mpr ⟨lw_p62, List.forall_mem_cons.mpr ⟨lw_p63, fun _ h => absurd h List.not_mem_nil⟩⟩⟩⟩⟩⟩⟩⟩⟩⟩⟩⟩⟩⟩⟩⟩
theorem lw_p64 : lw_okq (⟨"TimedNetModel", "no", "(I)Z"⟩, 36) := ⟨⟨by decide +kernel, by decide +kernel⟩, List.mem_of_getElem? (i := 630) (by decide +kernel), List.mem_of_getElem? (i := 768) (by decide +kernel), List.mem_of_getElem? (i := 769) (by decide +kernel)⟩
theorem lw_p65 : lw_okq (⟨"TimedNetModel", "logs", "(IIII)V"⟩, 36) := ⟨⟨by decide +kernel, by decide +kernel⟩, List.mem_of_getElem? (i := 630) (by decide +kernel), List.mem_of_getElem? (i := 779) (by decide +kernel), List.mem_of_getElem? (i := 780) (by decide +kernel)⟩
theorem lw_p66 : lw_okq (⟨"TimedNetModel", "isLine", "(I)Z"⟩, 36) := ⟨⟨by decide +kernel, by decide +kernel⟩, List.mem_of_getElem? (i := 630) (by decide +kernel), List.mem_of_getElem? (i := 787) (by decide +kernel), List.mem_of_getElem? (i := 788) (by decide +kernel)⟩
theorem lw_p67 : lw_okq (⟨"TimedNetModel", "isStruckNow", "(I)Z"⟩, 36) := ⟨⟨by decide +kernel, by decide +kernel⟩, List.mem_of_getElem? (i := 630) (by decide +kernel), List.mem_of_getElem? (i := 791) (by decide +kernel), List.mem_of_getElem? (i := 792) (by decide +kernel)⟩
theorem lw_p68 : lw_okq (⟨"TimedNetModel", "asked", "(IIIII)I"⟩, 36) := ⟨⟨by decide +kernel, by decide +kernel⟩, List.mem_of_getElem? (i := 630) (by decide +kernel), List.mem_of_getElem? (i := 819) (by decide +kernel), List.mem_of_getElem? (i := 820) (by decide +kernel)⟩
theorem lw_p69 : lw_okq (⟨"TimedNetModel", "lay", "(II)V"⟩, 36) := ⟨⟨by decide +kernel, by decide +kernel⟩, List.mem_of_getElem? (i := 630) (by decide +kernel), List.mem_of_getElem? (i := 823) (by decide +kernel), List.mem_of_getElem? (i := 824) (by decide +kernel)⟩
theorem lw_p70 : lw_okq (⟨"TimedNetModel", "known", "(I)V"⟩, 36) := ⟨⟨by decide +kernel, by decide +kernel⟩, List.mem_of_getElem? (i := 630) (by decide +kernel), List.mem_of_getElem? (i := 827) (by decide +kernel), List.mem_of_getElem? (i := 828) (by decide +kernel)⟩
theorem lw_p71 : lw_okq (⟨"TimedNetModel", "leavesAt", "(III)I"⟩, 36) := ⟨⟨by decide +kernel, by decide +kernel⟩, List.mem_of_getElem? (i := 630) (by decide +kernel), List.mem_of_getElem? (i := 831) (by decide +kernel), List.mem_of_getElem? (i := 832) (by decide +kernel)⟩
theorem lw_p72 : lw_okq (⟨"TimedNetModel", "stands", "(III)Z"⟩, 36) := ⟨⟨by decide +kernel, by decide +kernel⟩, List.mem_of_getElem? (i := 630) (by decide +kernel), List.mem_of_getElem? (i := 835) (by decide +kernel), List.mem_of_getElem? (i := 836) (by decide +kernel)⟩
theorem lw_p73 : lw_okq (⟨"TimedNetModel", "isClosed", "(III)Z"⟩, 36) := ⟨⟨by decide +kernel, by decide +kernel⟩, List.mem_of_getElem? (i := 630) (by decide +kernel), List.mem_of_getElem? (i := 839) (by decide +kernel), List.mem_of_getElem? (i := 840) (by decide +kernel)⟩
theorem lw_p74 : lw_okq (⟨"TimedNetModel", "goes", "(II)V"⟩, 36) := ⟨⟨by decide +kernel, by decide +kernel⟩, List.mem_of_getElem? (i := 630) (by decide +kernel), List.mem_of_getElem? (i := 843) (by decide +kernel), List.mem_of_getElem? (i := 844) (by decide +kernel)⟩
theorem lw_p75 : lw_okq (⟨"TimedNetModel", "follows", "(II)Z"⟩, 36) := ⟨⟨by decide +kernel, by decide +kernel⟩, List.mem_of_getElem? (i := 630) (by decide +kernel), List.mem_of_getElem? (i := 848) (by decide +kernel), List.mem_of_getElem? (i := 849) (by decide +kernel)⟩
theorem lw_p76 : lw_okq (⟨"TimedNetModel", "firstOf", "(I)I"⟩, 36) := ⟨⟨by decide +kernel, by decide +kernel⟩, List.mem_of_getElem? (i := 630) (by decide +kernel), List.mem_of_getElem? (i := 854) (by decide +kernel), List.mem_of_getElem? (i := 855) (by decide +kernel)⟩
theorem lw_p77 : lw_okq (⟨"TimedNetModel", "best", "(I)I"⟩, 36) := ⟨⟨by decide +kernel, by decide +kernel⟩, List.mem_of_getElem? (i := 630) (by decide +kernel), List.mem_of_getElem? (i := 858) (by decide +kernel), List.mem_of_getElem? (i := 859) (by decide +kernel)⟩
theorem lw_p78 : lw_okq (⟨"TimedNetModel", "ways", "(III)I"⟩, 36) := ⟨⟨by decide +kernel, by decide +kernel⟩, List.mem_of_getElem? (i := 630) (by decide +kernel), List.mem_of_getElem? (i := 878) (by decide +kernel), List.mem_of_getElem? (i := 879) (by decide +kernel)⟩
theorem lw_p79 : lw_okq (⟨"TimedNetModel", "isLess", "(II)Z"⟩, 36) := ⟨⟨by decide +kernel, by decide +kernel⟩, List.mem_of_getElem? (i := 630) (by decide +kernel), List.mem_of_getElem? (i := 882) (by decide +kernel), List.mem_of_getElem? (i := 883) (by decide +kernel)⟩
def lw_privs_5 : List (MethodName × Nat) := [(⟨"TimedNetModel", "no", "(I)Z"⟩, 36), (⟨"TimedNetModel", "logs", "(IIII)V"⟩, 36), (⟨"TimedNetModel", "isLine", "(I)Z"⟩, 36), (⟨"TimedNetModel", "isStruckNow", "(I)Z"⟩, 36), (⟨"TimedNetModel", "asked", "(IIIII)I"⟩, 36), (⟨"TimedNetModel", "lay", "(II)V"⟩, 36), (⟨"TimedNetModel", "known", "(I)V"⟩, 36), (⟨"TimedNetModel", "leavesAt", "(III)I"⟩, 36), (⟨"TimedNetModel", "stands", "(III)Z"⟩, 36), (⟨"TimedNetModel", "isClosed", "(III)Z"⟩, 36), (⟨"TimedNetModel", "goes", "(II)V"⟩, 36), (⟨"TimedNetModel", "follows", "(II)Z"⟩, 36), (⟨"TimedNetModel", "firstOf", "(I)I"⟩, 36), (⟨"TimedNetModel", "best", "(I)I"⟩, 36), (⟨"TimedNetModel", "ways", "(III)I"⟩, 36), (⟨"TimedNetModel", "isLess", "(II)Z"⟩, 36)]
theorem lw_r5 : ∀ q ∈ lw_privs_5, lw_okq q := List.forall_mem_cons.mpr ⟨lw_p64, List.forall_mem_cons.mpr ⟨lw_p65, List.forall_mem_cons.mpr ⟨lw_p66, List.forall_mem_cons.mpr ⟨lw_p67, List.forall_mem_cons.mpr ⟨lw_p68, List.forall_mem_cons.mpr ⟨lw_p69, List.forall_mem_cons.mpr ⟨lw_p70, List.forall_mem_cons.mpr ⟨lw_p71, List.forall_mem_cons.mpr ⟨lw_p72, List.forall_mem_cons.mpr ⟨lw_p73, List.forall_mem_cons.mpr ⟨lw_p74, List.forall_mem_cons.mpr ⟨lw_p75, List.forall_mem_cons.mpr ⟨lw_p76, List.forall_mem_cons.mpr ⟨lw_p77, List.forall_mem_cons.mpr ⟨lw_p78, List.forall_mem_cons.mpr ⟨lw_p79, fun _ h => absurd h List.not_mem_nil⟩⟩⟩⟩⟩⟩⟩⟩⟩⟩⟩⟩⟩⟩⟩⟩
theorem lw_p80 : lw_okq (⟨"TimedNetModel", "pairsOf", "(III)I"⟩, 36) := ⟨⟨by decide +kernel, by decide +kernel⟩, List.mem_of_getElem? (i := 630) (by decide +kernel), List.mem_of_getElem? (i := 894) (by decide +kernel), List.mem_of_getElem? (i := 895) (by decide +kernel)⟩
theorem lw_p81 : lw_okq (⟨"TimedNetModel", "askedReach", "(IIIII)I"⟩, 36) := ⟨⟨by decide +kernel, by decide +kernel⟩, List.mem_of_getElem? (i := 630) (by decide +kernel), List.mem_of_getElem? (i := 906) (by decide +kernel), List.mem_of_getElem? (i := 907) (by decide +kernel)⟩
theorem lw_p82 : lw_okq (⟨"TimedNetModel", "isReachedBy", "(III)Z"⟩, 36) := ⟨⟨by decide +kernel, by decide +kernel⟩, List.mem_of_getElem? (i := 630) (by decide +kernel), List.mem_of_getElem? (i := 910) (by decide +kernel), List.mem_of_getElem? (i := 911) (by decide +kernel)⟩
def lw_privs_6 : List (MethodName × Nat) := [(⟨"TimedNetModel", "pairsOf", "(III)I"⟩, 36), (⟨"TimedNetModel", "askedReach", "(IIIII)I"⟩, 36), (⟨"TimedNetModel", "isReachedBy", "(III)Z"⟩, 36)]
theorem lw_r6 : ∀ q ∈ lw_privs_6, lw_okq q := List.forall_mem_cons.mpr ⟨lw_p80, List.forall_mem_cons.mpr ⟨lw_p81, List.forall_mem_cons.mpr ⟨lw_p82, fun _ h => absurd h List.not_mem_nil⟩⟩⟩
def lw_privs : List (MethodName × Nat) := lw_privs_1 ++ (lw_privs_2 ++ (lw_privs_3 ++ (lw_privs_4 ++ (lw_privs_5 ++ (lw_privs_6)))))
def lw_tbl : List Cond := k2_sels lw_privs ++ tables_1
theorem lw_privs_ok : ∀ q ∈ lw_privs, lw_okq q := by
  show ∀ q ∈ lw_privs_1 ++ (lw_privs_2 ++ (lw_privs_3 ++ (lw_privs_4 ++ (lw_privs_5 ++ (lw_privs_6))))), lw_okq q
  exact List.forall_mem_append.mpr ⟨lw_r1, List.forall_mem_append.mpr ⟨lw_r2, List.forall_mem_append.mpr ⟨lw_r3, List.forall_mem_append.mpr ⟨lw_r4, List.forall_mem_append.mpr ⟨lw_r5, lw_r6⟩⟩⟩⟩⟩
end
section
def RX0 : String := "TimedNet$Lines"
def TX0 : u_T := fun k => match k with
  | 0 => ("TimedNet$Lines", "from", "[I", true)
  | 1 => ("TimedNet$Lines", "to", "[I", true)
  | 2 => ("TimedNet$Lines", "kind", "[I", true)
  | 3 => ("TimedNet$Lines", "leaves", "[I", true)
  | 4 => ("TimedNet$Lines", "takes", "[I", true)
  | 5 => ("TimedNet$Lines", "runs", "[I", true)
  | 6 => ("TimedNet$Lines", "period", "[I", true)
  | 7 => ("TimedNet$Lines", "base", "[I", true)
  | 8 => ("TimedNet$Lines", "struck", "[Z", true)
  | 9 => ("TimedNet$Lines", "size", "I", false)
  | _ => ("TimedNet$Lines", "allRuns", "I", false)
def tyX0 : Nat → FieldType := fun k => match k with
  | 0 => .array .int
  | 1 => .array .int
  | 2 => .array .int
  | 3 => .array .int
  | 4 => .array .int
  | 5 => .array .int
  | 6 => .array .int
  | 7 => .array .int
  | 8 => .array .boolean
  | 9 => .int
  | _ => .int
abbrev wsX00 : List Cond := u_ws RX0 TX0 11
theorem nmX0 : ∀ a, a < 11 → ∀ b, b < 11 → a ≠ b → (TX0 a).2.1 ≠ (TX0 b).2.1 := by decide +kernel
theorem tyX0_ok : ∀ k, k < 11 → parseFieldDescriptor (TX0 k).2.2.1 = some (tyX0 k) := by decide +kernel
abbrev cX0_init : ByteArray := prog_2_method_1_code
def yX0_init : MethodName := ⟨RX0, "<init>", "()V"⟩
abbrev cX0_add : ByteArray := prog_2_method_2_code
def yX0_add : MethodName := ⟨RX0, "add", "(IIIIIII)I"⟩
abbrev cX0_removeLatest : ByteArray := prog_2_method_3_code
def yX0_removeLatest : MethodName := ⟨RX0, "removeLatest", "()V"⟩
abbrev cX0_tell : ByteArray := prog_2_method_4_code
def yX0_tell : MethodName := ⟨RX0, "tell", "(II)I"⟩
abbrev cX0_plannedLeaving : ByteArray := prog_2_method_5_code
def yX0_plannedLeaving : MethodName := ⟨RX0, "plannedLeaving", "(II)I"⟩
def RX1 : String := "TimedNet$Log"
def TX1 : u_T := fun k => match k with
  | 0 => ("TimedNet$Log", "kinds", "[I", true)
  | 1 => ("TimedNet$Log", "subjects", "[I", true)
  | 2 => ("TimedNet$Log", "firsts", "[I", true)
  | 3 => ("TimedNet$Log", "seconds", "[I", true)
  | 4 => ("TimedNet$Log", "size", "I", false)
  | _ => ("TimedNet$Log", "closings", "I", false)
def tyX1 : Nat → FieldType := fun k => match k with
  | 0 => .array .int
  | 1 => .array .int
  | 2 => .array .int
  | 3 => .array .int
  | 4 => .int
  | _ => .int
abbrev wsX10 : List Cond := u_ws RX1 TX1 6
theorem nmX1 : ∀ a, a < 6 → ∀ b, b < 6 → a ≠ b → (TX1 a).2.1 ≠ (TX1 b).2.1 := by decide +kernel
theorem tyX1_ok : ∀ k, k < 6 → parseFieldDescriptor (TX1 k).2.2.1 = some (tyX1 k) := by decide +kernel
abbrev cX1_init : ByteArray := prog_3_method_1_code
def yX1_init : MethodName := ⟨RX1, "<init>", "()V"⟩
abbrev cX1_isFull : ByteArray := prog_3_method_2_code
def yX1_isFull : MethodName := ⟨RX1, "isFull", "()Z"⟩
abbrev cX1_add : ByteArray := prog_3_method_3_code
def yX1_add : MethodName := ⟨RX1, "add", "(IIII)V"⟩
abbrev cX1_removeLatest : ByteArray := prog_3_method_4_code
def yX1_removeLatest : MethodName := ⟨RX1, "removeLatest", "()V"⟩
abbrev cX1_isClosing : ByteArray := prog_3_method_5_code
def yX1_isClosing : MethodName := ⟨RX1, "isClosing", "(III)Z"⟩
def RX2 : String := "TimedNet$Nodes"
def TX2 : u_T := fun k => match k with
  | 0 => ("TimedNet$Nodes", "least", "[I", true)
  | 1 => ("TimedNet$Nodes", "longest", "[I", true)
  | _ => ("TimedNet$Nodes", "size", "I", false)
def tyX2 : Nat → FieldType := fun k => match k with
  | 0 => .array .int
  | 1 => .array .int
  | _ => .int
abbrev wsX20 : List Cond := u_ws RX2 TX2 3
theorem nmX2 : ∀ a, a < 3 → ∀ b, b < 3 → a ≠ b → (TX2 a).2.1 ≠ (TX2 b).2.1 := by decide +kernel
theorem tyX2_ok : ∀ k, k < 3 → parseFieldDescriptor (TX2 k).2.2.1 = some (tyX2 k) := by decide +kernel
abbrev cX2_init : ByteArray := prog_4_method_1_code
def yX2_init : MethodName := ⟨RX2, "<init>", "()V"⟩
abbrev cX2_add : ByteArray := prog_4_method_2_code
def yX2_add : MethodName := ⟨RX2, "add", "(II)I"⟩
abbrev cX2_set : ByteArray := prog_4_method_3_code
def yX2_set : MethodName := ⟨RX2, "set", "(III)V"⟩
abbrev cX2_latestComing : ByteArray := prog_4_method_4_code
def yX2_latestComing : MethodName := ⟨RX2, "latestComing", "(II)I"⟩
abbrev cX2_soonestComing : ByteArray := prog_4_method_5_code
def yX2_soonestComing : MethodName := ⟨RX2, "soonestComing", "(II)I"⟩
def RX3 : String := "TimedNet$Search"
def TX3 : u_T := fun k => match k with
  | 0 => ("TimedNet$Search", "nodes", "LTimedNet$Nodes;", true)
  | 1 => ("TimedNet$Search", "view", "LTimedNet$View;", true)
  | 2 => ("TimedNet$Search", "worth", "[I", true)
  | 3 => ("TimedNet$Search", "queue", "[I", true)
  | 4 => ("TimedNet$Search", "heads", "[I", true)
  | 5 => ("TimedNet$Search", "tails", "[I", true)
  | 6 => ("TimedNet$Search", "nexts", "[I", true)
  | 7 => ("TimedNet$Search", "pairEnds", "[I", true)
  | _ => ("TimedNet$Search", "isCounting", "Z", false)
def tyX3 : Nat → FieldType := fun k => match k with
  | 0 => .object "TimedNet$Nodes"
  | 1 => .object "TimedNet$View"
  | 2 => .array .int
  | 3 => .array .int
  | 4 => .array .int
  | 5 => .array .int
  | 6 => .array .int
  | 7 => .array .int
  | _ => .boolean
abbrev wsX30 : List Cond := u_ws RX3 TX3 9
theorem nmX3 : ∀ a, a < 9 → ∀ b, b < 9 → a ≠ b → (TX3 a).2.1 ≠ (TX3 b).2.1 := by decide +kernel
theorem tyX3_ok : ∀ k, k < 9 → parseFieldDescriptor (TX3 k).2.2.1 = some (tyX3 k) := by decide +kernel
abbrev cX3_init : ByteArray := prog_5_method_1_code
def yX3_init : MethodName := ⟨RX3, "<init>", "(LTimedNet$Nodes;LTimedNet$View;)V"⟩
abbrev cX3_spread : ByteArray := prog_5_method_2_code
def yX3_spread : MethodName := ⟨RX3, "spread", "(IIIZ)V"⟩
abbrev cX3_emptyQueues : ByteArray := prog_5_method_3_code
def yX3_emptyQueues : MethodName := ⟨RX3, "emptyQueues", "()V"⟩
abbrev cX3_worthBehindOthers : ByteArray := prog_5_method_4_code
def yX3_worthBehindOthers : MethodName := ⟨RX3, "worthBehindOthers", "(I)I"⟩
abbrev cX3_takeIn : ByteArray := prog_5_method_5_code
def yX3_takeIn : MethodName := ⟨RX3, "takeIn", "(II)V"⟩
abbrev cX3_join : ByteArray := prog_5_method_6_code
def yX3_join : MethodName := ⟨RX3, "join", "(II)V"⟩
abbrev cX3_dropOld : ByteArray := prog_5_method_7_code
def yX3_dropOld : MethodName := ⟨RX3, "dropOld", "(II)V"⟩
abbrev cX3_isBetter : ByteArray := prog_5_method_8_code
def yX3_isBetter : MethodName := ⟨RX3, "isBetter", "(II)Z"⟩
abbrev cX3_firstComing : ByteArray := prog_5_method_9_code
def yX3_firstComing : MethodName := ⟨RX3, "firstComing", "(I)I"⟩
abbrev cX3_isComing : ByteArray := prog_5_method_10_code
def yX3_isComing : MethodName := ⟨RX3, "isComing", "(II)Z"⟩
abbrev cX3_isEnd : ByteArray := prog_5_method_11_code
def yX3_isEnd : MethodName := ⟨RX3, "isEnd", "(II)Z"⟩
abbrev cX3_lastLeaving : ByteArray := prog_5_method_12_code
def yX3_lastLeaving : MethodName := ⟨RX3, "lastLeaving", "(II)I"⟩
abbrev cX3_leastTicks : ByteArray := prog_5_method_13_code
def yX3_leastTicks : MethodName := ⟨RX3, "leastTicks", "(II)I"⟩
abbrev cX3_leastRuns : ByteArray := prog_5_method_14_code
def yX3_leastRuns : MethodName := ⟨RX3, "leastRuns", "(II)I"⟩
abbrev cX3_findBestPairs : ByteArray := prog_5_method_15_code
def yX3_findBestPairs : MethodName := ⟨RX3, "findBestPairs", "(I)I"⟩
abbrev cX3_pairLeaving : ByteArray := prog_5_method_16_code
def yX3_pairLeaving : MethodName := ⟨RX3, "pairLeaving", "(I)I"⟩
abbrev cX3_pairComing : ByteArray := prog_5_method_17_code
def yX3_pairComing : MethodName := ⟨RX3, "pairComing", "(I)I"⟩
abbrev cX3_trace : ByteArray := prog_5_method_18_code
def yX3_trace : MethodName := ⟨RX3, "trace", "(I[I)I"⟩
abbrev cX3_lastOfWay : ByteArray := prog_5_method_19_code
def yX3_lastOfWay : MethodName := ⟨RX3, "lastOfWay", "(I)I"⟩
abbrev cX3_isLesserEnd : ByteArray := prog_5_method_20_code
def yX3_isLesserEnd : MethodName := ⟨RX3, "isLesserEnd", "(II)Z"⟩
abbrev cX3_oneAhead : ByteArray := prog_5_method_21_code
def yX3_oneAhead : MethodName := ⟨RX3, "oneAhead", "(I)I"⟩
def RX4 : String := "TimedNet$Sorter"
def TX4 : u_T := fun k => match k with
  | _ => ("TimedNet$Sorter", "spare", "[I", true)
def tyX4 : Nat → FieldType := fun k => match k with
  | _ => .array .int
abbrev wsX40 : List Cond := u_ws RX4 TX4 1
theorem nmX4 : ∀ a, a < 1 → ∀ b, b < 1 → a ≠ b → (TX4 a).2.1 ≠ (TX4 b).2.1 := by decide +kernel
theorem tyX4_ok : ∀ k, k < 1 → parseFieldDescriptor (TX4 k).2.2.1 = some (tyX4 k) := by decide +kernel
abbrev cX4_init : ByteArray := prog_6_method_1_code
def yX4_init : MethodName := ⟨RX4, "<init>", "()V"⟩
abbrev cX4_sort : ByteArray := prog_6_method_2_code
def yX4_sort : MethodName := ⟨RX4, "sort", "([II[I)V"⟩
abbrev cX4_merge : ByteArray := prog_6_method_3_code
def yX4_merge : MethodName := ⟨RX4, "merge", "([I[IIII)V"⟩
def RX5 : String := "TimedNet$View"
def TX5 : u_T := fun k => match k with
  | 0 => ("TimedNet$View", "lines", "LTimedNet$Lines;", true)
  | 1 => ("TimedNet$View", "log", "LTimedNet$Log;", true)
  | 2 => ("TimedNet$View", "sorter", "LTimedNet$Sorter;", true)
  | 3 => ("TimedNet$View", "struck", "[Z", true)
  | 4 => ("TimedNet$View", "closings", "[I", true)
  | 5 => ("TimedNet$View", "delays", "[I", true)
  | 6 => ("TimedNet$View", "owners", "[I", true)
  | 7 => ("TimedNet$View", "leavings", "[I", true)
  | 8 => ("TimedNet$View", "comings", "[I", true)
  | 9 => ("TimedNet$View", "stands", "[Z", true)
  | 10 => ("TimedNet$View", "byLeaving", "[I", true)
  | 11 => ("TimedNet$View", "byGoal", "[I", true)
  | 12 => ("TimedNet$View", "goalKeys", "[I", true)
  | 13 => ("TimedNet$View", "goalEnds", "[I", true)
  | 14 => ("TimedNet$View", "closingCount", "I", false)
  | 15 => ("TimedNet$View", "lineCount", "I", false)
  | 16 => ("TimedNet$View", "size", "I", false)
  | _ => ("TimedNet$View", "shown", "I", false)
def tyX5 : Nat → FieldType := fun k => match k with
  | 0 => .object "TimedNet$Lines"
  | 1 => .object "TimedNet$Log"
  | 2 => .object "TimedNet$Sorter"
  | 3 => .array .boolean
  | 4 => .array .int
  | 5 => .array .int
  | 6 => .array .int
  | 7 => .array .int
  | 8 => .array .int
  | 9 => .array .boolean
  | 10 => .array .int
  | 11 => .array .int
  | 12 => .array .int
  | 13 => .array .int
  | 14 => .int
  | 15 => .int
  | 16 => .int
  | _ => .int
abbrev wsX50 : List Cond := u_ws RX5 TX5 18
theorem nmX5 : ∀ a, a < 18 → ∀ b, b < 18 → a ≠ b → (TX5 a).2.1 ≠ (TX5 b).2.1 := by decide +kernel
theorem tyX5_ok : ∀ k, k < 18 → parseFieldDescriptor (TX5 k).2.2.1 = some (tyX5 k) := by decide +kernel
abbrev cX5_init : ByteArray := prog_7_method_1_code
def yX5_init : MethodName := ⟨RX5, "<init>", "(LTimedNet$Lines;LTimedNet$Log;)V"⟩
abbrev cX5_forget : ByteArray := prog_7_method_2_code
def yX5_forget : MethodName := ⟨RX5, "forget", "()V"⟩
abbrev cX5_show : ByteArray := prog_7_method_3_code
def yX5_show : MethodName := ⟨RX5, "show", "(I)V"⟩
abbrev cX5_replay : ByteArray := prog_7_method_4_code
def yX5_replay : MethodName := ⟨RX5, "replay", "(I)V"⟩
abbrev cX5_repeat : ByteArray := prog_7_method_5_code
def yX5_repeat : MethodName := ⟨RX5, "repeat", "(I)V"⟩
abbrev cX5_timeRuns : ByteArray := prog_7_method_6_code
def yX5_timeRuns : MethodName := ⟨RX5, "timeRuns", "()V"⟩
abbrev cX5_timeRun : ByteArray := prog_7_method_7_code
def yX5_timeRun : MethodName := ⟨RX5, "timeRun", "(II)V"⟩
abbrev cX5_isClosed : ByteArray := prog_7_method_8_code
def yX5_isClosed : MethodName := ⟨RX5, "isClosed", "(II)Z"⟩
abbrev cX5_orderRuns : ByteArray := prog_7_method_9_code
def yX5_orderRuns : MethodName := ⟨RX5, "orderRuns", "()V"⟩
abbrev cX5_startOf : ByteArray := prog_7_method_10_code
def yX5_startOf : MethodName := ⟨RX5, "startOf", "(I)I"⟩
abbrev cX5_goalOf : ByteArray := prog_7_method_11_code
def yX5_goalOf : MethodName := ⟨RX5, "goalOf", "(I)I"⟩
abbrev cX5_placeOf : ByteArray := prog_7_method_12_code
def yX5_placeOf : MethodName := ⟨RX5, "placeOf", "(I)I"⟩
abbrev cX5_goalBegin : ByteArray := prog_7_method_13_code
def yX5_goalBegin : MethodName := ⟨RX5, "goalBegin", "(I)I"⟩
abbrev cX5_tell : ByteArray := prog_7_method_14_code
def yX5_tell : MethodName := ⟨RX5, "tell", "(II)I"⟩
def RX6 : String := "TimedNet"
def TX6 : u_T := fun k => match k with
  | 0 => ("TimedNet", "nodes", "LTimedNet$Nodes;", true)
  | 1 => ("TimedNet", "lines", "LTimedNet$Lines;", true)
  | 2 => ("TimedNet", "log", "LTimedNet$Log;", true)
  | 3 => ("TimedNet", "view", "LTimedNet$View;", true)
  | 4 => ("TimedNet", "search", "LTimedNet$Search;", true)
  | 5 => ("TimedNet", "outRow", "[I", true)
  | 6 => ("TimedNet", "spareRow", "[I", true)
  | 7 => ("TimedNet", "outSize", "I", false)
  | _ => ("TimedNet", "latestStatus", "I", false)
def tyX6 : Nat → FieldType := fun k => match k with
  | 0 => .object "TimedNet$Nodes"
  | 1 => .object "TimedNet$Lines"
  | 2 => .object "TimedNet$Log"
  | 3 => .object "TimedNet$View"
  | 4 => .object "TimedNet$Search"
  | 5 => .array .int
  | 6 => .array .int
  | 7 => .int
  | _ => .int
abbrev wsX60 : List Cond := u_ws RX6 TX6 9
theorem nmX6 : ∀ a, a < 9 → ∀ b, b < 9 → a ≠ b → (TX6 a).2.1 ≠ (TX6 b).2.1 := by decide +kernel
theorem tyX6_ok : ∀ k, k < 9 → parseFieldDescriptor (TX6 k).2.2.1 = some (tyX6 k) := by decide +kernel
abbrev cX6_init : ByteArray := prog_1_method_1_code
def yX6_init : MethodName := ⟨RX6, "<init>", "()V"⟩
abbrev cX6_status : ByteArray := prog_1_method_2_code
def yX6_status : MethodName := ⟨RX6, "status", "()I"⟩
abbrev cX6_node : ByteArray := prog_1_method_3_code
def yX6_node : MethodName := ⟨RX6, "node", "(II)I"⟩
abbrev cX6_waits : ByteArray := prog_1_method_4_code
def yX6_waits : MethodName := ⟨RX6, "waits", "(III)Z"⟩
abbrev cX6_line : ByteArray := prog_1_method_5_code
def yX6_line : MethodName := ⟨RX6, "line", "(IIIIIII)I"⟩
abbrev cX6_strike : ByteArray := prog_1_method_6_code
def yX6_strike : MethodName := ⟨RX6, "strike", "(I)Z"⟩
abbrev cX6_delay : ByteArray := prog_1_method_7_code
def yX6_delay : MethodName := ⟨RX6, "delay", "(III)Z"⟩
abbrev cX6_close : ByteArray := prog_1_method_8_code
def yX6_close : MethodName := ⟨RX6, "close", "(III)Z"⟩
abbrev cX6_changes : ByteArray := prog_1_method_9_code
def yX6_changes : MethodName := ⟨RX6, "changes", "()I"⟩
abbrev cX6_undo : ByteArray := prog_1_method_10_code
def yX6_undo : MethodName := ⟨RX6, "undo", "()Z"⟩
abbrev cX6_told : ByteArray := prog_1_method_11_code
def yX6_told : MethodName := ⟨RX6, "told", "(II)I"⟩
abbrev cX6_run : ByteArray := prog_1_method_12_code
def yX6_run : MethodName := ⟨RX6, "run", "(IIII)I"⟩
abbrev cX6_first : ByteArray := prog_1_method_13_code
def yX6_first : MethodName := ⟨RX6, "first", "(IIII)I"⟩
abbrev cX6_last : ByteArray := prog_1_method_14_code
def yX6_last : MethodName := ⟨RX6, "last", "(IIII)I"⟩
abbrev cX6_quickest : ByteArray := prog_1_method_15_code
def yX6_quickest : MethodName := ⟨RX6, "quickest", "(IIIII)I"⟩
abbrev cX6_fewest : ByteArray := prog_1_method_16_code
def yX6_fewest : MethodName := ⟨RX6, "fewest", "(IIIII)I"⟩
abbrev cX6_way : ByteArray := prog_1_method_17_code
def yX6_way : MethodName := ⟨RX6, "way", "(IIII)I"⟩
abbrev cX6_out : ByteArray := prog_1_method_18_code
def yX6_out : MethodName := ⟨RX6, "out", "(I)I"⟩
abbrev cX6_pairs : ByteArray := prog_1_method_19_code
def yX6_pairs : MethodName := ⟨RX6, "pairs", "(III)I"⟩
abbrev cX6_pair : ByteArray := prog_1_method_20_code
def yX6_pair : MethodName := ⟨RX6, "pair", "(IIIIZ)I"⟩
abbrev cX6_reached : ByteArray := prog_1_method_21_code
def yX6_reached : MethodName := ⟨RX6, "reached", "(IIII)I"⟩
abbrev cX6_isReached : ByteArray := prog_1_method_22_code
def yX6_isReached : MethodName := ⟨RX6, "isReached", "(IIIII)I"⟩
abbrev cX6_without : ByteArray := prog_1_method_23_code
def yX6_without : MethodName := ⟨RX6, "without", "(IIII)I"⟩
abbrev cX6_weakest : ByteArray := prog_1_method_24_code
def yX6_weakest : MethodName := ⟨RX6, "weakest", "(III)I"⟩
abbrev cX6_stand : ByteArray := prog_1_method_25_code
def yX6_stand : MethodName := ⟨RX6, "stand", "(I)I"⟩
abbrev cX6_answer : ByteArray := prog_1_method_26_code
def yX6_answer : MethodName := ⟨RX6, "answer", "(I)I"⟩
abbrev cX6_refuse : ByteArray := prog_1_method_27_code
def yX6_refuse : MethodName := ⟨RX6, "refuse", "(I)I"⟩
abbrev cX6_answerOfWay : ByteArray := prog_1_method_28_code
def yX6_answerOfWay : MethodName := ⟨RX6, "answerOfWay", "(I)I"⟩
abbrev cX6_agree : ByteArray := prog_1_method_29_code
def yX6_agree : MethodName := ⟨RX6, "agree", "()Z"⟩
abbrev cX6_deny : ByteArray := prog_1_method_30_code
def yX6_deny : MethodName := ⟨RX6, "deny", "(I)Z"⟩
abbrev cX6_explore : ByteArray := prog_1_method_31_code
def yX6_explore : MethodName := ⟨RX6, "explore", "(IIIZ)V"⟩
abbrev cX6_isFound : ByteArray := prog_1_method_32_code
def yX6_isFound : MethodName := ⟨RX6, "isFound", "(III)Z"⟩
abbrev cX6_comingWithout : ByteArray := prog_1_method_33_code
def yX6_comingWithout : MethodName := ⟨RX6, "comingWithout", "(IIII)I"⟩
abbrev cX6_isInSpareRow : ByteArray := prog_1_method_34_code
def yX6_isInSpareRow : MethodName := ⟨RX6, "isInSpareRow", "(II)Z"⟩
abbrev cX6_wayFault : ByteArray := prog_1_method_35_code
def yX6_wayFault : MethodName := ⟨RX6, "wayFault", "(IIIII)I"⟩
abbrev cX6_reachFault : ByteArray := prog_1_method_36_code
def yX6_reachFault : MethodName := ⟨RX6, "reachFault", "(IIIII)I"⟩
abbrev cX6_isNode : ByteArray := prog_1_method_37_code
def yX6_isNode : MethodName := ⟨RX6, "isNode", "(I)Z"⟩
abbrev cX6_areEnds : ByteArray := prog_1_method_38_code
def yX6_areEnds : MethodName := ⟨RX6, "areEnds", "(II)Z"⟩
abbrev cX6_isLine : ByteArray := prog_1_method_39_code
def yX6_isLine : MethodName := ⟨RX6, "isLine", "(I)Z"⟩
abbrev cX6_isChange : ByteArray := prog_1_method_40_code
def yX6_isChange : MethodName := ⟨RX6, "isChange", "(I)Z"⟩
abbrev cX6_isBetween : ByteArray := prog_1_method_41_code
def yX6_isBetween : MethodName := ⟨RX6, "isBetween", "(III)Z"⟩
abbrev cX6_isTick : ByteArray := prog_1_method_42_code
def yX6_isTick : MethodName := ⟨RX6, "isTick", "(I)Z"⟩
abbrev cX6_areWaits : ByteArray := prog_1_method_43_code
def yX6_areWaits : MethodName := ⟨RX6, "areWaits", "(II)Z"⟩
abbrev cX6_isPlan : ByteArray := prog_1_method_44_code
def yX6_isPlan : MethodName := ⟨RX6, "isPlan", "(III)Z"⟩
def RX7 : String := "TimedNetModel"
def TX7 : u_T := fun k => match k with
  | 0 => ("TimedNetModel", "status", "I", false)
  | 1 => ("TimedNetModel", "thrown", "I", false)
  | 2 => ("TimedNetModel", "nodes", "I", false)
  | 3 => ("TimedNetModel", "lines", "I", false)
  | 4 => ("TimedNetModel", "runs", "I", false)
  | 5 => ("TimedNetModel", "changes", "I", false)
  | 6 => ("TimedNetModel", "spans", "I", false)
  | 7 => ("TimedNetModel", "change", "[I", true)
  | 8 => ("TimedNetModel", "longest", "[I", true)
  | 9 => ("TimedNetModel", "from", "[I", true)
  | 10 => ("TimedNetModel", "to", "[I", true)
  | 11 => ("TimedNetModel", "kind", "[I", true)
  | 12 => ("TimedNetModel", "leaves", "[I", true)
  | 13 => ("TimedNetModel", "takes", "[I", true)
  | 14 => ("TimedNetModel", "times", "[I", true)
  | 15 => ("TimedNetModel", "period", "[I", true)
  | 16 => ("TimedNetModel", "what", "[I", true)
  | 17 => ("TimedNetModel", "one", "[I", true)
  | 18 => ("TimedNetModel", "two", "[I", true)
  | 19 => ("TimedNetModel", "three", "[I", true)
  | 20 => ("TimedNetModel", "isThere", "[Z", true)
  | 21 => ("TimedNetModel", "isStruck", "[Z", true)
  | 22 => ("TimedNetModel", "many", "I", false)
  | 23 => ("TimedNetModel", "runLine", "[I", true)
  | 24 => ("TimedNetModel", "runNumber", "[I", true)
  | 25 => ("TimedNetModel", "runLeaves", "[I", true)
  | 26 => ("TimedNetModel", "runComes", "[I", true)
  | 27 => ("TimedNetModel", "begun", "[I", true)
  | 28 => ("TimedNetModel", "steps", "[I", true)
  | 29 => ("TimedNetModel", "reached", "[Z", true)
  | 30 => ("TimedNetModel", "out", "[I", true)
  | 31 => ("TimedNetModel", "outs", "I", false)
  | 32 => ("TimedNetModel", "pairLeaves", "[I", true)
  | 33 => ("TimedNetModel", "pairComes", "[I", true)
  | 34 => ("TimedNetModel", "wayLine", "[I", true)
  | _ => ("TimedNetModel", "kept", "[I", true)
def tyX7 : Nat → FieldType := fun k => match k with
  | 0 => .int
  | 1 => .int
  | 2 => .int
  | 3 => .int
  | 4 => .int
  | 5 => .int
  | 6 => .int
  | 7 => .array .int
  | 8 => .array .int
  | 9 => .array .int
  | 10 => .array .int
  | 11 => .array .int
  | 12 => .array .int
  | 13 => .array .int
  | 14 => .array .int
  | 15 => .array .int
  | 16 => .array .int
  | 17 => .array .int
  | 18 => .array .int
  | 19 => .array .int
  | 20 => .array .boolean
  | 21 => .array .boolean
  | 22 => .int
  | 23 => .array .int
  | 24 => .array .int
  | 25 => .array .int
  | 26 => .array .int
  | 27 => .array .int
  | 28 => .array .int
  | 29 => .array .boolean
  | 30 => .array .int
  | 31 => .int
  | 32 => .array .int
  | 33 => .array .int
  | 34 => .array .int
  | _ => .array .int
abbrev wsX70 : List Cond := u_ws RX7 TX7 36
theorem nmX7 : ∀ a, a < 36 → ∀ b, b < 36 → a ≠ b → (TX7 a).2.1 ≠ (TX7 b).2.1 := by decide +kernel
theorem tyX7_ok : ∀ k, k < 36 → parseFieldDescriptor (TX7 k).2.2.1 = some (tyX7 k) := by decide +kernel
abbrev cX7_init : ByteArray := prog_9_method_1_code
def yX7_init : MethodName := ⟨RX7, "<init>", "()V"⟩
abbrev cX7_status : ByteArray := prog_9_method_3_code
def yX7_status : MethodName := ⟨RX7, "status", "()I"⟩
abbrev cX7_refuse : ByteArray := prog_9_method_4_code
def yX7_refuse : MethodName := ⟨RX7, "refuse", "(I)I"⟩
abbrev cX7_no : ByteArray := prog_9_method_5_code
def yX7_no : MethodName := ⟨RX7, "no", "(I)Z"⟩
abbrev cX7_isNode : ByteArray := prog_9_method_6_code
def yX7_isNode : MethodName := ⟨RX7, "isNode", "(I)Z"⟩
abbrev cX7_isLine : ByteArray := prog_9_method_7_code
def yX7_isLine : MethodName := ⟨RX7, "isLine", "(I)Z"⟩
abbrev cX7_isTick : ByteArray := prog_9_method_8_code
def yX7_isTick : MethodName := ⟨RX7, "isTick", "(I)Z"⟩
abbrev cX7_areWaits : ByteArray := prog_9_method_9_code
def yX7_areWaits : MethodName := ⟨RX7, "areWaits", "(II)Z"⟩
abbrev cX7_node : ByteArray := prog_9_method_10_code
def yX7_node : MethodName := ⟨RX7, "node", "(II)I"⟩
abbrev cX7_waits : ByteArray := prog_9_method_11_code
def yX7_waits : MethodName := ⟨RX7, "waits", "(III)Z"⟩
abbrev cX7_logs : ByteArray := prog_9_method_12_code
def yX7_logs : MethodName := ⟨RX7, "logs", "(IIII)V"⟩
abbrev cX7_line : ByteArray := prog_9_method_13_code
def yX7_line : MethodName := ⟨RX7, "line", "(IIIIIII)I"⟩
abbrev cX7_isStruckNow : ByteArray := prog_9_method_14_code
def yX7_isStruckNow : MethodName := ⟨RX7, "isStruckNow", "(I)Z"⟩
abbrev cX7_strike : ByteArray := prog_9_method_15_code
def yX7_strike : MethodName := ⟨RX7, "strike", "(I)Z"⟩
abbrev cX7_delay : ByteArray := prog_9_method_16_code
def yX7_delay : MethodName := ⟨RX7, "delay", "(III)Z"⟩
abbrev cX7_close : ByteArray := prog_9_method_17_code
def yX7_close : MethodName := ⟨RX7, "close", "(III)Z"⟩
abbrev cX7_changes : ByteArray := prog_9_method_18_code
def yX7_changes : MethodName := ⟨RX7, "changes", "()I"⟩
abbrev cX7_undo : ByteArray := prog_9_method_19_code
def yX7_undo : MethodName := ⟨RX7, "undo", "()Z"⟩
abbrev cX7_told : ByteArray := prog_9_method_20_code
def yX7_told : MethodName := ⟨RX7, "told", "(II)I"⟩
abbrev cX7_known : ByteArray := prog_9_method_21_code
def yX7_known : MethodName := ⟨RX7, "known", "(I)V"⟩
abbrev cX7_leavesAt : ByteArray := prog_9_method_22_code
def yX7_leavesAt : MethodName := ⟨RX7, "leavesAt", "(III)I"⟩
abbrev cX7_isClosed : ByteArray := prog_9_method_23_code
def yX7_isClosed : MethodName := ⟨RX7, "isClosed", "(III)Z"⟩
abbrev cX7_stands : ByteArray := prog_9_method_24_code
def yX7_stands : MethodName := ⟨RX7, "stands", "(III)Z"⟩
abbrev cX7_lay : ByteArray := prog_9_method_25_code
def yX7_lay : MethodName := ⟨RX7, "lay", "(II)V"⟩
abbrev cX7_follows : ByteArray := prog_9_method_26_code
def yX7_follows : MethodName := ⟨RX7, "follows", "(II)Z"⟩
abbrev cX7_goes : ByteArray := prog_9_method_27_code
def yX7_goes : MethodName := ⟨RX7, "goes", "(II)V"⟩
abbrev cX7_firstOf : ByteArray := prog_9_method_28_code
def yX7_firstOf : MethodName := ⟨RX7, "firstOf", "(I)I"⟩
abbrev cX7_asked : ByteArray := prog_9_method_29_code
def yX7_asked : MethodName := ⟨RX7, "asked", "(IIIII)I"⟩
abbrev cX7_best : ByteArray := prog_9_method_30_code
def yX7_best : MethodName := ⟨RX7, "best", "(I)I"⟩
abbrev cX7_first : ByteArray := prog_9_method_31_code
def yX7_first : MethodName := ⟨RX7, "first", "(IIII)I"⟩
abbrev cX7_last : ByteArray := prog_9_method_32_code
def yX7_last : MethodName := ⟨RX7, "last", "(IIII)I"⟩
abbrev cX7_quickest : ByteArray := prog_9_method_33_code
def yX7_quickest : MethodName := ⟨RX7, "quickest", "(IIIII)I"⟩
abbrev cX7_fewest : ByteArray := prog_9_method_34_code
def yX7_fewest : MethodName := ⟨RX7, "fewest", "(IIIII)I"⟩
abbrev cX7_isLess : ByteArray := prog_9_method_35_code
def yX7_isLess : MethodName := ⟨RX7, "isLess", "(II)Z"⟩
abbrev cX7_ways : ByteArray := prog_9_method_36_code
def yX7_ways : MethodName := ⟨RX7, "ways", "(III)I"⟩
abbrev cX7_way : ByteArray := prog_9_method_37_code
def yX7_way : MethodName := ⟨RX7, "way", "(IIII)I"⟩
abbrev cX7_out : ByteArray := prog_9_method_38_code
def yX7_out : MethodName := ⟨RX7, "out", "(I)I"⟩
abbrev cX7_pairsOf : ByteArray := prog_9_method_39_code
def yX7_pairsOf : MethodName := ⟨RX7, "pairsOf", "(III)I"⟩
abbrev cX7_pairs : ByteArray := prog_9_method_40_code
def yX7_pairs : MethodName := ⟨RX7, "pairs", "(III)I"⟩
abbrev cX7_pair : ByteArray := prog_9_method_41_code
def yX7_pair : MethodName := ⟨RX7, "pair", "(IIIIZ)I"⟩
abbrev cX7_isReachedBy : ByteArray := prog_9_method_42_code
def yX7_isReachedBy : MethodName := ⟨RX7, "isReachedBy", "(III)Z"⟩
abbrev cX7_askedReach : ByteArray := prog_9_method_43_code
def yX7_askedReach : MethodName := ⟨RX7, "askedReach", "(IIIII)I"⟩
abbrev cX7_reached : ByteArray := prog_9_method_44_code
def yX7_reached : MethodName := ⟨RX7, "reached", "(IIII)I"⟩
abbrev cX7_isReached : ByteArray := prog_9_method_45_code
def yX7_isReached : MethodName := ⟨RX7, "isReached", "(IIIII)I"⟩
abbrev cX7_without : ByteArray := prog_9_method_46_code
def yX7_without : MethodName := ⟨RX7, "without", "(IIII)I"⟩
abbrev cX7_weakest : ByteArray := prog_9_method_47_code
def yX7_weakest : MethodName := ⟨RX7, "weakest", "(III)I"⟩
abbrev cX7_run : ByteArray := prog_9_method_48_code
def yX7_run : MethodName := ⟨RX7, "run", "(IIII)I"⟩
abbrev cX7_stand : ByteArray := prog_9_method_49_code
def yX7_stand : MethodName := ⟨RX7, "stand", "(I)I"⟩
def RL : String := "TimedNetLaw"
abbrev cL_law : ByteArray := code
def yL_law : MethodName := ⟨RL, "law", "([I)Z"⟩
abbrev vwCl : List vw_C := [(RX0, TX0, 11), (RX1, TX1, 6), (RX2, TX2, 3), (RX3, TX3, 9), (RX4, TX4, 1), (RX5, TX5, 18), (RX6, TX6, 9), (RX7, TX7, 36)]
end
section
theorem dX0_init_0 : decode cX0_init 0 = .ok (.aload_n 0, 1) := by decide +kernel
theorem dX0_init_1 : decode cX0_init 1 = .ok (.invokespecial 3, 3) := by decide +kernel
theorem dX0_init_4 : decode cX0_init 4 = .ok (.aload_n 0, 1) := by decide +kernel
theorem dX0_init_5 : decode cX0_init 5 = .ok (.bipush 100, 2) := by decide +kernel
theorem dX0_init_7 : decode cX0_init 7 = .ok (.newarray .int, 2) := by decide +kernel
theorem dX0_init_9 : decode cX0_init 9 = .ok (.putfield 9, 3) := by decide +kernel
theorem dX0_init_12 : decode cX0_init 12 = .ok (.aload_n 0, 1) := by decide +kernel
theorem dX0_init_13 : decode cX0_init 13 = .ok (.bipush 100, 2) := by decide +kernel
theorem dX0_init_15 : decode cX0_init 15 = .ok (.newarray .int, 2) := by decide +kernel
theorem dX0_init_17 : decode cX0_init 17 = .ok (.putfield 15, 3) := by decide +kernel
theorem dX0_init_20 : decode cX0_init 20 = .ok (.aload_n 0, 1) := by decide +kernel
theorem dX0_init_21 : decode cX0_init 21 = .ok (.bipush 100, 2) := by decide +kernel
theorem dX0_init_23 : decode cX0_init 23 = .ok (.newarray .int, 2) := by decide +kernel
theorem dX0_init_25 : decode cX0_init 25 = .ok (.putfield 18, 3) := by decide +kernel
theorem dX0_init_28 : decode cX0_init 28 = .ok (.aload_n 0, 1) := by decide +kernel
theorem dX0_init_29 : decode cX0_init 29 = .ok (.bipush 100, 2) := by decide +kernel
theorem dX0_init_31 : decode cX0_init 31 = .ok (.newarray .int, 2) := by decide +kernel
theorem dX0_init_33 : decode cX0_init 33 = .ok (.putfield 21, 3) := by decide +kernel
theorem dX0_init_36 : decode cX0_init 36 = .ok (.aload_n 0, 1) := by decide +kernel
theorem dX0_init_37 : decode cX0_init 37 = .ok (.bipush 100, 2) := by decide +kernel
theorem dX0_init_39 : decode cX0_init 39 = .ok (.newarray .int, 2) := by decide +kernel
theorem dX0_init_41 : decode cX0_init 41 = .ok (.putfield 24, 3) := by decide +kernel
theorem dX0_init_44 : decode cX0_init 44 = .ok (.aload_n 0, 1) := by decide +kernel
theorem dX0_init_45 : decode cX0_init 45 = .ok (.bipush 100, 2) := by decide +kernel
theorem dX0_init_47 : decode cX0_init 47 = .ok (.newarray .int, 2) := by decide +kernel
theorem dX0_init_49 : decode cX0_init 49 = .ok (.putfield 27, 3) := by decide +kernel
theorem dX0_init_52 : decode cX0_init 52 = .ok (.aload_n 0, 1) := by decide +kernel
theorem dX0_init_53 : decode cX0_init 53 = .ok (.bipush 100, 2) := by decide +kernel
theorem dX0_init_55 : decode cX0_init 55 = .ok (.newarray .int, 2) := by decide +kernel
theorem dX0_init_57 : decode cX0_init 57 = .ok (.putfield 30, 3) := by decide +kernel
theorem dX0_init_60 : decode cX0_init 60 = .ok (.aload_n 0, 1) := by decide +kernel
theorem dX0_init_61 : decode cX0_init 61 = .ok (.bipush 100, 2) := by decide +kernel
theorem dX0_init_63 : decode cX0_init 63 = .ok (.newarray .int, 2) := by decide +kernel
theorem dX0_init_65 : decode cX0_init 65 = .ok (.putfield 33, 3) := by decide +kernel
theorem dX0_init_68 : decode cX0_init 68 = .ok (.aload_n 0, 1) := by decide +kernel
theorem dX0_init_69 : decode cX0_init 69 = .ok (.bipush 100, 2) := by decide +kernel
theorem dX0_init_71 : decode cX0_init 71 = .ok (.newarray .boolean, 2) := by decide +kernel
theorem dX0_init_73 : decode cX0_init 73 = .ok (.putfield 36, 3) := by decide +kernel
theorem dX0_init_76 : decode cX0_init 76 = .ok (.aload_n 0, 1) := by decide +kernel
theorem dX0_init_77 : decode cX0_init 77 = .ok (.iconst 0, 1) := by decide +kernel
theorem dX0_init_78 : decode cX0_init 78 = .ok (.putfield 40, 3) := by decide +kernel
theorem dX0_init_81 : decode cX0_init 81 = .ok (.aload_n 0, 1) := by decide +kernel
theorem dX0_init_82 : decode cX0_init 82 = .ok (.iconst 0, 1) := by decide +kernel
theorem dX0_init_83 : decode cX0_init 83 = .ok (.putfield 44, 3) := by decide +kernel
theorem dX0_init_86 : decode cX0_init 86 = .ok (.return_, 1) := by decide +kernel
theorem dX0_add_0 : decode cX0_add 0 = .ok (.aload_n 0, 1) := by decide +kernel
theorem dX0_add_1 : decode cX0_add 1 = .ok (.getfield 40, 3) := by decide +kernel
theorem dX0_add_4 : decode cX0_add 4 = .ok (.istore 8, 2) := by decide +kernel
theorem dX0_add_6 : decode cX0_add 6 = .ok (.aload_n 0, 1) := by decide +kernel
theorem dX0_add_7 : decode cX0_add 7 = .ok (.getfield 9, 3) := by decide +kernel
theorem dX0_add_10 : decode cX0_add 10 = .ok (.iload 8, 2) := by decide +kernel
theorem dX0_add_12 : decode cX0_add 12 = .ok (.iload_n 1, 1) := by decide +kernel
theorem dX0_add_13 : decode cX0_add 13 = .ok (.iastore, 1) := by decide +kernel
theorem dX0_add_14 : decode cX0_add 14 = .ok (.aload_n 0, 1) := by decide +kernel
theorem dX0_add_15 : decode cX0_add 15 = .ok (.getfield 15, 3) := by decide +kernel
theorem dX0_add_18 : decode cX0_add 18 = .ok (.iload 8, 2) := by decide +kernel
theorem dX0_add_20 : decode cX0_add 20 = .ok (.iload_n 2, 1) := by decide +kernel
theorem dX0_add_21 : decode cX0_add 21 = .ok (.iastore, 1) := by decide +kernel
theorem dX0_add_22 : decode cX0_add 22 = .ok (.aload_n 0, 1) := by decide +kernel
theorem dX0_add_23 : decode cX0_add 23 = .ok (.getfield 18, 3) := by decide +kernel
theorem dX0_add_26 : decode cX0_add 26 = .ok (.iload 8, 2) := by decide +kernel
theorem dX0_add_28 : decode cX0_add 28 = .ok (.iload_n 3, 1) := by decide +kernel
theorem dX0_add_29 : decode cX0_add 29 = .ok (.iastore, 1) := by decide +kernel
theorem dX0_add_30 : decode cX0_add 30 = .ok (.aload_n 0, 1) := by decide +kernel
theorem dX0_add_31 : decode cX0_add 31 = .ok (.getfield 21, 3) := by decide +kernel
theorem dX0_add_34 : decode cX0_add 34 = .ok (.iload 8, 2) := by decide +kernel
theorem dX0_add_36 : decode cX0_add 36 = .ok (.iload 4, 2) := by decide +kernel
theorem dX0_add_38 : decode cX0_add 38 = .ok (.iastore, 1) := by decide +kernel
theorem dX0_add_39 : decode cX0_add 39 = .ok (.aload_n 0, 1) := by decide +kernel
theorem dX0_add_40 : decode cX0_add 40 = .ok (.getfield 24, 3) := by decide +kernel
theorem dX0_add_43 : decode cX0_add 43 = .ok (.iload 8, 2) := by decide +kernel
theorem dX0_add_45 : decode cX0_add 45 = .ok (.iload 5, 2) := by decide +kernel
theorem dX0_add_47 : decode cX0_add 47 = .ok (.iastore, 1) := by decide +kernel
theorem dX0_add_48 : decode cX0_add 48 = .ok (.aload_n 0, 1) := by decide +kernel
theorem dX0_add_49 : decode cX0_add 49 = .ok (.getfield 27, 3) := by decide +kernel
theorem dX0_add_52 : decode cX0_add 52 = .ok (.iload 8, 2) := by decide +kernel
theorem dX0_add_54 : decode cX0_add 54 = .ok (.iload 6, 2) := by decide +kernel
theorem dX0_add_56 : decode cX0_add 56 = .ok (.iastore, 1) := by decide +kernel
theorem dX0_add_57 : decode cX0_add 57 = .ok (.aload_n 0, 1) := by decide +kernel
theorem dX0_add_58 : decode cX0_add 58 = .ok (.getfield 30, 3) := by decide +kernel
theorem dX0_add_61 : decode cX0_add 61 = .ok (.iload 8, 2) := by decide +kernel
theorem dX0_add_63 : decode cX0_add 63 = .ok (.iload 7, 2) := by decide +kernel
theorem dX0_add_65 : decode cX0_add 65 = .ok (.iastore, 1) := by decide +kernel
theorem dX0_add_66 : decode cX0_add 66 = .ok (.aload_n 0, 1) := by decide +kernel
theorem dX0_add_67 : decode cX0_add 67 = .ok (.getfield 33, 3) := by decide +kernel
theorem dX0_add_70 : decode cX0_add 70 = .ok (.iload 8, 2) := by decide +kernel
theorem dX0_add_72 : decode cX0_add 72 = .ok (.aload_n 0, 1) := by decide +kernel
theorem dX0_add_73 : decode cX0_add 73 = .ok (.getfield 44, 3) := by decide +kernel
theorem dX0_add_76 : decode cX0_add 76 = .ok (.iastore, 1) := by decide +kernel
theorem dX0_add_77 : decode cX0_add 77 = .ok (.aload_n 0, 1) := by decide +kernel
theorem dX0_add_78 : decode cX0_add 78 = .ok (.getfield 36, 3) := by decide +kernel
theorem dX0_add_81 : decode cX0_add 81 = .ok (.iload 8, 2) := by decide +kernel
theorem dX0_add_83 : decode cX0_add 83 = .ok (.iconst 0, 1) := by decide +kernel
theorem dX0_add_84 : decode cX0_add 84 = .ok (.bastore, 1) := by decide +kernel
theorem dX0_add_85 : decode cX0_add 85 = .ok (.aload_n 0, 1) := by decide +kernel
theorem dX0_add_86 : decode cX0_add 86 = .ok (.dup, 1) := by decide +kernel
theorem dX0_add_87 : decode cX0_add 87 = .ok (.getfield 40, 3) := by decide +kernel
theorem dX0_add_90 : decode cX0_add 90 = .ok (.iconst 1, 1) := by decide +kernel
theorem dX0_add_91 : decode cX0_add 91 = .ok (.iadd, 1) := by decide +kernel
theorem dX0_add_92 : decode cX0_add 92 = .ok (.putfield 40, 3) := by decide +kernel
theorem dX0_add_95 : decode cX0_add 95 = .ok (.aload_n 0, 1) := by decide +kernel
theorem dX0_add_96 : decode cX0_add 96 = .ok (.dup, 1) := by decide +kernel
theorem dX0_add_97 : decode cX0_add 97 = .ok (.getfield 44, 3) := by decide +kernel
theorem dX0_add_100 : decode cX0_add 100 = .ok (.iload 6, 2) := by decide +kernel
theorem dX0_add_102 : decode cX0_add 102 = .ok (.iadd, 1) := by decide +kernel
theorem dX0_add_103 : decode cX0_add 103 = .ok (.putfield 44, 3) := by decide +kernel
theorem dX0_add_106 : decode cX0_add 106 = .ok (.iload 8, 2) := by decide +kernel
theorem dX0_add_108 : decode cX0_add 108 = .ok (.ireturn, 1) := by decide +kernel
theorem dX0_removeLatest_0 : decode cX0_removeLatest 0 = .ok (.aload_n 0, 1) := by decide +kernel
theorem dX0_removeLatest_1 : decode cX0_removeLatest 1 = .ok (.getfield 40, 3) := by decide +kernel
theorem dX0_removeLatest_4 : decode cX0_removeLatest 4 = .ok (.ifCond .le 31, 3) := by decide +kernel
theorem dX0_removeLatest_7 : decode cX0_removeLatest 7 = .ok (.aload_n 0, 1) := by decide +kernel
theorem dX0_removeLatest_8 : decode cX0_removeLatest 8 = .ok (.dup, 1) := by decide +kernel
theorem dX0_removeLatest_9 : decode cX0_removeLatest 9 = .ok (.getfield 40, 3) := by decide +kernel
theorem dX0_removeLatest_12 : decode cX0_removeLatest 12 = .ok (.iconst 1, 1) := by decide +kernel
theorem dX0_removeLatest_13 : decode cX0_removeLatest 13 = .ok (.isub, 1) := by decide +kernel
theorem dX0_removeLatest_14 : decode cX0_removeLatest 14 = .ok (.putfield 40, 3) := by decide +kernel
theorem dX0_removeLatest_17 : decode cX0_removeLatest 17 = .ok (.aload_n 0, 1) := by decide +kernel
theorem dX0_removeLatest_18 : decode cX0_removeLatest 18 = .ok (.dup, 1) := by decide +kernel
theorem dX0_removeLatest_19 : decode cX0_removeLatest 19 = .ok (.getfield 44, 3) := by decide +kernel
theorem dX0_removeLatest_22 : decode cX0_removeLatest 22 = .ok (.aload_n 0, 1) := by decide +kernel
theorem dX0_removeLatest_23 : decode cX0_removeLatest 23 = .ok (.getfield 27, 3) := by decide +kernel
theorem dX0_removeLatest_26 : decode cX0_removeLatest 26 = .ok (.aload_n 0, 1) := by decide +kernel
theorem dX0_removeLatest_27 : decode cX0_removeLatest 27 = .ok (.getfield 40, 3) := by decide +kernel
theorem dX0_removeLatest_30 : decode cX0_removeLatest 30 = .ok (.iaload, 1) := by decide +kernel
theorem dX0_removeLatest_31 : decode cX0_removeLatest 31 = .ok (.isub, 1) := by decide +kernel
theorem dX0_removeLatest_32 : decode cX0_removeLatest 32 = .ok (.putfield 44, 3) := by decide +kernel
theorem dX0_removeLatest_35 : decode cX0_removeLatest 35 = .ok (.return_, 1) := by decide +kernel
theorem dX0_tell_0 : decode cX0_tell 0 = .ok (.iload_n 2, 1) := by decide +kernel
theorem dX0_tell_1 : decode cX0_tell 1 = .ok (.tableswitch 92 0 6 #[43, 50, 57, 64, 71, 78, 85], 43) := by decide +kernel
theorem dX0_tell_44 : decode cX0_tell 44 = .ok (.aload_n 0, 1) := by decide +kernel
theorem dX0_tell_45 : decode cX0_tell 45 = .ok (.getfield 9, 3) := by decide +kernel
theorem dX0_tell_48 : decode cX0_tell 48 = .ok (.iload_n 1, 1) := by decide +kernel
theorem dX0_tell_49 : decode cX0_tell 49 = .ok (.iaload, 1) := by decide +kernel
theorem dX0_tell_50 : decode cX0_tell 50 = .ok (.ireturn, 1) := by decide +kernel
theorem dX0_tell_51 : decode cX0_tell 51 = .ok (.aload_n 0, 1) := by decide +kernel
theorem dX0_tell_52 : decode cX0_tell 52 = .ok (.getfield 15, 3) := by decide +kernel
theorem dX0_tell_55 : decode cX0_tell 55 = .ok (.iload_n 1, 1) := by decide +kernel
theorem dX0_tell_56 : decode cX0_tell 56 = .ok (.iaload, 1) := by decide +kernel
theorem dX0_tell_57 : decode cX0_tell 57 = .ok (.ireturn, 1) := by decide +kernel
theorem dX0_tell_58 : decode cX0_tell 58 = .ok (.aload_n 0, 1) := by decide +kernel
theorem dX0_tell_59 : decode cX0_tell 59 = .ok (.getfield 18, 3) := by decide +kernel
theorem dX0_tell_62 : decode cX0_tell 62 = .ok (.iload_n 1, 1) := by decide +kernel
theorem dX0_tell_63 : decode cX0_tell 63 = .ok (.iaload, 1) := by decide +kernel
theorem dX0_tell_64 : decode cX0_tell 64 = .ok (.ireturn, 1) := by decide +kernel
theorem dX0_tell_65 : decode cX0_tell 65 = .ok (.aload_n 0, 1) := by decide +kernel
theorem dX0_tell_66 : decode cX0_tell 66 = .ok (.getfield 21, 3) := by decide +kernel
theorem dX0_tell_69 : decode cX0_tell 69 = .ok (.iload_n 1, 1) := by decide +kernel
theorem dX0_tell_70 : decode cX0_tell 70 = .ok (.iaload, 1) := by decide +kernel
theorem dX0_tell_71 : decode cX0_tell 71 = .ok (.ireturn, 1) := by decide +kernel
theorem dX0_tell_72 : decode cX0_tell 72 = .ok (.aload_n 0, 1) := by decide +kernel
theorem dX0_tell_73 : decode cX0_tell 73 = .ok (.getfield 24, 3) := by decide +kernel
theorem dX0_tell_76 : decode cX0_tell 76 = .ok (.iload_n 1, 1) := by decide +kernel
theorem dX0_tell_77 : decode cX0_tell 77 = .ok (.iaload, 1) := by decide +kernel
theorem dX0_tell_78 : decode cX0_tell 78 = .ok (.ireturn, 1) := by decide +kernel
theorem dX0_tell_79 : decode cX0_tell 79 = .ok (.aload_n 0, 1) := by decide +kernel
theorem dX0_tell_80 : decode cX0_tell 80 = .ok (.getfield 27, 3) := by decide +kernel
theorem dX0_tell_83 : decode cX0_tell 83 = .ok (.iload_n 1, 1) := by decide +kernel
theorem dX0_tell_84 : decode cX0_tell 84 = .ok (.iaload, 1) := by decide +kernel
theorem dX0_tell_85 : decode cX0_tell 85 = .ok (.ireturn, 1) := by decide +kernel
theorem dX0_tell_86 : decode cX0_tell 86 = .ok (.aload_n 0, 1) := by decide +kernel
theorem dX0_tell_87 : decode cX0_tell 87 = .ok (.getfield 30, 3) := by decide +kernel
theorem dX0_tell_90 : decode cX0_tell 90 = .ok (.iload_n 1, 1) := by decide +kernel
theorem dX0_tell_91 : decode cX0_tell 91 = .ok (.iaload, 1) := by decide +kernel
theorem dX0_tell_92 : decode cX0_tell 92 = .ok (.ireturn, 1) := by decide +kernel
theorem dX0_tell_93 : decode cX0_tell 93 = .ok (.aload_n 0, 1) := by decide +kernel
theorem dX0_tell_94 : decode cX0_tell 94 = .ok (.getfield 36, 3) := by decide +kernel
theorem dX0_tell_97 : decode cX0_tell 97 = .ok (.iload_n 1, 1) := by decide +kernel
theorem dX0_tell_98 : decode cX0_tell 98 = .ok (.baload, 1) := by decide +kernel
theorem dX0_tell_99 : decode cX0_tell 99 = .ok (.ifCond .eq 7, 3) := by decide +kernel
theorem dX0_tell_102 : decode cX0_tell 102 = .ok (.iconst 1, 1) := by decide +kernel
theorem dX0_tell_103 : decode cX0_tell 103 = .ok (.goto 4, 3) := by decide +kernel
theorem dX0_tell_106 : decode cX0_tell 106 = .ok (.iconst 0, 1) := by decide +kernel
theorem dX0_tell_107 : decode cX0_tell 107 = .ok (.ireturn, 1) := by decide +kernel
theorem dX0_plannedLeaving_0 : decode cX0_plannedLeaving 0 = .ok (.aload_n 0, 1) := by decide +kernel
theorem dX0_plannedLeaving_1 : decode cX0_plannedLeaving 1 = .ok (.getfield 18, 3) := by decide +kernel
theorem dX0_plannedLeaving_4 : decode cX0_plannedLeaving 4 = .ok (.iload_n 1, 1) := by decide +kernel
theorem dX0_plannedLeaving_5 : decode cX0_plannedLeaving 5 = .ok (.iaload, 1) := by decide +kernel
theorem dX0_plannedLeaving_6 : decode cX0_plannedLeaving 6 = .ok (.iconst 2, 1) := by decide +kernel
theorem dX0_plannedLeaving_7 : decode cX0_plannedLeaving 7 = .ok (.if_icmp .ne 7, 3) := by decide +kernel
theorem dX0_plannedLeaving_10 : decode cX0_plannedLeaving 10 = .ok (.iconst 1, 1) := by decide +kernel
theorem dX0_plannedLeaving_11 : decode cX0_plannedLeaving 11 = .ok (.goto 9, 3) := by decide +kernel
theorem dX0_plannedLeaving_14 : decode cX0_plannedLeaving 14 = .ok (.aload_n 0, 1) := by decide +kernel
theorem dX0_plannedLeaving_15 : decode cX0_plannedLeaving 15 = .ok (.getfield 30, 3) := by decide +kernel
theorem dX0_plannedLeaving_18 : decode cX0_plannedLeaving 18 = .ok (.iload_n 1, 1) := by decide +kernel
theorem dX0_plannedLeaving_19 : decode cX0_plannedLeaving 19 = .ok (.iaload, 1) := by decide +kernel
theorem dX0_plannedLeaving_20 : decode cX0_plannedLeaving 20 = .ok (.istore_n 3, 1) := by decide +kernel
theorem dX0_plannedLeaving_21 : decode cX0_plannedLeaving 21 = .ok (.aload_n 0, 1) := by decide +kernel
theorem dX0_plannedLeaving_22 : decode cX0_plannedLeaving 22 = .ok (.getfield 21, 3) := by decide +kernel
theorem dX0_plannedLeaving_25 : decode cX0_plannedLeaving 25 = .ok (.iload_n 1, 1) := by decide +kernel
theorem dX0_plannedLeaving_26 : decode cX0_plannedLeaving 26 = .ok (.iaload, 1) := by decide +kernel
theorem dX0_plannedLeaving_27 : decode cX0_plannedLeaving 27 = .ok (.iload_n 2, 1) := by decide +kernel
theorem dX0_plannedLeaving_28 : decode cX0_plannedLeaving 28 = .ok (.iload_n 3, 1) := by decide +kernel
theorem dX0_plannedLeaving_29 : decode cX0_plannedLeaving 29 = .ok (.imul, 1) := by decide +kernel
theorem dX0_plannedLeaving_30 : decode cX0_plannedLeaving 30 = .ok (.iadd, 1) := by decide +kernel
theorem dX0_plannedLeaving_31 : decode cX0_plannedLeaving 31 = .ok (.ireturn, 1) := by decide +kernel
theorem dX1_init_0 : decode cX1_init 0 = .ok (.aload_n 0, 1) := by decide +kernel
theorem dX1_init_1 : decode cX1_init 1 = .ok (.invokespecial 3, 3) := by decide +kernel
theorem dX1_init_4 : decode cX1_init 4 = .ok (.aload_n 0, 1) := by decide +kernel
theorem dX1_init_5 : decode cX1_init 5 = .ok (.sipush 400, 3) := by decide +kernel
theorem dX1_init_8 : decode cX1_init 8 = .ok (.newarray .int, 2) := by decide +kernel
theorem dX1_init_10 : decode cX1_init 10 = .ok (.putfield 9, 3) := by decide +kernel
theorem dX1_init_13 : decode cX1_init 13 = .ok (.aload_n 0, 1) := by decide +kernel
theorem dX1_init_14 : decode cX1_init 14 = .ok (.sipush 400, 3) := by decide +kernel
theorem dX1_init_17 : decode cX1_init 17 = .ok (.newarray .int, 2) := by decide +kernel
theorem dX1_init_19 : decode cX1_init 19 = .ok (.putfield 15, 3) := by decide +kernel
theorem dX1_init_22 : decode cX1_init 22 = .ok (.aload_n 0, 1) := by decide +kernel
theorem dX1_init_23 : decode cX1_init 23 = .ok (.sipush 400, 3) := by decide +kernel
theorem dX1_init_26 : decode cX1_init 26 = .ok (.newarray .int, 2) := by decide +kernel
theorem dX1_init_28 : decode cX1_init 28 = .ok (.putfield 18, 3) := by decide +kernel
theorem dX1_init_31 : decode cX1_init 31 = .ok (.aload_n 0, 1) := by decide +kernel
theorem dX1_init_32 : decode cX1_init 32 = .ok (.sipush 400, 3) := by decide +kernel
theorem dX1_init_35 : decode cX1_init 35 = .ok (.newarray .int, 2) := by decide +kernel
theorem dX1_init_37 : decode cX1_init 37 = .ok (.putfield 21, 3) := by decide +kernel
theorem dX1_init_40 : decode cX1_init 40 = .ok (.aload_n 0, 1) := by decide +kernel
theorem dX1_init_41 : decode cX1_init 41 = .ok (.iconst 0, 1) := by decide +kernel
theorem dX1_init_42 : decode cX1_init 42 = .ok (.putfield 24, 3) := by decide +kernel
theorem dX1_init_45 : decode cX1_init 45 = .ok (.aload_n 0, 1) := by decide +kernel
theorem dX1_init_46 : decode cX1_init 46 = .ok (.iconst 0, 1) := by decide +kernel
theorem dX1_init_47 : decode cX1_init 47 = .ok (.putfield 28, 3) := by decide +kernel
theorem dX1_init_50 : decode cX1_init 50 = .ok (.return_, 1) := by decide +kernel
theorem dX1_isFull_0 : decode cX1_isFull 0 = .ok (.aload_n 0, 1) := by decide +kernel
theorem dX1_isFull_1 : decode cX1_isFull 1 = .ok (.getfield 24, 3) := by decide +kernel
theorem dX1_isFull_4 : decode cX1_isFull 4 = .ok (.sipush 400, 3) := by decide +kernel
theorem dX1_isFull_7 : decode cX1_isFull 7 = .ok (.if_icmp .lt 7, 3) := by decide +kernel
theorem dX1_isFull_10 : decode cX1_isFull 10 = .ok (.iconst 1, 1) := by decide +kernel
theorem dX1_isFull_11 : decode cX1_isFull 11 = .ok (.goto 4, 3) := by decide +kernel
theorem dX1_isFull_14 : decode cX1_isFull 14 = .ok (.iconst 0, 1) := by decide +kernel
theorem dX1_isFull_15 : decode cX1_isFull 15 = .ok (.ireturn, 1) := by decide +kernel
theorem dX1_add_0 : decode cX1_add 0 = .ok (.aload_n 0, 1) := by decide +kernel
theorem dX1_add_1 : decode cX1_add 1 = .ok (.getfield 9, 3) := by decide +kernel
theorem dX1_add_4 : decode cX1_add 4 = .ok (.aload_n 0, 1) := by decide +kernel
theorem dX1_add_5 : decode cX1_add 5 = .ok (.getfield 24, 3) := by decide +kernel
theorem dX1_add_8 : decode cX1_add 8 = .ok (.iload_n 1, 1) := by decide +kernel
theorem dX1_add_9 : decode cX1_add 9 = .ok (.iastore, 1) := by decide +kernel
theorem dX1_add_10 : decode cX1_add 10 = .ok (.aload_n 0, 1) := by decide +kernel
theorem dX1_add_11 : decode cX1_add 11 = .ok (.getfield 15, 3) := by decide +kernel
theorem dX1_add_14 : decode cX1_add 14 = .ok (.aload_n 0, 1) := by decide +kernel
theorem dX1_add_15 : decode cX1_add 15 = .ok (.getfield 24, 3) := by decide +kernel
theorem dX1_add_18 : decode cX1_add 18 = .ok (.iload_n 2, 1) := by decide +kernel
theorem dX1_add_19 : decode cX1_add 19 = .ok (.iastore, 1) := by decide +kernel
theorem dX1_add_20 : decode cX1_add 20 = .ok (.aload_n 0, 1) := by decide +kernel
theorem dX1_add_21 : decode cX1_add 21 = .ok (.getfield 18, 3) := by decide +kernel
theorem dX1_add_24 : decode cX1_add 24 = .ok (.aload_n 0, 1) := by decide +kernel
theorem dX1_add_25 : decode cX1_add 25 = .ok (.getfield 24, 3) := by decide +kernel
theorem dX1_add_28 : decode cX1_add 28 = .ok (.iload_n 3, 1) := by decide +kernel
theorem dX1_add_29 : decode cX1_add 29 = .ok (.iastore, 1) := by decide +kernel
theorem dX1_add_30 : decode cX1_add 30 = .ok (.aload_n 0, 1) := by decide +kernel
theorem dX1_add_31 : decode cX1_add 31 = .ok (.getfield 21, 3) := by decide +kernel
theorem dX1_add_34 : decode cX1_add 34 = .ok (.aload_n 0, 1) := by decide +kernel
theorem dX1_add_35 : decode cX1_add 35 = .ok (.getfield 24, 3) := by decide +kernel
theorem dX1_add_38 : decode cX1_add 38 = .ok (.iload 4, 2) := by decide +kernel
theorem dX1_add_40 : decode cX1_add 40 = .ok (.iastore, 1) := by decide +kernel
theorem dX1_add_41 : decode cX1_add 41 = .ok (.aload_n 0, 1) := by decide +kernel
theorem dX1_add_42 : decode cX1_add 42 = .ok (.dup, 1) := by decide +kernel
theorem dX1_add_43 : decode cX1_add 43 = .ok (.getfield 24, 3) := by decide +kernel
theorem dX1_add_46 : decode cX1_add 46 = .ok (.iconst 1, 1) := by decide +kernel
theorem dX1_add_47 : decode cX1_add 47 = .ok (.iadd, 1) := by decide +kernel
theorem dX1_add_48 : decode cX1_add 48 = .ok (.putfield 24, 3) := by decide +kernel
theorem dX1_add_51 : decode cX1_add 51 = .ok (.iload_n 1, 1) := by decide +kernel
theorem dX1_add_52 : decode cX1_add 52 = .ok (.iconst 3, 1) := by decide +kernel
theorem dX1_add_53 : decode cX1_add 53 = .ok (.if_icmp .ne 13, 3) := by decide +kernel
theorem dX1_add_56 : decode cX1_add 56 = .ok (.aload_n 0, 1) := by decide +kernel
theorem dX1_add_57 : decode cX1_add 57 = .ok (.dup, 1) := by decide +kernel
theorem dX1_add_58 : decode cX1_add 58 = .ok (.getfield 28, 3) := by decide +kernel
theorem dX1_add_61 : decode cX1_add 61 = .ok (.iconst 1, 1) := by decide +kernel
theorem dX1_add_62 : decode cX1_add 62 = .ok (.iadd, 1) := by decide +kernel
theorem dX1_add_63 : decode cX1_add 63 = .ok (.putfield 28, 3) := by decide +kernel
theorem dX1_add_66 : decode cX1_add 66 = .ok (.return_, 1) := by decide +kernel
theorem dX1_removeLatest_0 : decode cX1_removeLatest 0 = .ok (.aload_n 0, 1) := by decide +kernel
theorem dX1_removeLatest_1 : decode cX1_removeLatest 1 = .ok (.getfield 24, 3) := by decide +kernel
theorem dX1_removeLatest_4 : decode cX1_removeLatest 4 = .ok (.ifCond .le 36, 3) := by decide +kernel
theorem dX1_removeLatest_7 : decode cX1_removeLatest 7 = .ok (.aload_n 0, 1) := by decide +kernel
theorem dX1_removeLatest_8 : decode cX1_removeLatest 8 = .ok (.dup, 1) := by decide +kernel
theorem dX1_removeLatest_9 : decode cX1_removeLatest 9 = .ok (.getfield 24, 3) := by decide +kernel
theorem dX1_removeLatest_12 : decode cX1_removeLatest 12 = .ok (.iconst 1, 1) := by decide +kernel
theorem dX1_removeLatest_13 : decode cX1_removeLatest 13 = .ok (.isub, 1) := by decide +kernel
theorem dX1_removeLatest_14 : decode cX1_removeLatest 14 = .ok (.putfield 24, 3) := by decide +kernel
theorem dX1_removeLatest_17 : decode cX1_removeLatest 17 = .ok (.aload_n 0, 1) := by decide +kernel
theorem dX1_removeLatest_18 : decode cX1_removeLatest 18 = .ok (.getfield 9, 3) := by decide +kernel
theorem dX1_removeLatest_21 : decode cX1_removeLatest 21 = .ok (.aload_n 0, 1) := by decide +kernel
theorem dX1_removeLatest_22 : decode cX1_removeLatest 22 = .ok (.getfield 24, 3) := by decide +kernel
theorem dX1_removeLatest_25 : decode cX1_removeLatest 25 = .ok (.iaload, 1) := by decide +kernel
theorem dX1_removeLatest_26 : decode cX1_removeLatest 26 = .ok (.iconst 3, 1) := by decide +kernel
theorem dX1_removeLatest_27 : decode cX1_removeLatest 27 = .ok (.if_icmp .ne 13, 3) := by decide +kernel
theorem dX1_removeLatest_30 : decode cX1_removeLatest 30 = .ok (.aload_n 0, 1) := by decide +kernel
theorem dX1_removeLatest_31 : decode cX1_removeLatest 31 = .ok (.dup, 1) := by decide +kernel
theorem dX1_removeLatest_32 : decode cX1_removeLatest 32 = .ok (.getfield 28, 3) := by decide +kernel
theorem dX1_removeLatest_35 : decode cX1_removeLatest 35 = .ok (.iconst 1, 1) := by decide +kernel
theorem dX1_removeLatest_36 : decode cX1_removeLatest 36 = .ok (.isub, 1) := by decide +kernel
theorem dX1_removeLatest_37 : decode cX1_removeLatest 37 = .ok (.putfield 28, 3) := by decide +kernel
theorem dX1_removeLatest_40 : decode cX1_removeLatest 40 = .ok (.return_, 1) := by decide +kernel
theorem dX1_isClosing_0 : decode cX1_isClosing 0 = .ok (.aload_n 0, 1) := by decide +kernel
theorem dX1_isClosing_1 : decode cX1_isClosing 1 = .ok (.getfield 15, 3) := by decide +kernel
theorem dX1_isClosing_4 : decode cX1_isClosing 4 = .ok (.iload_n 1, 1) := by decide +kernel
theorem dX1_isClosing_5 : decode cX1_isClosing 5 = .ok (.iaload, 1) := by decide +kernel
theorem dX1_isClosing_6 : decode cX1_isClosing 6 = .ok (.iload_n 2, 1) := by decide +kernel
theorem dX1_isClosing_7 : decode cX1_isClosing 7 = .ok (.if_icmp .ne 27, 3) := by decide +kernel
theorem dX1_isClosing_10 : decode cX1_isClosing 10 = .ok (.aload_n 0, 1) := by decide +kernel
theorem dX1_isClosing_11 : decode cX1_isClosing 11 = .ok (.getfield 18, 3) := by decide +kernel
theorem dX1_isClosing_14 : decode cX1_isClosing 14 = .ok (.iload_n 1, 1) := by decide +kernel
theorem dX1_isClosing_15 : decode cX1_isClosing 15 = .ok (.iaload, 1) := by decide +kernel
theorem dX1_isClosing_16 : decode cX1_isClosing 16 = .ok (.iload_n 3, 1) := by decide +kernel
theorem dX1_isClosing_17 : decode cX1_isClosing 17 = .ok (.if_icmp .gt 17, 3) := by decide +kernel
theorem dX1_isClosing_20 : decode cX1_isClosing 20 = .ok (.iload_n 3, 1) := by decide +kernel
theorem dX1_isClosing_21 : decode cX1_isClosing 21 = .ok (.aload_n 0, 1) := by decide +kernel
theorem dX1_isClosing_22 : decode cX1_isClosing 22 = .ok (.getfield 21, 3) := by decide +kernel
theorem dX1_isClosing_25 : decode cX1_isClosing 25 = .ok (.iload_n 1, 1) := by decide +kernel
theorem dX1_isClosing_26 : decode cX1_isClosing 26 = .ok (.iaload, 1) := by decide +kernel
theorem dX1_isClosing_27 : decode cX1_isClosing 27 = .ok (.if_icmp .gt 7, 3) := by decide +kernel
theorem dX1_isClosing_30 : decode cX1_isClosing 30 = .ok (.iconst 1, 1) := by decide +kernel
theorem dX1_isClosing_31 : decode cX1_isClosing 31 = .ok (.goto 4, 3) := by decide +kernel
theorem dX1_isClosing_34 : decode cX1_isClosing 34 = .ok (.iconst 0, 1) := by decide +kernel
theorem dX1_isClosing_35 : decode cX1_isClosing 35 = .ok (.ireturn, 1) := by decide +kernel
theorem dX2_init_0 : decode cX2_init 0 = .ok (.aload_n 0, 1) := by decide +kernel
theorem dX2_init_1 : decode cX2_init 1 = .ok (.invokespecial 3, 3) := by decide +kernel
theorem dX2_init_4 : decode cX2_init 4 = .ok (.aload_n 0, 1) := by decide +kernel
theorem dX2_init_5 : decode cX2_init 5 = .ok (.bipush 24, 2) := by decide +kernel
theorem dX2_init_7 : decode cX2_init 7 = .ok (.newarray .int, 2) := by decide +kernel
theorem dX2_init_9 : decode cX2_init 9 = .ok (.putfield 9, 3) := by decide +kernel
theorem dX2_init_12 : decode cX2_init 12 = .ok (.aload_n 0, 1) := by decide +kernel
theorem dX2_init_13 : decode cX2_init 13 = .ok (.bipush 24, 2) := by decide +kernel
theorem dX2_init_15 : decode cX2_init 15 = .ok (.newarray .int, 2) := by decide +kernel
theorem dX2_init_17 : decode cX2_init 17 = .ok (.putfield 15, 3) := by decide +kernel
theorem dX2_init_20 : decode cX2_init 20 = .ok (.aload_n 0, 1) := by decide +kernel
theorem dX2_init_21 : decode cX2_init 21 = .ok (.iconst 0, 1) := by decide +kernel
theorem dX2_init_22 : decode cX2_init 22 = .ok (.putfield 18, 3) := by decide +kernel
theorem dX2_init_25 : decode cX2_init 25 = .ok (.return_, 1) := by decide +kernel
theorem dX2_add_0 : decode cX2_add 0 = .ok (.aload_n 0, 1) := by decide +kernel
theorem dX2_add_1 : decode cX2_add 1 = .ok (.aload_n 0, 1) := by decide +kernel
theorem dX2_add_2 : decode cX2_add 2 = .ok (.getfield 18, 3) := by decide +kernel
theorem dX2_add_5 : decode cX2_add 5 = .ok (.iload_n 1, 1) := by decide +kernel
theorem dX2_add_6 : decode cX2_add 6 = .ok (.iload_n 2, 1) := by decide +kernel
theorem dX2_add_7 : decode cX2_add 7 = .ok (.invokevirtual 22, 3) := by decide +kernel
theorem dX2_add_10 : decode cX2_add 10 = .ok (.aload_n 0, 1) := by decide +kernel
theorem dX2_add_11 : decode cX2_add 11 = .ok (.dup, 1) := by decide +kernel
theorem dX2_add_12 : decode cX2_add 12 = .ok (.getfield 18, 3) := by decide +kernel
theorem dX2_add_15 : decode cX2_add 15 = .ok (.iconst 1, 1) := by decide +kernel
theorem dX2_add_16 : decode cX2_add 16 = .ok (.iadd, 1) := by decide +kernel
theorem dX2_add_17 : decode cX2_add 17 = .ok (.putfield 18, 3) := by decide +kernel
theorem dX2_add_20 : decode cX2_add 20 = .ok (.aload_n 0, 1) := by decide +kernel
theorem dX2_add_21 : decode cX2_add 21 = .ok (.getfield 18, 3) := by decide +kernel
theorem dX2_add_24 : decode cX2_add 24 = .ok (.iconst 1, 1) := by decide +kernel
theorem dX2_add_25 : decode cX2_add 25 = .ok (.isub, 1) := by decide +kernel
theorem dX2_add_26 : decode cX2_add 26 = .ok (.ireturn, 1) := by decide +kernel
theorem dX2_set_0 : decode cX2_set 0 = .ok (.aload_n 0, 1) := by decide +kernel
theorem dX2_set_1 : decode cX2_set 1 = .ok (.getfield 9, 3) := by decide +kernel
theorem dX2_set_4 : decode cX2_set 4 = .ok (.iload_n 1, 1) := by decide +kernel
theorem dX2_set_5 : decode cX2_set 5 = .ok (.iload_n 2, 1) := by decide +kernel
theorem dX2_set_6 : decode cX2_set 6 = .ok (.iastore, 1) := by decide +kernel
theorem dX2_set_7 : decode cX2_set 7 = .ok (.aload_n 0, 1) := by decide +kernel
theorem dX2_set_8 : decode cX2_set 8 = .ok (.getfield 15, 3) := by decide +kernel
theorem dX2_set_11 : decode cX2_set 11 = .ok (.iload_n 1, 1) := by decide +kernel
theorem dX2_set_12 : decode cX2_set 12 = .ok (.iload_n 3, 1) := by decide +kernel
theorem dX2_set_13 : decode cX2_set 13 = .ok (.iastore, 1) := by decide +kernel
theorem dX2_set_14 : decode cX2_set 14 = .ok (.return_, 1) := by decide +kernel
theorem dX2_latestComing_0 : decode cX2_latestComing 0 = .ok (.iload_n 2, 1) := by decide +kernel
theorem dX2_latestComing_1 : decode cX2_latestComing 1 = .ok (.aload_n 0, 1) := by decide +kernel
theorem dX2_latestComing_2 : decode cX2_latestComing 2 = .ok (.getfield 9, 3) := by decide +kernel
theorem dX2_latestComing_5 : decode cX2_latestComing 5 = .ok (.iload_n 1, 1) := by decide +kernel
theorem dX2_latestComing_6 : decode cX2_latestComing 6 = .ok (.iaload, 1) := by decide +kernel
theorem dX2_latestComing_7 : decode cX2_latestComing 7 = .ok (.isub, 1) := by decide +kernel
theorem dX2_latestComing_8 : decode cX2_latestComing 8 = .ok (.ireturn, 1) := by decide +kernel
theorem dX2_soonestComing_0 : decode cX2_soonestComing 0 = .ok (.aload_n 0, 1) := by decide +kernel
theorem dX2_soonestComing_1 : decode cX2_soonestComing 1 = .ok (.getfield 15, 3) := by decide +kernel
theorem dX2_soonestComing_4 : decode cX2_soonestComing 4 = .ok (.iload_n 1, 1) := by decide +kernel
theorem dX2_soonestComing_5 : decode cX2_soonestComing 5 = .ok (.iaload, 1) := by decide +kernel
theorem dX2_soonestComing_6 : decode cX2_soonestComing 6 = .ok (.iconst (-1), 1) := by decide +kernel
theorem dX2_soonestComing_7 : decode cX2_soonestComing 7 = .ok (.if_icmp .ne 7, 3) := by decide +kernel
theorem dX2_soonestComing_10 : decode cX2_soonestComing 10 = .ok (.iconst 0, 1) := by decide +kernel
theorem dX2_soonestComing_11 : decode cX2_soonestComing 11 = .ok (.goto 11, 3) := by decide +kernel
theorem dX2_soonestComing_14 : decode cX2_soonestComing 14 = .ok (.iload_n 2, 1) := by decide +kernel
theorem dX2_soonestComing_15 : decode cX2_soonestComing 15 = .ok (.aload_n 0, 1) := by decide +kernel
theorem dX2_soonestComing_16 : decode cX2_soonestComing 16 = .ok (.getfield 15, 3) := by decide +kernel
theorem dX2_soonestComing_19 : decode cX2_soonestComing 19 = .ok (.iload_n 1, 1) := by decide +kernel
theorem dX2_soonestComing_20 : decode cX2_soonestComing 20 = .ok (.iaload, 1) := by decide +kernel
theorem dX2_soonestComing_21 : decode cX2_soonestComing 21 = .ok (.isub, 1) := by decide +kernel
theorem dX2_soonestComing_22 : decode cX2_soonestComing 22 = .ok (.ireturn, 1) := by decide +kernel
theorem dX3_init_0 : decode cX3_init 0 = .ok (.aload_n 0, 1) := by decide +kernel
theorem dX3_init_1 : decode cX3_init 1 = .ok (.invokespecial 3, 3) := by decide +kernel
theorem dX3_init_4 : decode cX3_init 4 = .ok (.aload_n 0, 1) := by decide +kernel
theorem dX3_init_5 : decode cX3_init 5 = .ok (.sipush 1200, 3) := by decide +kernel
theorem dX3_init_8 : decode cX3_init 8 = .ok (.newarray .int, 2) := by decide +kernel
theorem dX3_init_10 : decode cX3_init 10 = .ok (.putfield 9, 3) := by decide +kernel
theorem dX3_init_13 : decode cX3_init 13 = .ok (.aload_n 0, 1) := by decide +kernel
theorem dX3_init_14 : decode cX3_init 14 = .ok (.sipush 1200, 3) := by decide +kernel
theorem dX3_init_17 : decode cX3_init 17 = .ok (.newarray .int, 2) := by decide +kernel
theorem dX3_init_19 : decode cX3_init 19 = .ok (.putfield 15, 3) := by decide +kernel
theorem dX3_init_22 : decode cX3_init 22 = .ok (.aload_n 0, 1) := by decide +kernel
theorem dX3_init_23 : decode cX3_init 23 = .ok (.bipush 24, 2) := by decide +kernel
theorem dX3_init_25 : decode cX3_init 25 = .ok (.newarray .int, 2) := by decide +kernel
theorem dX3_init_27 : decode cX3_init 27 = .ok (.putfield 18, 3) := by decide +kernel
theorem dX3_init_30 : decode cX3_init 30 = .ok (.aload_n 0, 1) := by decide +kernel
theorem dX3_init_31 : decode cX3_init 31 = .ok (.bipush 24, 2) := by decide +kernel
theorem dX3_init_33 : decode cX3_init 33 = .ok (.newarray .int, 2) := by decide +kernel
theorem dX3_init_35 : decode cX3_init 35 = .ok (.putfield 21, 3) := by decide +kernel
theorem dX3_init_38 : decode cX3_init 38 = .ok (.aload_n 0, 1) := by decide +kernel
theorem dX3_init_39 : decode cX3_init 39 = .ok (.bipush 24, 2) := by decide +kernel
theorem dX3_init_41 : decode cX3_init 41 = .ok (.newarray .int, 2) := by decide +kernel
theorem dX3_init_43 : decode cX3_init 43 = .ok (.putfield 24, 3) := by decide +kernel
theorem dX3_init_46 : decode cX3_init 46 = .ok (.aload_n 0, 1) := by decide +kernel
theorem dX3_init_47 : decode cX3_init 47 = .ok (.sipush 1200, 3) := by decide +kernel
theorem dX3_init_50 : decode cX3_init 50 = .ok (.newarray .int, 2) := by decide +kernel
theorem dX3_init_52 : decode cX3_init 52 = .ok (.putfield 27, 3) := by decide +kernel
theorem dX3_init_55 : decode cX3_init 55 = .ok (.aload_n 0, 1) := by decide +kernel
theorem dX3_init_56 : decode cX3_init 56 = .ok (.iconst 0, 1) := by decide +kernel
theorem dX3_init_57 : decode cX3_init 57 = .ok (.putfield 30, 3) := by decide +kernel
theorem dX3_init_60 : decode cX3_init 60 = .ok (.aload_n 0, 1) := by decide +kernel
theorem dX3_init_61 : decode cX3_init 61 = .ok (.aload_n 1, 1) := by decide +kernel
theorem dX3_init_62 : decode cX3_init 62 = .ok (.putfield 34, 3) := by decide +kernel
theorem dX3_init_65 : decode cX3_init 65 = .ok (.aload_n 0, 1) := by decide +kernel
theorem dX3_init_66 : decode cX3_init 66 = .ok (.aload_n 2, 1) := by decide +kernel
theorem dX3_init_67 : decode cX3_init 67 = .ok (.putfield 38, 3) := by decide +kernel
theorem dX3_init_70 : decode cX3_init 70 = .ok (.return_, 1) := by decide +kernel
theorem dX3_spread_0 : decode cX3_spread 0 = .ok (.aload_n 0, 1) := by decide +kernel
theorem dX3_spread_1 : decode cX3_spread 1 = .ok (.iload 4, 2) := by decide +kernel
theorem dX3_spread_3 : decode cX3_spread 3 = .ok (.putfield 30, 3) := by decide +kernel
theorem dX3_spread_6 : decode cX3_spread 6 = .ok (.aload_n 0, 1) := by decide +kernel
theorem dX3_spread_7 : decode cX3_spread 7 = .ok (.invokevirtual 42, 3) := by decide +kernel
theorem dX3_spread_10 : decode cX3_spread 10 = .ok (.iconst 0, 1) := by decide +kernel
theorem dX3_spread_11 : decode cX3_spread 11 = .ok (.istore 5, 2) := by decide +kernel
theorem dX3_spread_13 : decode cX3_spread 13 = .ok (.iload 5, 2) := by decide +kernel
theorem dX3_spread_15 : decode cX3_spread 15 = .ok (.aload_n 0, 1) := by decide +kernel
theorem dX3_spread_16 : decode cX3_spread 16 = .ok (.getfield 38, 3) := by decide +kernel
theorem dX3_spread_19 : decode cX3_spread 19 = .ok (.getfield 45, 3) := by decide +kernel
theorem dX3_spread_22 : decode cX3_spread 22 = .ok (.if_icmp .ge 115, 3) := by decide +kernel
theorem dX3_spread_25 : decode cX3_spread 25 = .ok (.aload_n 0, 1) := by decide +kernel
theorem dX3_spread_26 : decode cX3_spread 26 = .ok (.getfield 38, 3) := by decide +kernel
theorem dX3_spread_29 : decode cX3_spread 29 = .ok (.getfield 51, 3) := by decide +kernel
theorem dX3_spread_32 : decode cX3_spread 32 = .ok (.iload 5, 2) := by decide +kernel
theorem dX3_spread_34 : decode cX3_spread 34 = .ok (.iaload, 1) := by decide +kernel
theorem dX3_spread_35 : decode cX3_spread 35 = .ok (.istore 6, 2) := by decide +kernel
theorem dX3_spread_37 : decode cX3_spread 37 = .ok (.aload_n 0, 1) := by decide +kernel
theorem dX3_spread_38 : decode cX3_spread 38 = .ok (.getfield 38, 3) := by decide +kernel
theorem dX3_spread_41 : decode cX3_spread 41 = .ok (.getfield 54, 3) := by decide +kernel
theorem dX3_spread_44 : decode cX3_spread 44 = .ok (.iload 6, 2) := by decide +kernel
theorem dX3_spread_46 : decode cX3_spread 46 = .ok (.iaload, 1) := by decide +kernel
theorem dX3_spread_47 : decode cX3_spread 47 = .ok (.iload_n 3, 1) := by decide +kernel
theorem dX3_spread_48 : decode cX3_spread 48 = .ok (.if_icmp .ne 14, 3) := by decide +kernel
theorem dX3_spread_51 : decode cX3_spread 51 = .ok (.aload_n 0, 1) := by decide +kernel
theorem dX3_spread_52 : decode cX3_spread 52 = .ok (.getfield 9, 3) := by decide +kernel
theorem dX3_spread_55 : decode cX3_spread 55 = .ok (.iload 6, 2) := by decide +kernel
theorem dX3_spread_57 : decode cX3_spread 57 = .ok (.iconst (-1), 1) := by decide +kernel
theorem dX3_spread_58 : decode cX3_spread 58 = .ok (.iastore, 1) := by decide +kernel
theorem dX3_spread_59 : decode cX3_spread 59 = .ok (.goto 72, 3) := by decide +kernel
theorem dX3_spread_62 : decode cX3_spread 62 = .ok (.aload_n 0, 1) := by decide +kernel
theorem dX3_spread_63 : decode cX3_spread 63 = .ok (.getfield 38, 3) := by decide +kernel
theorem dX3_spread_66 : decode cX3_spread 66 = .ok (.iload 6, 2) := by decide +kernel
theorem dX3_spread_68 : decode cX3_spread 68 = .ok (.invokevirtual 57, 3) := by decide +kernel
theorem dX3_spread_71 : decode cX3_spread 71 = .ok (.iload_n 1, 1) := by decide +kernel
theorem dX3_spread_72 : decode cX3_spread 72 = .ok (.if_icmp .ne 46, 3) := by decide +kernel
theorem dX3_spread_75 : decode cX3_spread 75 = .ok (.aload_n 0, 1) := by decide +kernel
theorem dX3_spread_76 : decode cX3_spread 76 = .ok (.getfield 38, 3) := by decide +kernel
theorem dX3_spread_79 : decode cX3_spread 79 = .ok (.getfield 61, 3) := by decide +kernel
theorem dX3_spread_82 : decode cX3_spread 82 = .ok (.iload 6, 2) := by decide +kernel
theorem dX3_spread_84 : decode cX3_spread 84 = .ok (.iaload, 1) := by decide +kernel
theorem dX3_spread_85 : decode cX3_spread 85 = .ok (.iload_n 2, 1) := by decide +kernel
theorem dX3_spread_86 : decode cX3_spread 86 = .ok (.if_icmp .lt 32, 3) := by decide +kernel
theorem dX3_spread_89 : decode cX3_spread 89 = .ok (.aload_n 0, 1) := by decide +kernel
theorem dX3_spread_90 : decode cX3_spread 90 = .ok (.getfield 9, 3) := by decide +kernel
theorem dX3_spread_93 : decode cX3_spread 93 = .ok (.iload 6, 2) := by decide +kernel
theorem dX3_spread_95 : decode cX3_spread 95 = .ok (.iload 4, 2) := by decide +kernel
theorem dX3_spread_97 : decode cX3_spread 97 = .ok (.ifCond .eq 7, 3) := by decide +kernel
theorem dX3_spread_100 : decode cX3_spread 100 = .ok (.iconst 1, 1) := by decide +kernel
theorem dX3_spread_101 : decode cX3_spread 101 = .ok (.goto 13, 3) := by decide +kernel
theorem dX3_spread_104 : decode cX3_spread 104 = .ok (.aload_n 0, 1) := by decide +kernel
theorem dX3_spread_105 : decode cX3_spread 105 = .ok (.getfield 38, 3) := by decide +kernel
theorem dX3_spread_108 : decode cX3_spread 108 = .ok (.getfield 61, 3) := by decide +kernel
theorem dX3_spread_111 : decode cX3_spread 111 = .ok (.iload 6, 2) := by decide +kernel
theorem dX3_spread_113 : decode cX3_spread 113 = .ok (.iaload, 1) := by decide +kernel
theorem dX3_spread_114 : decode cX3_spread 114 = .ok (.iastore, 1) := by decide +kernel
theorem dX3_spread_115 : decode cX3_spread 115 = .ok (.goto 16, 3) := by decide +kernel
theorem dX3_spread_118 : decode cX3_spread 118 = .ok (.aload_n 0, 1) := by decide +kernel
theorem dX3_spread_119 : decode cX3_spread 119 = .ok (.getfield 9, 3) := by decide +kernel
theorem dX3_spread_122 : decode cX3_spread 122 = .ok (.iload 6, 2) := by decide +kernel
theorem dX3_spread_124 : decode cX3_spread 124 = .ok (.aload_n 0, 1) := by decide +kernel
theorem dX3_spread_125 : decode cX3_spread 125 = .ok (.iload 6, 2) := by decide +kernel
theorem dX3_spread_127 : decode cX3_spread 127 = .ok (.invokevirtual 64, 3) := by decide +kernel
theorem dX3_spread_130 : decode cX3_spread 130 = .ok (.iastore, 1) := by decide +kernel
theorem dX3_spread_131 : decode cX3_spread 131 = .ok (.iinc 5 1, 3) := by decide +kernel
theorem dX3_spread_134 : decode cX3_spread 134 = .ok (.goto (-121), 3) := by decide +kernel
theorem dX3_spread_137 : decode cX3_spread 137 = .ok (.return_, 1) := by decide +kernel
theorem dX3_emptyQueues_0 : decode cX3_emptyQueues 0 = .ok (.iconst 0, 1) := by decide +kernel
theorem dX3_emptyQueues_1 : decode cX3_emptyQueues 1 = .ok (.istore_n 1, 1) := by decide +kernel
theorem dX3_emptyQueues_2 : decode cX3_emptyQueues 2 = .ok (.iload_n 1, 1) := by decide +kernel
theorem dX3_emptyQueues_3 : decode cX3_emptyQueues 3 = .ok (.bipush 24, 2) := by decide +kernel
theorem dX3_emptyQueues_5 : decode cX3_emptyQueues 5 = .ok (.if_icmp .ge 39, 3) := by decide +kernel
theorem dX3_emptyQueues_8 : decode cX3_emptyQueues 8 = .ok (.aload_n 0, 1) := by decide +kernel
theorem dX3_emptyQueues_9 : decode cX3_emptyQueues 9 = .ok (.getfield 38, 3) := by decide +kernel
theorem dX3_emptyQueues_12 : decode cX3_emptyQueues 12 = .ok (.iload_n 1, 1) := by decide +kernel
theorem dX3_emptyQueues_13 : decode cX3_emptyQueues 13 = .ok (.invokevirtual 67, 3) := by decide +kernel
theorem dX3_emptyQueues_16 : decode cX3_emptyQueues 16 = .ok (.istore_n 2, 1) := by decide +kernel
theorem dX3_emptyQueues_17 : decode cX3_emptyQueues 17 = .ok (.aload_n 0, 1) := by decide +kernel
theorem dX3_emptyQueues_18 : decode cX3_emptyQueues 18 = .ok (.getfield 18, 3) := by decide +kernel
theorem dX3_emptyQueues_21 : decode cX3_emptyQueues 21 = .ok (.iload_n 1, 1) := by decide +kernel
theorem dX3_emptyQueues_22 : decode cX3_emptyQueues 22 = .ok (.iload_n 2, 1) := by decide +kernel
theorem dX3_emptyQueues_23 : decode cX3_emptyQueues 23 = .ok (.iastore, 1) := by decide +kernel
theorem dX3_emptyQueues_24 : decode cX3_emptyQueues 24 = .ok (.aload_n 0, 1) := by decide +kernel
theorem dX3_emptyQueues_25 : decode cX3_emptyQueues 25 = .ok (.getfield 21, 3) := by decide +kernel
theorem dX3_emptyQueues_28 : decode cX3_emptyQueues 28 = .ok (.iload_n 1, 1) := by decide +kernel
theorem dX3_emptyQueues_29 : decode cX3_emptyQueues 29 = .ok (.iload_n 2, 1) := by decide +kernel
theorem dX3_emptyQueues_30 : decode cX3_emptyQueues 30 = .ok (.iastore, 1) := by decide +kernel
theorem dX3_emptyQueues_31 : decode cX3_emptyQueues 31 = .ok (.aload_n 0, 1) := by decide +kernel
theorem dX3_emptyQueues_32 : decode cX3_emptyQueues 32 = .ok (.getfield 24, 3) := by decide +kernel
theorem dX3_emptyQueues_35 : decode cX3_emptyQueues 35 = .ok (.iload_n 1, 1) := by decide +kernel
theorem dX3_emptyQueues_36 : decode cX3_emptyQueues 36 = .ok (.iload_n 2, 1) := by decide +kernel
theorem dX3_emptyQueues_37 : decode cX3_emptyQueues 37 = .ok (.iastore, 1) := by decide +kernel
theorem dX3_emptyQueues_38 : decode cX3_emptyQueues 38 = .ok (.iinc 1 1, 3) := by decide +kernel
theorem dX3_emptyQueues_41 : decode cX3_emptyQueues 41 = .ok (.goto (-39), 3) := by decide +kernel
theorem dX3_emptyQueues_44 : decode cX3_emptyQueues 44 = .ok (.return_, 1) := by decide +kernel
theorem dX3_worthBehindOthers_0 : decode cX3_worthBehindOthers 0 = .ok (.aload_n 0, 1) := by decide +kernel
theorem dX3_worthBehindOthers_1 : decode cX3_worthBehindOthers 1 = .ok (.getfield 38, 3) := by decide +kernel
theorem dX3_worthBehindOthers_4 : decode cX3_worthBehindOthers 4 = .ok (.iload_n 1, 1) := by decide +kernel
theorem dX3_worthBehindOthers_5 : decode cX3_worthBehindOthers 5 = .ok (.invokevirtual 57, 3) := by decide +kernel
theorem dX3_worthBehindOthers_8 : decode cX3_worthBehindOthers 8 = .ok (.istore_n 2, 1) := by decide +kernel
theorem dX3_worthBehindOthers_9 : decode cX3_worthBehindOthers 9 = .ok (.aload_n 0, 1) := by decide +kernel
theorem dX3_worthBehindOthers_10 : decode cX3_worthBehindOthers 10 = .ok (.getfield 38, 3) := by decide +kernel
theorem dX3_worthBehindOthers_13 : decode cX3_worthBehindOthers 13 = .ok (.getfield 61, 3) := by decide +kernel
theorem dX3_worthBehindOthers_16 : decode cX3_worthBehindOthers 16 = .ok (.iload_n 1, 1) := by decide +kernel
theorem dX3_worthBehindOthers_17 : decode cX3_worthBehindOthers 17 = .ok (.iaload, 1) := by decide +kernel
theorem dX3_worthBehindOthers_18 : decode cX3_worthBehindOthers 18 = .ok (.istore_n 3, 1) := by decide +kernel
theorem dX3_worthBehindOthers_19 : decode cX3_worthBehindOthers 19 = .ok (.aload_n 0, 1) := by decide +kernel
theorem dX3_worthBehindOthers_20 : decode cX3_worthBehindOthers 20 = .ok (.iload_n 2, 1) := by decide +kernel
theorem dX3_worthBehindOthers_21 : decode cX3_worthBehindOthers 21 = .ok (.aload_n 0, 1) := by decide +kernel
theorem dX3_worthBehindOthers_22 : decode cX3_worthBehindOthers 22 = .ok (.getfield 34, 3) := by decide +kernel
theorem dX3_worthBehindOthers_25 : decode cX3_worthBehindOthers 25 = .ok (.iload_n 2, 1) := by decide +kernel
theorem dX3_worthBehindOthers_26 : decode cX3_worthBehindOthers 26 = .ok (.iload_n 3, 1) := by decide +kernel
theorem dX3_worthBehindOthers_27 : decode cX3_worthBehindOthers 27 = .ok (.invokevirtual 70, 3) := by decide +kernel
theorem dX3_worthBehindOthers_30 : decode cX3_worthBehindOthers 30 = .ok (.invokevirtual 76, 3) := by decide +kernel
theorem dX3_worthBehindOthers_33 : decode cX3_worthBehindOthers 33 = .ok (.aload_n 0, 1) := by decide +kernel
theorem dX3_worthBehindOthers_34 : decode cX3_worthBehindOthers 34 = .ok (.iload_n 2, 1) := by decide +kernel
theorem dX3_worthBehindOthers_35 : decode cX3_worthBehindOthers 35 = .ok (.aload_n 0, 1) := by decide +kernel
theorem dX3_worthBehindOthers_36 : decode cX3_worthBehindOthers 36 = .ok (.getfield 34, 3) := by decide +kernel
theorem dX3_worthBehindOthers_39 : decode cX3_worthBehindOthers 39 = .ok (.iload_n 2, 1) := by decide +kernel
theorem dX3_worthBehindOthers_40 : decode cX3_worthBehindOthers 40 = .ok (.iload_n 3, 1) := by decide +kernel
theorem dX3_worthBehindOthers_41 : decode cX3_worthBehindOthers 41 = .ok (.invokevirtual 80, 3) := by decide +kernel
theorem dX3_worthBehindOthers_44 : decode cX3_worthBehindOthers 44 = .ok (.invokevirtual 83, 3) := by decide +kernel
theorem dX3_worthBehindOthers_47 : decode cX3_worthBehindOthers 47 = .ok (.aload_n 0, 1) := by decide +kernel
theorem dX3_worthBehindOthers_48 : decode cX3_worthBehindOthers 48 = .ok (.getfield 18, 3) := by decide +kernel
theorem dX3_worthBehindOthers_51 : decode cX3_worthBehindOthers 51 = .ok (.iload_n 2, 1) := by decide +kernel
theorem dX3_worthBehindOthers_52 : decode cX3_worthBehindOthers 52 = .ok (.iaload, 1) := by decide +kernel
theorem dX3_worthBehindOthers_53 : decode cX3_worthBehindOthers 53 = .ok (.aload_n 0, 1) := by decide +kernel
theorem dX3_worthBehindOthers_54 : decode cX3_worthBehindOthers 54 = .ok (.getfield 21, 3) := by decide +kernel
theorem dX3_worthBehindOthers_57 : decode cX3_worthBehindOthers 57 = .ok (.iload_n 2, 1) := by decide +kernel
theorem dX3_worthBehindOthers_58 : decode cX3_worthBehindOthers 58 = .ok (.iaload, 1) := by decide +kernel
theorem dX3_worthBehindOthers_59 : decode cX3_worthBehindOthers 59 = .ok (.if_icmp .lt 5, 3) := by decide +kernel
theorem dX3_worthBehindOthers_62 : decode cX3_worthBehindOthers 62 = .ok (.iconst (-1), 1) := by decide +kernel
theorem dX3_worthBehindOthers_63 : decode cX3_worthBehindOthers 63 = .ok (.ireturn, 1) := by decide +kernel
theorem dX3_worthBehindOthers_64 : decode cX3_worthBehindOthers 64 = .ok (.aload_n 0, 1) := by decide +kernel
theorem dX3_worthBehindOthers_65 : decode cX3_worthBehindOthers 65 = .ok (.getfield 9, 3) := by decide +kernel
theorem dX3_worthBehindOthers_68 : decode cX3_worthBehindOthers 68 = .ok (.aload_n 0, 1) := by decide +kernel
theorem dX3_worthBehindOthers_69 : decode cX3_worthBehindOthers 69 = .ok (.getfield 15, 3) := by decide +kernel
theorem dX3_worthBehindOthers_72 : decode cX3_worthBehindOthers 72 = .ok (.aload_n 0, 1) := by decide +kernel
theorem dX3_worthBehindOthers_73 : decode cX3_worthBehindOthers 73 = .ok (.getfield 18, 3) := by decide +kernel
theorem dX3_worthBehindOthers_76 : decode cX3_worthBehindOthers 76 = .ok (.iload_n 2, 1) := by decide +kernel
theorem dX3_worthBehindOthers_77 : decode cX3_worthBehindOthers 77 = .ok (.iaload, 1) := by decide +kernel
theorem dX3_worthBehindOthers_78 : decode cX3_worthBehindOthers 78 = .ok (.iaload, 1) := by decide +kernel
theorem dX3_worthBehindOthers_79 : decode cX3_worthBehindOthers 79 = .ok (.iaload, 1) := by decide +kernel
theorem dX3_worthBehindOthers_80 : decode cX3_worthBehindOthers 80 = .ok (.istore 4, 2) := by decide +kernel
theorem dX3_worthBehindOthers_82 : decode cX3_worthBehindOthers 82 = .ok (.aload_n 0, 1) := by decide +kernel
theorem dX3_worthBehindOthers_83 : decode cX3_worthBehindOthers 83 = .ok (.getfield 30, 3) := by decide +kernel
theorem dX3_worthBehindOthers_86 : decode cX3_worthBehindOthers 86 = .ok (.ifCond .eq 10, 3) := by decide +kernel
theorem dX3_worthBehindOthers_89 : decode cX3_worthBehindOthers 89 = .ok (.iload 4, 2) := by decide +kernel
theorem dX3_worthBehindOthers_91 : decode cX3_worthBehindOthers 91 = .ok (.iconst 1, 1) := by decide +kernel
theorem dX3_worthBehindOthers_92 : decode cX3_worthBehindOthers 92 = .ok (.iadd, 1) := by decide +kernel
theorem dX3_worthBehindOthers_93 : decode cX3_worthBehindOthers 93 = .ok (.goto 5, 3) := by decide +kernel
theorem dX3_worthBehindOthers_96 : decode cX3_worthBehindOthers 96 = .ok (.iload 4, 2) := by decide +kernel
theorem dX3_worthBehindOthers_98 : decode cX3_worthBehindOthers 98 = .ok (.ireturn, 1) := by decide +kernel
theorem dX3_takeIn_0 : decode cX3_takeIn 0 = .ok (.aload_n 0, 1) := by decide +kernel
theorem dX3_takeIn_1 : decode cX3_takeIn 1 = .ok (.getfield 24, 3) := by decide +kernel
theorem dX3_takeIn_4 : decode cX3_takeIn 4 = .ok (.iload_n 1, 1) := by decide +kernel
theorem dX3_takeIn_5 : decode cX3_takeIn 5 = .ok (.iaload, 1) := by decide +kernel
theorem dX3_takeIn_6 : decode cX3_takeIn 6 = .ok (.istore_n 3, 1) := by decide +kernel
theorem dX3_takeIn_7 : decode cX3_takeIn 7 = .ok (.iload_n 3, 1) := by decide +kernel
theorem dX3_takeIn_8 : decode cX3_takeIn 8 = .ok (.aload_n 0, 1) := by decide +kernel
theorem dX3_takeIn_9 : decode cX3_takeIn 9 = .ok (.getfield 38, 3) := by decide +kernel
theorem dX3_takeIn_12 : decode cX3_takeIn 12 = .ok (.getfield 86, 3) := by decide +kernel
theorem dX3_takeIn_15 : decode cX3_takeIn 15 = .ok (.iload_n 1, 1) := by decide +kernel
theorem dX3_takeIn_16 : decode cX3_takeIn 16 = .ok (.iaload, 1) := by decide +kernel
theorem dX3_takeIn_17 : decode cX3_takeIn 17 = .ok (.if_icmp .ge 62, 3) := by decide +kernel
theorem dX3_takeIn_20 : decode cX3_takeIn 20 = .ok (.aload_n 0, 1) := by decide +kernel
theorem dX3_takeIn_21 : decode cX3_takeIn 21 = .ok (.getfield 38, 3) := by decide +kernel
theorem dX3_takeIn_24 : decode cX3_takeIn 24 = .ok (.getfield 89, 3) := by decide +kernel
theorem dX3_takeIn_27 : decode cX3_takeIn 27 = .ok (.aload_n 0, 1) := by decide +kernel
theorem dX3_takeIn_28 : decode cX3_takeIn 28 = .ok (.getfield 38, 3) := by decide +kernel
theorem dX3_takeIn_31 : decode cX3_takeIn 31 = .ok (.getfield 92, 3) := by decide +kernel
theorem dX3_takeIn_34 : decode cX3_takeIn 34 = .ok (.iload_n 3, 1) := by decide +kernel
theorem dX3_takeIn_35 : decode cX3_takeIn 35 = .ok (.iaload, 1) := by decide +kernel
theorem dX3_takeIn_36 : decode cX3_takeIn 36 = .ok (.iaload, 1) := by decide +kernel
theorem dX3_takeIn_37 : decode cX3_takeIn 37 = .ok (.iload_n 2, 1) := by decide +kernel
theorem dX3_takeIn_38 : decode cX3_takeIn 38 = .ok (.if_icmp .gt 41, 3) := by decide +kernel
theorem dX3_takeIn_41 : decode cX3_takeIn 41 = .ok (.aload_n 0, 1) := by decide +kernel
theorem dX3_takeIn_42 : decode cX3_takeIn 42 = .ok (.getfield 9, 3) := by decide +kernel
theorem dX3_takeIn_45 : decode cX3_takeIn 45 = .ok (.aload_n 0, 1) := by decide +kernel
theorem dX3_takeIn_46 : decode cX3_takeIn 46 = .ok (.getfield 38, 3) := by decide +kernel
theorem dX3_takeIn_49 : decode cX3_takeIn 49 = .ok (.getfield 92, 3) := by decide +kernel
theorem dX3_takeIn_52 : decode cX3_takeIn 52 = .ok (.iload_n 3, 1) := by decide +kernel
theorem dX3_takeIn_53 : decode cX3_takeIn 53 = .ok (.iaload, 1) := by decide +kernel
theorem dX3_takeIn_54 : decode cX3_takeIn 54 = .ok (.iaload, 1) := by decide +kernel
theorem dX3_takeIn_55 : decode cX3_takeIn 55 = .ok (.iconst (-1), 1) := by decide +kernel
theorem dX3_takeIn_56 : decode cX3_takeIn 56 = .ok (.if_icmp .eq 17, 3) := by decide +kernel
theorem dX3_takeIn_59 : decode cX3_takeIn 59 = .ok (.aload_n 0, 1) := by decide +kernel
theorem dX3_takeIn_60 : decode cX3_takeIn 60 = .ok (.iload_n 1, 1) := by decide +kernel
theorem dX3_takeIn_61 : decode cX3_takeIn 61 = .ok (.aload_n 0, 1) := by decide +kernel
theorem dX3_takeIn_62 : decode cX3_takeIn 62 = .ok (.getfield 38, 3) := by decide +kernel
theorem dX3_takeIn_65 : decode cX3_takeIn 65 = .ok (.getfield 92, 3) := by decide +kernel
theorem dX3_takeIn_68 : decode cX3_takeIn 68 = .ok (.iload_n 3, 1) := by decide +kernel
theorem dX3_takeIn_69 : decode cX3_takeIn 69 = .ok (.iaload, 1) := by decide +kernel
theorem dX3_takeIn_70 : decode cX3_takeIn 70 = .ok (.invokevirtual 95, 3) := by decide +kernel
theorem dX3_takeIn_73 : decode cX3_takeIn 73 = .ok (.iinc 3 1, 3) := by decide +kernel
theorem dX3_takeIn_76 : decode cX3_takeIn 76 = .ok (.goto (-69), 3) := by decide +kernel
theorem dX3_takeIn_79 : decode cX3_takeIn 79 = .ok (.aload_n 0, 1) := by decide +kernel
theorem dX3_takeIn_80 : decode cX3_takeIn 80 = .ok (.getfield 24, 3) := by decide +kernel
theorem dX3_takeIn_83 : decode cX3_takeIn 83 = .ok (.iload_n 1, 1) := by decide +kernel
theorem dX3_takeIn_84 : decode cX3_takeIn 84 = .ok (.iload_n 3, 1) := by decide +kernel
theorem dX3_takeIn_85 : decode cX3_takeIn 85 = .ok (.iastore, 1) := by decide +kernel
theorem dX3_takeIn_86 : decode cX3_takeIn 86 = .ok (.return_, 1) := by decide +kernel
theorem dX3_join_0 : decode cX3_join 0 = .ok (.aload_n 0, 1) := by decide +kernel
theorem dX3_join_1 : decode cX3_join 1 = .ok (.getfield 21, 3) := by decide +kernel
theorem dX3_join_4 : decode cX3_join 4 = .ok (.iload_n 1, 1) := by decide +kernel
theorem dX3_join_5 : decode cX3_join 5 = .ok (.iaload, 1) := by decide +kernel
theorem dX3_join_6 : decode cX3_join 6 = .ok (.istore_n 3, 1) := by decide +kernel
theorem dX3_join_7 : decode cX3_join 7 = .ok (.iload_n 3, 1) := by decide +kernel
theorem dX3_join_8 : decode cX3_join 8 = .ok (.aload_n 0, 1) := by decide +kernel
theorem dX3_join_9 : decode cX3_join 9 = .ok (.getfield 18, 3) := by decide +kernel
theorem dX3_join_12 : decode cX3_join 12 = .ok (.iload_n 1, 1) := by decide +kernel
theorem dX3_join_13 : decode cX3_join 13 = .ok (.iaload, 1) := by decide +kernel
theorem dX3_join_14 : decode cX3_join 14 = .ok (.if_icmp .le 35, 3) := by decide +kernel
theorem dX3_join_17 : decode cX3_join 17 = .ok (.aload_n 0, 1) := by decide +kernel
theorem dX3_join_18 : decode cX3_join 18 = .ok (.aload_n 0, 1) := by decide +kernel
theorem dX3_join_19 : decode cX3_join 19 = .ok (.getfield 9, 3) := by decide +kernel
theorem dX3_join_22 : decode cX3_join 22 = .ok (.aload_n 0, 1) := by decide +kernel
theorem dX3_join_23 : decode cX3_join 23 = .ok (.getfield 15, 3) := by decide +kernel
theorem dX3_join_26 : decode cX3_join 26 = .ok (.iload_n 3, 1) := by decide +kernel
theorem dX3_join_27 : decode cX3_join 27 = .ok (.iconst 1, 1) := by decide +kernel
theorem dX3_join_28 : decode cX3_join 28 = .ok (.isub, 1) := by decide +kernel
theorem dX3_join_29 : decode cX3_join 29 = .ok (.iaload, 1) := by decide +kernel
theorem dX3_join_30 : decode cX3_join 30 = .ok (.iaload, 1) := by decide +kernel
theorem dX3_join_31 : decode cX3_join 31 = .ok (.aload_n 0, 1) := by decide +kernel
theorem dX3_join_32 : decode cX3_join 32 = .ok (.getfield 9, 3) := by decide +kernel
theorem dX3_join_35 : decode cX3_join 35 = .ok (.iload_n 2, 1) := by decide +kernel
theorem dX3_join_36 : decode cX3_join 36 = .ok (.iaload, 1) := by decide +kernel
theorem dX3_join_37 : decode cX3_join 37 = .ok (.invokevirtual 98, 3) := by decide +kernel
theorem dX3_join_40 : decode cX3_join 40 = .ok (.ifCond .ne 9, 3) := by decide +kernel
theorem dX3_join_43 : decode cX3_join 43 = .ok (.iinc 3 (-1), 3) := by decide +kernel
theorem dX3_join_46 : decode cX3_join 46 = .ok (.goto (-39), 3) := by decide +kernel
theorem dX3_join_49 : decode cX3_join 49 = .ok (.aload_n 0, 1) := by decide +kernel
theorem dX3_join_50 : decode cX3_join 50 = .ok (.getfield 15, 3) := by decide +kernel
theorem dX3_join_53 : decode cX3_join 53 = .ok (.iload_n 3, 1) := by decide +kernel
theorem dX3_join_54 : decode cX3_join 54 = .ok (.iload_n 2, 1) := by decide +kernel
theorem dX3_join_55 : decode cX3_join 55 = .ok (.iastore, 1) := by decide +kernel
theorem dX3_join_56 : decode cX3_join 56 = .ok (.aload_n 0, 1) := by decide +kernel
theorem dX3_join_57 : decode cX3_join 57 = .ok (.getfield 21, 3) := by decide +kernel
theorem dX3_join_60 : decode cX3_join 60 = .ok (.iload_n 1, 1) := by decide +kernel
theorem dX3_join_61 : decode cX3_join 61 = .ok (.iload_n 3, 1) := by decide +kernel
theorem dX3_join_62 : decode cX3_join 62 = .ok (.iconst 1, 1) := by decide +kernel
theorem dX3_join_63 : decode cX3_join 63 = .ok (.iadd, 1) := by decide +kernel
theorem dX3_join_64 : decode cX3_join 64 = .ok (.iastore, 1) := by decide +kernel
theorem dX3_join_65 : decode cX3_join 65 = .ok (.return_, 1) := by decide +kernel
theorem dX3_dropOld_0 : decode cX3_dropOld 0 = .ok (.aload_n 0, 1) := by decide +kernel
theorem dX3_dropOld_1 : decode cX3_dropOld 1 = .ok (.getfield 18, 3) := by decide +kernel
theorem dX3_dropOld_4 : decode cX3_dropOld 4 = .ok (.iload_n 1, 1) := by decide +kernel
theorem dX3_dropOld_5 : decode cX3_dropOld 5 = .ok (.iaload, 1) := by decide +kernel
theorem dX3_dropOld_6 : decode cX3_dropOld 6 = .ok (.istore_n 3, 1) := by decide +kernel
theorem dX3_dropOld_7 : decode cX3_dropOld 7 = .ok (.iload_n 3, 1) := by decide +kernel
theorem dX3_dropOld_8 : decode cX3_dropOld 8 = .ok (.aload_n 0, 1) := by decide +kernel
theorem dX3_dropOld_9 : decode cX3_dropOld 9 = .ok (.getfield 21, 3) := by decide +kernel
theorem dX3_dropOld_12 : decode cX3_dropOld 12 = .ok (.iload_n 1, 1) := by decide +kernel
theorem dX3_dropOld_13 : decode cX3_dropOld 13 = .ok (.iaload, 1) := by decide +kernel
theorem dX3_dropOld_14 : decode cX3_dropOld 14 = .ok (.if_icmp .ge 27, 3) := by decide +kernel
theorem dX3_dropOld_17 : decode cX3_dropOld 17 = .ok (.aload_n 0, 1) := by decide +kernel
theorem dX3_dropOld_18 : decode cX3_dropOld 18 = .ok (.getfield 38, 3) := by decide +kernel
theorem dX3_dropOld_21 : decode cX3_dropOld 21 = .ok (.getfield 89, 3) := by decide +kernel
theorem dX3_dropOld_24 : decode cX3_dropOld 24 = .ok (.aload_n 0, 1) := by decide +kernel
theorem dX3_dropOld_25 : decode cX3_dropOld 25 = .ok (.getfield 15, 3) := by decide +kernel
theorem dX3_dropOld_28 : decode cX3_dropOld 28 = .ok (.iload_n 3, 1) := by decide +kernel
theorem dX3_dropOld_29 : decode cX3_dropOld 29 = .ok (.iaload, 1) := by decide +kernel
theorem dX3_dropOld_30 : decode cX3_dropOld 30 = .ok (.iaload, 1) := by decide +kernel
theorem dX3_dropOld_31 : decode cX3_dropOld 31 = .ok (.iload_n 2, 1) := by decide +kernel
theorem dX3_dropOld_32 : decode cX3_dropOld 32 = .ok (.if_icmp .ge 9, 3) := by decide +kernel
theorem dX3_dropOld_35 : decode cX3_dropOld 35 = .ok (.iinc 3 1, 3) := by decide +kernel
theorem dX3_dropOld_38 : decode cX3_dropOld 38 = .ok (.goto (-31), 3) := by decide +kernel
theorem dX3_dropOld_41 : decode cX3_dropOld 41 = .ok (.aload_n 0, 1) := by decide +kernel
theorem dX3_dropOld_42 : decode cX3_dropOld 42 = .ok (.getfield 18, 3) := by decide +kernel
theorem dX3_dropOld_45 : decode cX3_dropOld 45 = .ok (.iload_n 1, 1) := by decide +kernel
theorem dX3_dropOld_46 : decode cX3_dropOld 46 = .ok (.iload_n 3, 1) := by decide +kernel
theorem dX3_dropOld_47 : decode cX3_dropOld 47 = .ok (.iastore, 1) := by decide +kernel
theorem dX3_dropOld_48 : decode cX3_dropOld 48 = .ok (.return_, 1) := by decide +kernel
theorem dX3_isBetter_0 : decode cX3_isBetter 0 = .ok (.aload_n 0, 1) := by decide +kernel
theorem dX3_isBetter_1 : decode cX3_isBetter 1 = .ok (.getfield 30, 3) := by decide +kernel
theorem dX3_isBetter_4 : decode cX3_isBetter 4 = .ok (.ifCond .eq 16, 3) := by decide +kernel
theorem dX3_isBetter_7 : decode cX3_isBetter 7 = .ok (.iload_n 1, 1) := by decide +kernel
theorem dX3_isBetter_8 : decode cX3_isBetter 8 = .ok (.iload_n 2, 1) := by decide +kernel
theorem dX3_isBetter_9 : decode cX3_isBetter 9 = .ok (.if_icmp .ge 7, 3) := by decide +kernel
theorem dX3_isBetter_12 : decode cX3_isBetter 12 = .ok (.iconst 1, 1) := by decide +kernel
theorem dX3_isBetter_13 : decode cX3_isBetter 13 = .ok (.goto 17, 3) := by decide +kernel
theorem dX3_isBetter_16 : decode cX3_isBetter 16 = .ok (.iconst 0, 1) := by decide +kernel
theorem dX3_isBetter_17 : decode cX3_isBetter 17 = .ok (.goto 13, 3) := by decide +kernel
theorem dX3_isBetter_20 : decode cX3_isBetter 20 = .ok (.iload_n 1, 1) := by decide +kernel
theorem dX3_isBetter_21 : decode cX3_isBetter 21 = .ok (.iload_n 2, 1) := by decide +kernel
theorem dX3_isBetter_22 : decode cX3_isBetter 22 = .ok (.if_icmp .le 7, 3) := by decide +kernel
theorem dX3_isBetter_25 : decode cX3_isBetter 25 = .ok (.iconst 1, 1) := by decide +kernel
theorem dX3_isBetter_26 : decode cX3_isBetter 26 = .ok (.goto 4, 3) := by decide +kernel
theorem dX3_isBetter_29 : decode cX3_isBetter 29 = .ok (.iconst 0, 1) := by decide +kernel
theorem dX3_isBetter_30 : decode cX3_isBetter 30 = .ok (.ireturn, 1) := by decide +kernel
theorem dX3_firstComing_0 : decode cX3_firstComing 0 = .ok (.aload_n 0, 1) := by decide +kernel
theorem dX3_firstComing_1 : decode cX3_firstComing 1 = .ok (.getfield 38, 3) := by decide +kernel
theorem dX3_firstComing_4 : decode cX3_firstComing 4 = .ok (.iload_n 1, 1) := by decide +kernel
theorem dX3_firstComing_5 : decode cX3_firstComing 5 = .ok (.invokevirtual 67, 3) := by decide +kernel
theorem dX3_firstComing_8 : decode cX3_firstComing 8 = .ok (.istore_n 2, 1) := by decide +kernel
theorem dX3_firstComing_9 : decode cX3_firstComing 9 = .ok (.iload_n 2, 1) := by decide +kernel
theorem dX3_firstComing_10 : decode cX3_firstComing 10 = .ok (.aload_n 0, 1) := by decide +kernel
theorem dX3_firstComing_11 : decode cX3_firstComing 11 = .ok (.getfield 38, 3) := by decide +kernel
theorem dX3_firstComing_14 : decode cX3_firstComing 14 = .ok (.getfield 86, 3) := by decide +kernel
theorem dX3_firstComing_17 : decode cX3_firstComing 17 = .ok (.iload_n 1, 1) := by decide +kernel
theorem dX3_firstComing_18 : decode cX3_firstComing 18 = .ok (.iaload, 1) := by decide +kernel
theorem dX3_firstComing_19 : decode cX3_firstComing 19 = .ok (.if_icmp .ge 45, 3) := by decide +kernel
theorem dX3_firstComing_22 : decode cX3_firstComing 22 = .ok (.aload_n 0, 1) := by decide +kernel
theorem dX3_firstComing_23 : decode cX3_firstComing 23 = .ok (.getfield 9, 3) := by decide +kernel
theorem dX3_firstComing_26 : decode cX3_firstComing 26 = .ok (.aload_n 0, 1) := by decide +kernel
theorem dX3_firstComing_27 : decode cX3_firstComing 27 = .ok (.getfield 38, 3) := by decide +kernel
theorem dX3_firstComing_30 : decode cX3_firstComing 30 = .ok (.getfield 92, 3) := by decide +kernel
theorem dX3_firstComing_33 : decode cX3_firstComing 33 = .ok (.iload_n 2, 1) := by decide +kernel
theorem dX3_firstComing_34 : decode cX3_firstComing 34 = .ok (.iaload, 1) := by decide +kernel
theorem dX3_firstComing_35 : decode cX3_firstComing 35 = .ok (.iaload, 1) := by decide +kernel
theorem dX3_firstComing_36 : decode cX3_firstComing 36 = .ok (.iconst (-1), 1) := by decide +kernel
theorem dX3_firstComing_37 : decode cX3_firstComing 37 = .ok (.if_icmp .eq 21, 3) := by decide +kernel
theorem dX3_firstComing_40 : decode cX3_firstComing 40 = .ok (.aload_n 0, 1) := by decide +kernel
theorem dX3_firstComing_41 : decode cX3_firstComing 41 = .ok (.getfield 38, 3) := by decide +kernel
theorem dX3_firstComing_44 : decode cX3_firstComing 44 = .ok (.getfield 89, 3) := by decide +kernel
theorem dX3_firstComing_47 : decode cX3_firstComing 47 = .ok (.aload_n 0, 1) := by decide +kernel
theorem dX3_firstComing_48 : decode cX3_firstComing 48 = .ok (.getfield 38, 3) := by decide +kernel
theorem dX3_firstComing_51 : decode cX3_firstComing 51 = .ok (.getfield 92, 3) := by decide +kernel
theorem dX3_firstComing_54 : decode cX3_firstComing 54 = .ok (.iload_n 2, 1) := by decide +kernel
theorem dX3_firstComing_55 : decode cX3_firstComing 55 = .ok (.iaload, 1) := by decide +kernel
theorem dX3_firstComing_56 : decode cX3_firstComing 56 = .ok (.iaload, 1) := by decide +kernel
theorem dX3_firstComing_57 : decode cX3_firstComing 57 = .ok (.ireturn, 1) := by decide +kernel
theorem dX3_firstComing_58 : decode cX3_firstComing 58 = .ok (.iinc 2 1, 3) := by decide +kernel
theorem dX3_firstComing_61 : decode cX3_firstComing 61 = .ok (.goto (-52), 3) := by decide +kernel
theorem dX3_firstComing_64 : decode cX3_firstComing 64 = .ok (.iconst (-1), 1) := by decide +kernel
theorem dX3_firstComing_65 : decode cX3_firstComing 65 = .ok (.ireturn, 1) := by decide +kernel
theorem dX3_isComing_0 : decode cX3_isComing 0 = .ok (.aload_n 0, 1) := by decide +kernel
theorem dX3_isComing_1 : decode cX3_isComing 1 = .ok (.iload_n 1, 1) := by decide +kernel
theorem dX3_isComing_2 : decode cX3_isComing 2 = .ok (.invokevirtual 102, 3) := by decide +kernel
theorem dX3_isComing_5 : decode cX3_isComing 5 = .ok (.istore_n 3, 1) := by decide +kernel
theorem dX3_isComing_6 : decode cX3_isComing 6 = .ok (.iload_n 3, 1) := by decide +kernel
theorem dX3_isComing_7 : decode cX3_isComing 7 = .ok (.iconst (-1), 1) := by decide +kernel
theorem dX3_isComing_8 : decode cX3_isComing 8 = .ok (.if_icmp .eq 12, 3) := by decide +kernel
theorem dX3_isComing_11 : decode cX3_isComing 11 = .ok (.iload_n 3, 1) := by decide +kernel
theorem dX3_isComing_12 : decode cX3_isComing 12 = .ok (.iload_n 2, 1) := by decide +kernel
theorem dX3_isComing_13 : decode cX3_isComing 13 = .ok (.if_icmp .gt 7, 3) := by decide +kernel
theorem dX3_isComing_16 : decode cX3_isComing 16 = .ok (.iconst 1, 1) := by decide +kernel
theorem dX3_isComing_17 : decode cX3_isComing 17 = .ok (.goto 4, 3) := by decide +kernel
theorem dX3_isComing_20 : decode cX3_isComing 20 = .ok (.iconst 0, 1) := by decide +kernel
theorem dX3_isComing_21 : decode cX3_isComing 21 = .ok (.ireturn, 1) := by decide +kernel
theorem dX3_isEnd_0 : decode cX3_isEnd 0 = .ok (.aload_n 0, 1) := by decide +kernel
theorem dX3_isEnd_1 : decode cX3_isEnd 1 = .ok (.getfield 9, 3) := by decide +kernel
theorem dX3_isEnd_4 : decode cX3_isEnd 4 = .ok (.iload_n 1, 1) := by decide +kernel
theorem dX3_isEnd_5 : decode cX3_isEnd 5 = .ok (.iaload, 1) := by decide +kernel
theorem dX3_isEnd_6 : decode cX3_isEnd 6 = .ok (.iconst (-1), 1) := by decide +kernel
theorem dX3_isEnd_7 : decode cX3_isEnd 7 = .ok (.if_icmp .eq 20, 3) := by decide +kernel
theorem dX3_isEnd_10 : decode cX3_isEnd 10 = .ok (.aload_n 0, 1) := by decide +kernel
theorem dX3_isEnd_11 : decode cX3_isEnd 11 = .ok (.getfield 38, 3) := by decide +kernel
theorem dX3_isEnd_14 : decode cX3_isEnd 14 = .ok (.getfield 89, 3) := by decide +kernel
theorem dX3_isEnd_17 : decode cX3_isEnd 17 = .ok (.iload_n 1, 1) := by decide +kernel
theorem dX3_isEnd_18 : decode cX3_isEnd 18 = .ok (.iaload, 1) := by decide +kernel
theorem dX3_isEnd_19 : decode cX3_isEnd 19 = .ok (.iload_n 2, 1) := by decide +kernel
theorem dX3_isEnd_20 : decode cX3_isEnd 20 = .ok (.if_icmp .gt 7, 3) := by decide +kernel
theorem dX3_isEnd_23 : decode cX3_isEnd 23 = .ok (.iconst 1, 1) := by decide +kernel
theorem dX3_isEnd_24 : decode cX3_isEnd 24 = .ok (.goto 4, 3) := by decide +kernel
theorem dX3_isEnd_27 : decode cX3_isEnd 27 = .ok (.iconst 0, 1) := by decide +kernel
theorem dX3_isEnd_28 : decode cX3_isEnd 28 = .ok (.ireturn, 1) := by decide +kernel
theorem dX3_lastLeaving_0 : decode cX3_lastLeaving 0 = .ok (.iconst (-1), 1) := by decide +kernel
theorem dX3_lastLeaving_1 : decode cX3_lastLeaving 1 = .ok (.istore_n 3, 1) := by decide +kernel
theorem dX3_lastLeaving_2 : decode cX3_lastLeaving 2 = .ok (.aload_n 0, 1) := by decide +kernel
theorem dX3_lastLeaving_3 : decode cX3_lastLeaving 3 = .ok (.getfield 38, 3) := by decide +kernel
theorem dX3_lastLeaving_6 : decode cX3_lastLeaving 6 = .ok (.iload_n 1, 1) := by decide +kernel
theorem dX3_lastLeaving_7 : decode cX3_lastLeaving 7 = .ok (.invokevirtual 67, 3) := by decide +kernel
theorem dX3_lastLeaving_10 : decode cX3_lastLeaving 10 = .ok (.istore 4, 2) := by decide +kernel
theorem dX3_lastLeaving_12 : decode cX3_lastLeaving 12 = .ok (.iload 4, 2) := by decide +kernel
theorem dX3_lastLeaving_14 : decode cX3_lastLeaving 14 = .ok (.aload_n 0, 1) := by decide +kernel
theorem dX3_lastLeaving_15 : decode cX3_lastLeaving 15 = .ok (.getfield 38, 3) := by decide +kernel
theorem dX3_lastLeaving_18 : decode cX3_lastLeaving 18 = .ok (.getfield 86, 3) := by decide +kernel
theorem dX3_lastLeaving_21 : decode cX3_lastLeaving 21 = .ok (.iload_n 1, 1) := by decide +kernel
theorem dX3_lastLeaving_22 : decode cX3_lastLeaving 22 = .ok (.iaload, 1) := by decide +kernel
theorem dX3_lastLeaving_23 : decode cX3_lastLeaving 23 = .ok (.if_icmp .ge 43, 3) := by decide +kernel
theorem dX3_lastLeaving_26 : decode cX3_lastLeaving 26 = .ok (.aload_n 0, 1) := by decide +kernel
theorem dX3_lastLeaving_27 : decode cX3_lastLeaving 27 = .ok (.getfield 38, 3) := by decide +kernel
theorem dX3_lastLeaving_30 : decode cX3_lastLeaving 30 = .ok (.getfield 92, 3) := by decide +kernel
theorem dX3_lastLeaving_33 : decode cX3_lastLeaving 33 = .ok (.iload 4, 2) := by decide +kernel
theorem dX3_lastLeaving_35 : decode cX3_lastLeaving 35 = .ok (.iaload, 1) := by decide +kernel
theorem dX3_lastLeaving_36 : decode cX3_lastLeaving 36 = .ok (.istore 5, 2) := by decide +kernel
theorem dX3_lastLeaving_38 : decode cX3_lastLeaving 38 = .ok (.aload_n 0, 1) := by decide +kernel
theorem dX3_lastLeaving_39 : decode cX3_lastLeaving 39 = .ok (.iload 5, 2) := by decide +kernel
theorem dX3_lastLeaving_41 : decode cX3_lastLeaving 41 = .ok (.iload_n 2, 1) := by decide +kernel
theorem dX3_lastLeaving_42 : decode cX3_lastLeaving 42 = .ok (.invokevirtual 105, 3) := by decide +kernel
theorem dX3_lastLeaving_45 : decode cX3_lastLeaving 45 = .ok (.ifCond .eq 15, 3) := by decide +kernel
theorem dX3_lastLeaving_48 : decode cX3_lastLeaving 48 = .ok (.iload_n 3, 1) := by decide +kernel
theorem dX3_lastLeaving_49 : decode cX3_lastLeaving 49 = .ok (.aload_n 0, 1) := by decide +kernel
theorem dX3_lastLeaving_50 : decode cX3_lastLeaving 50 = .ok (.getfield 9, 3) := by decide +kernel
theorem dX3_lastLeaving_53 : decode cX3_lastLeaving 53 = .ok (.iload 5, 2) := by decide +kernel
theorem dX3_lastLeaving_55 : decode cX3_lastLeaving 55 = .ok (.iaload, 1) := by decide +kernel
theorem dX3_lastLeaving_56 : decode cX3_lastLeaving 56 = .ok (.invokestatic 108, 3) := by decide +kernel
theorem dX3_lastLeaving_59 : decode cX3_lastLeaving 59 = .ok (.istore_n 3, 1) := by decide +kernel
theorem dX3_lastLeaving_60 : decode cX3_lastLeaving 60 = .ok (.iinc 4 1, 3) := by decide +kernel
theorem dX3_lastLeaving_63 : decode cX3_lastLeaving 63 = .ok (.goto (-51), 3) := by decide +kernel
theorem dX3_lastLeaving_66 : decode cX3_lastLeaving 66 = .ok (.iload_n 3, 1) := by decide +kernel
theorem dX3_lastLeaving_67 : decode cX3_lastLeaving 67 = .ok (.ireturn, 1) := by decide +kernel
theorem dX3_leastTicks_0 : decode cX3_leastTicks 0 = .ok (.iconst (-1), 1) := by decide +kernel
theorem dX3_leastTicks_1 : decode cX3_leastTicks 1 = .ok (.istore_n 3, 1) := by decide +kernel
theorem dX3_leastTicks_2 : decode cX3_leastTicks 2 = .ok (.aload_n 0, 1) := by decide +kernel
theorem dX3_leastTicks_3 : decode cX3_leastTicks 3 = .ok (.getfield 38, 3) := by decide +kernel
theorem dX3_leastTicks_6 : decode cX3_leastTicks 6 = .ok (.iload_n 1, 1) := by decide +kernel
theorem dX3_leastTicks_7 : decode cX3_leastTicks 7 = .ok (.invokevirtual 67, 3) := by decide +kernel
theorem dX3_leastTicks_10 : decode cX3_leastTicks 10 = .ok (.istore 4, 2) := by decide +kernel
theorem dX3_leastTicks_12 : decode cX3_leastTicks 12 = .ok (.iload 4, 2) := by decide +kernel
theorem dX3_leastTicks_14 : decode cX3_leastTicks 14 = .ok (.aload_n 0, 1) := by decide +kernel
theorem dX3_leastTicks_15 : decode cX3_leastTicks 15 = .ok (.getfield 38, 3) := by decide +kernel
theorem dX3_leastTicks_18 : decode cX3_leastTicks 18 = .ok (.getfield 86, 3) := by decide +kernel
theorem dX3_leastTicks_21 : decode cX3_leastTicks 21 = .ok (.iload_n 1, 1) := by decide +kernel
theorem dX3_leastTicks_22 : decode cX3_leastTicks 22 = .ok (.iaload, 1) := by decide +kernel
theorem dX3_leastTicks_23 : decode cX3_leastTicks 23 = .ok (.if_icmp .ge 65, 3) := by decide +kernel
theorem dX3_leastTicks_26 : decode cX3_leastTicks 26 = .ok (.aload_n 0, 1) := by decide +kernel
theorem dX3_leastTicks_27 : decode cX3_leastTicks 27 = .ok (.getfield 38, 3) := by decide +kernel
theorem dX3_leastTicks_30 : decode cX3_leastTicks 30 = .ok (.getfield 92, 3) := by decide +kernel
theorem dX3_leastTicks_33 : decode cX3_leastTicks 33 = .ok (.iload 4, 2) := by decide +kernel
theorem dX3_leastTicks_35 : decode cX3_leastTicks 35 = .ok (.iaload, 1) := by decide +kernel
theorem dX3_leastTicks_36 : decode cX3_leastTicks 36 = .ok (.istore 5, 2) := by decide +kernel
theorem dX3_leastTicks_38 : decode cX3_leastTicks 38 = .ok (.aload_n 0, 1) := by decide +kernel
theorem dX3_leastTicks_39 : decode cX3_leastTicks 39 = .ok (.getfield 38, 3) := by decide +kernel
theorem dX3_leastTicks_42 : decode cX3_leastTicks 42 = .ok (.getfield 89, 3) := by decide +kernel
theorem dX3_leastTicks_45 : decode cX3_leastTicks 45 = .ok (.iload 5, 2) := by decide +kernel
theorem dX3_leastTicks_47 : decode cX3_leastTicks 47 = .ok (.iaload, 1) := by decide +kernel
theorem dX3_leastTicks_48 : decode cX3_leastTicks 48 = .ok (.aload_n 0, 1) := by decide +kernel
theorem dX3_leastTicks_49 : decode cX3_leastTicks 49 = .ok (.getfield 9, 3) := by decide +kernel
theorem dX3_leastTicks_52 : decode cX3_leastTicks 52 = .ok (.iload 5, 2) := by decide +kernel
theorem dX3_leastTicks_54 : decode cX3_leastTicks 54 = .ok (.iaload, 1) := by decide +kernel
theorem dX3_leastTicks_55 : decode cX3_leastTicks 55 = .ok (.isub, 1) := by decide +kernel
theorem dX3_leastTicks_56 : decode cX3_leastTicks 56 = .ok (.istore 6, 2) := by decide +kernel
theorem dX3_leastTicks_58 : decode cX3_leastTicks 58 = .ok (.aload_n 0, 1) := by decide +kernel
theorem dX3_leastTicks_59 : decode cX3_leastTicks 59 = .ok (.iload 5, 2) := by decide +kernel
theorem dX3_leastTicks_61 : decode cX3_leastTicks 61 = .ok (.iload_n 2, 1) := by decide +kernel
theorem dX3_leastTicks_62 : decode cX3_leastTicks 62 = .ok (.invokevirtual 105, 3) := by decide +kernel
theorem dX3_leastTicks_65 : decode cX3_leastTicks 65 = .ok (.ifCond .eq 17, 3) := by decide +kernel
theorem dX3_leastTicks_68 : decode cX3_leastTicks 68 = .ok (.iload_n 3, 1) := by decide +kernel
theorem dX3_leastTicks_69 : decode cX3_leastTicks 69 = .ok (.iconst (-1), 1) := by decide +kernel
theorem dX3_leastTicks_70 : decode cX3_leastTicks 70 = .ok (.if_icmp .eq 9, 3) := by decide +kernel
theorem dX3_leastTicks_73 : decode cX3_leastTicks 73 = .ok (.iload 6, 2) := by decide +kernel
theorem dX3_leastTicks_75 : decode cX3_leastTicks 75 = .ok (.iload_n 3, 1) := by decide +kernel
theorem dX3_leastTicks_76 : decode cX3_leastTicks 76 = .ok (.if_icmp .ge 6, 3) := by decide +kernel
theorem dX3_leastTicks_79 : decode cX3_leastTicks 79 = .ok (.iload 6, 2) := by decide +kernel
theorem dX3_leastTicks_81 : decode cX3_leastTicks 81 = .ok (.istore_n 3, 1) := by decide +kernel
theorem dX3_leastTicks_82 : decode cX3_leastTicks 82 = .ok (.iinc 4 1, 3) := by decide +kernel
theorem dX3_leastTicks_85 : decode cX3_leastTicks 85 = .ok (.goto (-73), 3) := by decide +kernel
theorem dX3_leastTicks_88 : decode cX3_leastTicks 88 = .ok (.iload_n 3, 1) := by decide +kernel
theorem dX3_leastTicks_89 : decode cX3_leastTicks 89 = .ok (.ireturn, 1) := by decide +kernel
theorem dX3_leastRuns_0 : decode cX3_leastRuns 0 = .ok (.iconst (-1), 1) := by decide +kernel
theorem dX3_leastRuns_1 : decode cX3_leastRuns 1 = .ok (.istore_n 3, 1) := by decide +kernel
theorem dX3_leastRuns_2 : decode cX3_leastRuns 2 = .ok (.aload_n 0, 1) := by decide +kernel
theorem dX3_leastRuns_3 : decode cX3_leastRuns 3 = .ok (.getfield 38, 3) := by decide +kernel
theorem dX3_leastRuns_6 : decode cX3_leastRuns 6 = .ok (.iload_n 1, 1) := by decide +kernel
theorem dX3_leastRuns_7 : decode cX3_leastRuns 7 = .ok (.invokevirtual 67, 3) := by decide +kernel
theorem dX3_leastRuns_10 : decode cX3_leastRuns 10 = .ok (.istore 4, 2) := by decide +kernel
theorem dX3_leastRuns_12 : decode cX3_leastRuns 12 = .ok (.iload 4, 2) := by decide +kernel
theorem dX3_leastRuns_14 : decode cX3_leastRuns 14 = .ok (.aload_n 0, 1) := by decide +kernel
theorem dX3_leastRuns_15 : decode cX3_leastRuns 15 = .ok (.getfield 38, 3) := by decide +kernel
theorem dX3_leastRuns_18 : decode cX3_leastRuns 18 = .ok (.getfield 86, 3) := by decide +kernel
theorem dX3_leastRuns_21 : decode cX3_leastRuns 21 = .ok (.iload_n 1, 1) := by decide +kernel
theorem dX3_leastRuns_22 : decode cX3_leastRuns 22 = .ok (.iaload, 1) := by decide +kernel
theorem dX3_leastRuns_23 : decode cX3_leastRuns 23 = .ok (.if_icmp .ge 55, 3) := by decide +kernel
theorem dX3_leastRuns_26 : decode cX3_leastRuns 26 = .ok (.aload_n 0, 1) := by decide +kernel
theorem dX3_leastRuns_27 : decode cX3_leastRuns 27 = .ok (.getfield 38, 3) := by decide +kernel
theorem dX3_leastRuns_30 : decode cX3_leastRuns 30 = .ok (.getfield 92, 3) := by decide +kernel
theorem dX3_leastRuns_33 : decode cX3_leastRuns 33 = .ok (.iload 4, 2) := by decide +kernel
theorem dX3_leastRuns_35 : decode cX3_leastRuns 35 = .ok (.iaload, 1) := by decide +kernel
theorem dX3_leastRuns_36 : decode cX3_leastRuns 36 = .ok (.istore 5, 2) := by decide +kernel
theorem dX3_leastRuns_38 : decode cX3_leastRuns 38 = .ok (.aload_n 0, 1) := by decide +kernel
theorem dX3_leastRuns_39 : decode cX3_leastRuns 39 = .ok (.iload 5, 2) := by decide +kernel
theorem dX3_leastRuns_41 : decode cX3_leastRuns 41 = .ok (.iload_n 2, 1) := by decide +kernel
theorem dX3_leastRuns_42 : decode cX3_leastRuns 42 = .ok (.invokevirtual 105, 3) := by decide +kernel
theorem dX3_leastRuns_45 : decode cX3_leastRuns 45 = .ok (.ifCond .eq 27, 3) := by decide +kernel
theorem dX3_leastRuns_48 : decode cX3_leastRuns 48 = .ok (.iload_n 3, 1) := by decide +kernel
theorem dX3_leastRuns_49 : decode cX3_leastRuns 49 = .ok (.iconst (-1), 1) := by decide +kernel
theorem dX3_leastRuns_50 : decode cX3_leastRuns 50 = .ok (.if_icmp .eq 14, 3) := by decide +kernel
theorem dX3_leastRuns_53 : decode cX3_leastRuns 53 = .ok (.aload_n 0, 1) := by decide +kernel
theorem dX3_leastRuns_54 : decode cX3_leastRuns 54 = .ok (.getfield 9, 3) := by decide +kernel
theorem dX3_leastRuns_57 : decode cX3_leastRuns 57 = .ok (.iload 5, 2) := by decide +kernel
theorem dX3_leastRuns_59 : decode cX3_leastRuns 59 = .ok (.iaload, 1) := by decide +kernel
theorem dX3_leastRuns_60 : decode cX3_leastRuns 60 = .ok (.iload_n 3, 1) := by decide +kernel
theorem dX3_leastRuns_61 : decode cX3_leastRuns 61 = .ok (.if_icmp .ge 11, 3) := by decide +kernel
theorem dX3_leastRuns_64 : decode cX3_leastRuns 64 = .ok (.aload_n 0, 1) := by decide +kernel
theorem dX3_leastRuns_65 : decode cX3_leastRuns 65 = .ok (.getfield 9, 3) := by decide +kernel
theorem dX3_leastRuns_68 : decode cX3_leastRuns 68 = .ok (.iload 5, 2) := by decide +kernel
theorem dX3_leastRuns_70 : decode cX3_leastRuns 70 = .ok (.iaload, 1) := by decide +kernel
theorem dX3_leastRuns_71 : decode cX3_leastRuns 71 = .ok (.istore_n 3, 1) := by decide +kernel
theorem dX3_leastRuns_72 : decode cX3_leastRuns 72 = .ok (.iinc 4 1, 3) := by decide +kernel
theorem dX3_leastRuns_75 : decode cX3_leastRuns 75 = .ok (.goto (-63), 3) := by decide +kernel
theorem dX3_leastRuns_78 : decode cX3_leastRuns 78 = .ok (.iload_n 3, 1) := by decide +kernel
theorem dX3_leastRuns_79 : decode cX3_leastRuns 79 = .ok (.ireturn, 1) := by decide +kernel
theorem dX3_findBestPairs_0 : decode cX3_findBestPairs 0 = .ok (.iconst 0, 1) := by decide +kernel
theorem dX3_findBestPairs_1 : decode cX3_findBestPairs 1 = .ok (.istore_n 2, 1) := by decide +kernel
theorem dX3_findBestPairs_2 : decode cX3_findBestPairs 2 = .ok (.iconst (-1), 1) := by decide +kernel
theorem dX3_findBestPairs_3 : decode cX3_findBestPairs 3 = .ok (.istore_n 3, 1) := by decide +kernel
theorem dX3_findBestPairs_4 : decode cX3_findBestPairs 4 = .ok (.aload_n 0, 1) := by decide +kernel
theorem dX3_findBestPairs_5 : decode cX3_findBestPairs 5 = .ok (.getfield 38, 3) := by decide +kernel
theorem dX3_findBestPairs_8 : decode cX3_findBestPairs 8 = .ok (.iload_n 1, 1) := by decide +kernel
theorem dX3_findBestPairs_9 : decode cX3_findBestPairs 9 = .ok (.invokevirtual 67, 3) := by decide +kernel
theorem dX3_findBestPairs_12 : decode cX3_findBestPairs 12 = .ok (.istore 4, 2) := by decide +kernel
theorem dX3_findBestPairs_14 : decode cX3_findBestPairs 14 = .ok (.iload 4, 2) := by decide +kernel
theorem dX3_findBestPairs_16 : decode cX3_findBestPairs 16 = .ok (.aload_n 0, 1) := by decide +kernel
theorem dX3_findBestPairs_17 : decode cX3_findBestPairs 17 = .ok (.getfield 38, 3) := by decide +kernel
theorem dX3_findBestPairs_20 : decode cX3_findBestPairs 20 = .ok (.getfield 86, 3) := by decide +kernel
theorem dX3_findBestPairs_23 : decode cX3_findBestPairs 23 = .ok (.iload_n 1, 1) := by decide +kernel
theorem dX3_findBestPairs_24 : decode cX3_findBestPairs 24 = .ok (.iaload, 1) := by decide +kernel
theorem dX3_findBestPairs_25 : decode cX3_findBestPairs 25 = .ok (.if_icmp .ge 78, 3) := by decide +kernel
theorem dX3_findBestPairs_28 : decode cX3_findBestPairs 28 = .ok (.aload_n 0, 1) := by decide +kernel
theorem dX3_findBestPairs_29 : decode cX3_findBestPairs 29 = .ok (.getfield 38, 3) := by decide +kernel
theorem dX3_findBestPairs_32 : decode cX3_findBestPairs 32 = .ok (.getfield 92, 3) := by decide +kernel
theorem dX3_findBestPairs_35 : decode cX3_findBestPairs 35 = .ok (.iload 4, 2) := by decide +kernel
theorem dX3_findBestPairs_37 : decode cX3_findBestPairs 37 = .ok (.iaload, 1) := by decide +kernel
theorem dX3_findBestPairs_38 : decode cX3_findBestPairs 38 = .ok (.istore 5, 2) := by decide +kernel
theorem dX3_findBestPairs_40 : decode cX3_findBestPairs 40 = .ok (.aload_n 0, 1) := by decide +kernel
theorem dX3_findBestPairs_41 : decode cX3_findBestPairs 41 = .ok (.getfield 9, 3) := by decide +kernel
theorem dX3_findBestPairs_44 : decode cX3_findBestPairs 44 = .ok (.iload 5, 2) := by decide +kernel
theorem dX3_findBestPairs_46 : decode cX3_findBestPairs 46 = .ok (.iaload, 1) := by decide +kernel
theorem dX3_findBestPairs_47 : decode cX3_findBestPairs 47 = .ok (.iload_n 3, 1) := by decide +kernel
theorem dX3_findBestPairs_48 : decode cX3_findBestPairs 48 = .ok (.if_icmp .le 49, 3) := by decide +kernel
theorem dX3_findBestPairs_51 : decode cX3_findBestPairs 51 = .ok (.aload_n 0, 1) := by decide +kernel
theorem dX3_findBestPairs_52 : decode cX3_findBestPairs 52 = .ok (.getfield 9, 3) := by decide +kernel
theorem dX3_findBestPairs_55 : decode cX3_findBestPairs 55 = .ok (.iload 5, 2) := by decide +kernel
theorem dX3_findBestPairs_57 : decode cX3_findBestPairs 57 = .ok (.iaload, 1) := by decide +kernel
theorem dX3_findBestPairs_58 : decode cX3_findBestPairs 58 = .ok (.istore_n 3, 1) := by decide +kernel
theorem dX3_findBestPairs_59 : decode cX3_findBestPairs 59 = .ok (.iload_n 2, 1) := by decide +kernel
theorem dX3_findBestPairs_60 : decode cX3_findBestPairs 60 = .ok (.ifCond .le 26, 3) := by decide +kernel
theorem dX3_findBestPairs_63 : decode cX3_findBestPairs 63 = .ok (.aload_n 0, 1) := by decide +kernel
theorem dX3_findBestPairs_64 : decode cX3_findBestPairs 64 = .ok (.iload_n 2, 1) := by decide +kernel
theorem dX3_findBestPairs_65 : decode cX3_findBestPairs 65 = .ok (.iconst 1, 1) := by decide +kernel
theorem dX3_findBestPairs_66 : decode cX3_findBestPairs 66 = .ok (.isub, 1) := by decide +kernel
theorem dX3_findBestPairs_67 : decode cX3_findBestPairs 67 = .ok (.invokevirtual 113, 3) := by decide +kernel
theorem dX3_findBestPairs_70 : decode cX3_findBestPairs 70 = .ok (.aload_n 0, 1) := by decide +kernel
theorem dX3_findBestPairs_71 : decode cX3_findBestPairs 71 = .ok (.getfield 38, 3) := by decide +kernel
theorem dX3_findBestPairs_74 : decode cX3_findBestPairs 74 = .ok (.getfield 89, 3) := by decide +kernel
theorem dX3_findBestPairs_77 : decode cX3_findBestPairs 77 = .ok (.iload 5, 2) := by decide +kernel
theorem dX3_findBestPairs_79 : decode cX3_findBestPairs 79 = .ok (.iaload, 1) := by decide +kernel
theorem dX3_findBestPairs_80 : decode cX3_findBestPairs 80 = .ok (.if_icmp .ne 6, 3) := by decide +kernel
theorem dX3_findBestPairs_83 : decode cX3_findBestPairs 83 = .ok (.iinc 2 (-1), 3) := by decide +kernel
theorem dX3_findBestPairs_86 : decode cX3_findBestPairs 86 = .ok (.aload_n 0, 1) := by decide +kernel
theorem dX3_findBestPairs_87 : decode cX3_findBestPairs 87 = .ok (.getfield 27, 3) := by decide +kernel
theorem dX3_findBestPairs_90 : decode cX3_findBestPairs 90 = .ok (.iload_n 2, 1) := by decide +kernel
theorem dX3_findBestPairs_91 : decode cX3_findBestPairs 91 = .ok (.iload 5, 2) := by decide +kernel
theorem dX3_findBestPairs_93 : decode cX3_findBestPairs 93 = .ok (.iastore, 1) := by decide +kernel
theorem dX3_findBestPairs_94 : decode cX3_findBestPairs 94 = .ok (.iinc 2 1, 3) := by decide +kernel
theorem dX3_findBestPairs_97 : decode cX3_findBestPairs 97 = .ok (.iinc 4 1, 3) := by decide +kernel
theorem dX3_findBestPairs_100 : decode cX3_findBestPairs 100 = .ok (.goto (-86), 3) := by decide +kernel
theorem dX3_findBestPairs_103 : decode cX3_findBestPairs 103 = .ok (.iload_n 2, 1) := by decide +kernel
theorem dX3_findBestPairs_104 : decode cX3_findBestPairs 104 = .ok (.ireturn, 1) := by decide +kernel
theorem dX3_pairLeaving_0 : decode cX3_pairLeaving 0 = .ok (.aload_n 0, 1) := by decide +kernel
theorem dX3_pairLeaving_1 : decode cX3_pairLeaving 1 = .ok (.getfield 9, 3) := by decide +kernel
theorem dX3_pairLeaving_4 : decode cX3_pairLeaving 4 = .ok (.aload_n 0, 1) := by decide +kernel
theorem dX3_pairLeaving_5 : decode cX3_pairLeaving 5 = .ok (.getfield 27, 3) := by decide +kernel
theorem dX3_pairLeaving_8 : decode cX3_pairLeaving 8 = .ok (.iload_n 1, 1) := by decide +kernel
theorem dX3_pairLeaving_9 : decode cX3_pairLeaving 9 = .ok (.iaload, 1) := by decide +kernel
theorem dX3_pairLeaving_10 : decode cX3_pairLeaving 10 = .ok (.iaload, 1) := by decide +kernel
theorem dX3_pairLeaving_11 : decode cX3_pairLeaving 11 = .ok (.ireturn, 1) := by decide +kernel
theorem dX3_pairComing_0 : decode cX3_pairComing 0 = .ok (.aload_n 0, 1) := by decide +kernel
theorem dX3_pairComing_1 : decode cX3_pairComing 1 = .ok (.getfield 38, 3) := by decide +kernel
theorem dX3_pairComing_4 : decode cX3_pairComing 4 = .ok (.getfield 89, 3) := by decide +kernel
theorem dX3_pairComing_7 : decode cX3_pairComing 7 = .ok (.aload_n 0, 1) := by decide +kernel
theorem dX3_pairComing_8 : decode cX3_pairComing 8 = .ok (.getfield 27, 3) := by decide +kernel
theorem dX3_pairComing_11 : decode cX3_pairComing 11 = .ok (.iload_n 1, 1) := by decide +kernel
theorem dX3_pairComing_12 : decode cX3_pairComing 12 = .ok (.iaload, 1) := by decide +kernel
theorem dX3_pairComing_13 : decode cX3_pairComing 13 = .ok (.iaload, 1) := by decide +kernel
theorem dX3_pairComing_14 : decode cX3_pairComing 14 = .ok (.ireturn, 1) := by decide +kernel
theorem dX3_trace_0 : decode cX3_trace 0 = .ok (.aload_n 0, 1) := by decide +kernel
theorem dX3_trace_1 : decode cX3_trace 1 = .ok (.iload_n 1, 1) := by decide +kernel
theorem dX3_trace_2 : decode cX3_trace 2 = .ok (.invokevirtual 116, 3) := by decide +kernel
theorem dX3_trace_5 : decode cX3_trace 5 = .ok (.istore_n 3, 1) := by decide +kernel
theorem dX3_trace_6 : decode cX3_trace 6 = .ok (.iload_n 3, 1) := by decide +kernel
theorem dX3_trace_7 : decode cX3_trace 7 = .ok (.iconst (-1), 1) := by decide +kernel
theorem dX3_trace_8 : decode cX3_trace 8 = .ok (.if_icmp .ne 5, 3) := by decide +kernel
theorem dX3_trace_11 : decode cX3_trace 11 = .ok (.iconst (-1), 1) := by decide +kernel
theorem dX3_trace_12 : decode cX3_trace 12 = .ok (.ireturn, 1) := by decide +kernel
theorem dX3_trace_13 : decode cX3_trace 13 = .ok (.aload_n 0, 1) := by decide +kernel
theorem dX3_trace_14 : decode cX3_trace 14 = .ok (.getfield 9, 3) := by decide +kernel
theorem dX3_trace_17 : decode cX3_trace 17 = .ok (.iload_n 3, 1) := by decide +kernel
theorem dX3_trace_18 : decode cX3_trace 18 = .ok (.iaload, 1) := by decide +kernel
theorem dX3_trace_19 : decode cX3_trace 19 = .ok (.istore 4, 2) := by decide +kernel
theorem dX3_trace_21 : decode cX3_trace 21 = .ok (.iload 4, 2) := by decide +kernel
theorem dX3_trace_23 : decode cX3_trace 23 = .ok (.iconst 1, 1) := by decide +kernel
theorem dX3_trace_24 : decode cX3_trace 24 = .ok (.isub, 1) := by decide +kernel
theorem dX3_trace_25 : decode cX3_trace 25 = .ok (.istore 5, 2) := by decide +kernel
theorem dX3_trace_27 : decode cX3_trace 27 = .ok (.iload 5, 2) := by decide +kernel
theorem dX3_trace_29 : decode cX3_trace 29 = .ok (.ifCond .lt 51, 3) := by decide +kernel
theorem dX3_trace_32 : decode cX3_trace 32 = .ok (.iload_n 3, 1) := by decide +kernel
theorem dX3_trace_33 : decode cX3_trace 33 = .ok (.iconst (-1), 1) := by decide +kernel
theorem dX3_trace_34 : decode cX3_trace 34 = .ok (.if_icmp .eq 46, 3) := by decide +kernel
theorem dX3_trace_37 : decode cX3_trace 37 = .ok (.aload_n 2, 1) := by decide +kernel
theorem dX3_trace_38 : decode cX3_trace 38 = .ok (.iconst 2, 1) := by decide +kernel
theorem dX3_trace_39 : decode cX3_trace 39 = .ok (.iload 5, 2) := by decide +kernel
theorem dX3_trace_41 : decode cX3_trace 41 = .ok (.imul, 1) := by decide +kernel
theorem dX3_trace_42 : decode cX3_trace 42 = .ok (.aload_n 0, 1) := by decide +kernel
theorem dX3_trace_43 : decode cX3_trace 43 = .ok (.getfield 38, 3) := by decide +kernel
theorem dX3_trace_46 : decode cX3_trace 46 = .ok (.getfield 54, 3) := by decide +kernel
theorem dX3_trace_49 : decode cX3_trace 49 = .ok (.iload_n 3, 1) := by decide +kernel
theorem dX3_trace_50 : decode cX3_trace 50 = .ok (.iaload, 1) := by decide +kernel
theorem dX3_trace_51 : decode cX3_trace 51 = .ok (.iastore, 1) := by decide +kernel
theorem dX3_trace_52 : decode cX3_trace 52 = .ok (.aload_n 2, 1) := by decide +kernel
theorem dX3_trace_53 : decode cX3_trace 53 = .ok (.iconst 2, 1) := by decide +kernel
theorem dX3_trace_54 : decode cX3_trace 54 = .ok (.iload 5, 2) := by decide +kernel
theorem dX3_trace_56 : decode cX3_trace 56 = .ok (.imul, 1) := by decide +kernel
theorem dX3_trace_57 : decode cX3_trace 57 = .ok (.iconst 1, 1) := by decide +kernel
theorem dX3_trace_58 : decode cX3_trace 58 = .ok (.iadd, 1) := by decide +kernel
theorem dX3_trace_59 : decode cX3_trace 59 = .ok (.aload_n 0, 1) := by decide +kernel
theorem dX3_trace_60 : decode cX3_trace 60 = .ok (.getfield 38, 3) := by decide +kernel
theorem dX3_trace_63 : decode cX3_trace 63 = .ok (.iload_n 3, 1) := by decide +kernel
theorem dX3_trace_64 : decode cX3_trace 64 = .ok (.invokevirtual 119, 3) := by decide +kernel
theorem dX3_trace_67 : decode cX3_trace 67 = .ok (.iastore, 1) := by decide +kernel
theorem dX3_trace_68 : decode cX3_trace 68 = .ok (.aload_n 0, 1) := by decide +kernel
theorem dX3_trace_69 : decode cX3_trace 69 = .ok (.iload_n 3, 1) := by decide +kernel
theorem dX3_trace_70 : decode cX3_trace 70 = .ok (.invokevirtual 122, 3) := by decide +kernel
theorem dX3_trace_73 : decode cX3_trace 73 = .ok (.istore_n 3, 1) := by decide +kernel
theorem dX3_trace_74 : decode cX3_trace 74 = .ok (.iinc 5 (-1), 3) := by decide +kernel
theorem dX3_trace_77 : decode cX3_trace 77 = .ok (.goto (-50), 3) := by decide +kernel
theorem dX3_trace_80 : decode cX3_trace 80 = .ok (.iload 4, 2) := by decide +kernel
theorem dX3_trace_82 : decode cX3_trace 82 = .ok (.ireturn, 1) := by decide +kernel
theorem dX3_lastOfWay_0 : decode cX3_lastOfWay 0 = .ok (.aload_n 0, 1) := by decide +kernel
theorem dX3_lastOfWay_1 : decode cX3_lastOfWay 1 = .ok (.iload_n 1, 1) := by decide +kernel
theorem dX3_lastOfWay_2 : decode cX3_lastOfWay 2 = .ok (.invokevirtual 102, 3) := by decide +kernel
theorem dX3_lastOfWay_5 : decode cX3_lastOfWay 5 = .ok (.istore_n 2, 1) := by decide +kernel
theorem dX3_lastOfWay_6 : decode cX3_lastOfWay 6 = .ok (.iconst (-1), 1) := by decide +kernel
theorem dX3_lastOfWay_7 : decode cX3_lastOfWay 7 = .ok (.istore_n 3, 1) := by decide +kernel
theorem dX3_lastOfWay_8 : decode cX3_lastOfWay 8 = .ok (.aload_n 0, 1) := by decide +kernel
theorem dX3_lastOfWay_9 : decode cX3_lastOfWay 9 = .ok (.getfield 38, 3) := by decide +kernel
theorem dX3_lastOfWay_12 : decode cX3_lastOfWay 12 = .ok (.iload_n 1, 1) := by decide +kernel
theorem dX3_lastOfWay_13 : decode cX3_lastOfWay 13 = .ok (.invokevirtual 67, 3) := by decide +kernel
theorem dX3_lastOfWay_16 : decode cX3_lastOfWay 16 = .ok (.istore 4, 2) := by decide +kernel
theorem dX3_lastOfWay_18 : decode cX3_lastOfWay 18 = .ok (.iload 4, 2) := by decide +kernel
theorem dX3_lastOfWay_20 : decode cX3_lastOfWay 20 = .ok (.aload_n 0, 1) := by decide +kernel
theorem dX3_lastOfWay_21 : decode cX3_lastOfWay 21 = .ok (.getfield 38, 3) := by decide +kernel
theorem dX3_lastOfWay_24 : decode cX3_lastOfWay 24 = .ok (.getfield 86, 3) := by decide +kernel
theorem dX3_lastOfWay_27 : decode cX3_lastOfWay 27 = .ok (.iload_n 1, 1) := by decide +kernel
theorem dX3_lastOfWay_28 : decode cX3_lastOfWay 28 = .ok (.iaload, 1) := by decide +kernel
theorem dX3_lastOfWay_29 : decode cX3_lastOfWay 29 = .ok (.if_icmp .ge 49, 3) := by decide +kernel
theorem dX3_lastOfWay_32 : decode cX3_lastOfWay 32 = .ok (.aload_n 0, 1) := by decide +kernel
theorem dX3_lastOfWay_33 : decode cX3_lastOfWay 33 = .ok (.getfield 38, 3) := by decide +kernel
theorem dX3_lastOfWay_36 : decode cX3_lastOfWay 36 = .ok (.getfield 92, 3) := by decide +kernel
theorem dX3_lastOfWay_39 : decode cX3_lastOfWay 39 = .ok (.iload 4, 2) := by decide +kernel
theorem dX3_lastOfWay_41 : decode cX3_lastOfWay 41 = .ok (.iaload, 1) := by decide +kernel
theorem dX3_lastOfWay_42 : decode cX3_lastOfWay 42 = .ok (.istore 5, 2) := by decide +kernel
theorem dX3_lastOfWay_44 : decode cX3_lastOfWay 44 = .ok (.aload_n 0, 1) := by decide +kernel
theorem dX3_lastOfWay_45 : decode cX3_lastOfWay 45 = .ok (.iload 5, 2) := by decide +kernel
theorem dX3_lastOfWay_47 : decode cX3_lastOfWay 47 = .ok (.iload_n 2, 1) := by decide +kernel
theorem dX3_lastOfWay_48 : decode cX3_lastOfWay 48 = .ok (.invokevirtual 105, 3) := by decide +kernel
theorem dX3_lastOfWay_51 : decode cX3_lastOfWay 51 = .ok (.ifCond .eq 21, 3) := by decide +kernel
theorem dX3_lastOfWay_54 : decode cX3_lastOfWay 54 = .ok (.iload_n 3, 1) := by decide +kernel
theorem dX3_lastOfWay_55 : decode cX3_lastOfWay 55 = .ok (.iconst (-1), 1) := by decide +kernel
theorem dX3_lastOfWay_56 : decode cX3_lastOfWay 56 = .ok (.if_icmp .eq 13, 3) := by decide +kernel
theorem dX3_lastOfWay_59 : decode cX3_lastOfWay 59 = .ok (.aload_n 0, 1) := by decide +kernel
theorem dX3_lastOfWay_60 : decode cX3_lastOfWay 60 = .ok (.iload 5, 2) := by decide +kernel
theorem dX3_lastOfWay_62 : decode cX3_lastOfWay 62 = .ok (.iload_n 3, 1) := by decide +kernel
theorem dX3_lastOfWay_63 : decode cX3_lastOfWay 63 = .ok (.invokevirtual 125, 3) := by decide +kernel
theorem dX3_lastOfWay_66 : decode cX3_lastOfWay 66 = .ok (.ifCond .eq 6, 3) := by decide +kernel
theorem dX3_lastOfWay_69 : decode cX3_lastOfWay 69 = .ok (.iload 5, 2) := by decide +kernel
theorem dX3_lastOfWay_71 : decode cX3_lastOfWay 71 = .ok (.istore_n 3, 1) := by decide +kernel
theorem dX3_lastOfWay_72 : decode cX3_lastOfWay 72 = .ok (.iinc 4 1, 3) := by decide +kernel
theorem dX3_lastOfWay_75 : decode cX3_lastOfWay 75 = .ok (.goto (-57), 3) := by decide +kernel
theorem dX3_lastOfWay_78 : decode cX3_lastOfWay 78 = .ok (.iload_n 3, 1) := by decide +kernel
theorem dX3_lastOfWay_79 : decode cX3_lastOfWay 79 = .ok (.ireturn, 1) := by decide +kernel
theorem dX3_isLesserEnd_0 : decode cX3_isLesserEnd 0 = .ok (.aload_n 0, 1) := by decide +kernel
theorem dX3_isLesserEnd_1 : decode cX3_isLesserEnd 1 = .ok (.getfield 9, 3) := by decide +kernel
theorem dX3_isLesserEnd_4 : decode cX3_isLesserEnd 4 = .ok (.iload_n 1, 1) := by decide +kernel
theorem dX3_isLesserEnd_5 : decode cX3_isLesserEnd 5 = .ok (.iaload, 1) := by decide +kernel
theorem dX3_isLesserEnd_6 : decode cX3_isLesserEnd 6 = .ok (.aload_n 0, 1) := by decide +kernel
theorem dX3_isLesserEnd_7 : decode cX3_isLesserEnd 7 = .ok (.getfield 9, 3) := by decide +kernel
theorem dX3_isLesserEnd_10 : decode cX3_isLesserEnd 10 = .ok (.iload_n 2, 1) := by decide +kernel
theorem dX3_isLesserEnd_11 : decode cX3_isLesserEnd 11 = .ok (.iaload, 1) := by decide +kernel
theorem dX3_isLesserEnd_12 : decode cX3_isLesserEnd 12 = .ok (.if_icmp .lt 23, 3) := by decide +kernel
theorem dX3_isLesserEnd_15 : decode cX3_isLesserEnd 15 = .ok (.aload_n 0, 1) := by decide +kernel
theorem dX3_isLesserEnd_16 : decode cX3_isLesserEnd 16 = .ok (.getfield 9, 3) := by decide +kernel
theorem dX3_isLesserEnd_19 : decode cX3_isLesserEnd 19 = .ok (.iload_n 1, 1) := by decide +kernel
theorem dX3_isLesserEnd_20 : decode cX3_isLesserEnd 20 = .ok (.iaload, 1) := by decide +kernel
theorem dX3_isLesserEnd_21 : decode cX3_isLesserEnd 21 = .ok (.aload_n 0, 1) := by decide +kernel
theorem dX3_isLesserEnd_22 : decode cX3_isLesserEnd 22 = .ok (.getfield 9, 3) := by decide +kernel
theorem dX3_isLesserEnd_25 : decode cX3_isLesserEnd 25 = .ok (.iload_n 2, 1) := by decide +kernel
theorem dX3_isLesserEnd_26 : decode cX3_isLesserEnd 26 = .ok (.iaload, 1) := by decide +kernel
theorem dX3_isLesserEnd_27 : decode cX3_isLesserEnd 27 = .ok (.if_icmp .ne 12, 3) := by decide +kernel
theorem dX3_isLesserEnd_30 : decode cX3_isLesserEnd 30 = .ok (.iload_n 1, 1) := by decide +kernel
theorem dX3_isLesserEnd_31 : decode cX3_isLesserEnd 31 = .ok (.iload_n 2, 1) := by decide +kernel
theorem dX3_isLesserEnd_32 : decode cX3_isLesserEnd 32 = .ok (.if_icmp .ge 7, 3) := by decide +kernel
theorem dX3_isLesserEnd_35 : decode cX3_isLesserEnd 35 = .ok (.iconst 1, 1) := by decide +kernel
theorem dX3_isLesserEnd_36 : decode cX3_isLesserEnd 36 = .ok (.goto 4, 3) := by decide +kernel
theorem dX3_isLesserEnd_39 : decode cX3_isLesserEnd 39 = .ok (.iconst 0, 1) := by decide +kernel
theorem dX3_isLesserEnd_40 : decode cX3_isLesserEnd 40 = .ok (.ireturn, 1) := by decide +kernel
theorem dX3_oneAhead_0 : decode cX3_oneAhead 0 = .ok (.aload_n 0, 1) := by decide +kernel
theorem dX3_oneAhead_1 : decode cX3_oneAhead 1 = .ok (.getfield 38, 3) := by decide +kernel
theorem dX3_oneAhead_4 : decode cX3_oneAhead 4 = .ok (.iload_n 1, 1) := by decide +kernel
theorem dX3_oneAhead_5 : decode cX3_oneAhead 5 = .ok (.invokevirtual 57, 3) := by decide +kernel
theorem dX3_oneAhead_8 : decode cX3_oneAhead 8 = .ok (.istore_n 2, 1) := by decide +kernel
theorem dX3_oneAhead_9 : decode cX3_oneAhead 9 = .ok (.aload_n 0, 1) := by decide +kernel
theorem dX3_oneAhead_10 : decode cX3_oneAhead 10 = .ok (.getfield 34, 3) := by decide +kernel
theorem dX3_oneAhead_13 : decode cX3_oneAhead 13 = .ok (.iload_n 2, 1) := by decide +kernel
theorem dX3_oneAhead_14 : decode cX3_oneAhead 14 = .ok (.aload_n 0, 1) := by decide +kernel
theorem dX3_oneAhead_15 : decode cX3_oneAhead 15 = .ok (.getfield 38, 3) := by decide +kernel
theorem dX3_oneAhead_18 : decode cX3_oneAhead 18 = .ok (.getfield 61, 3) := by decide +kernel
theorem dX3_oneAhead_21 : decode cX3_oneAhead 21 = .ok (.iload_n 1, 1) := by decide +kernel
theorem dX3_oneAhead_22 : decode cX3_oneAhead 22 = .ok (.iaload, 1) := by decide +kernel
theorem dX3_oneAhead_23 : decode cX3_oneAhead 23 = .ok (.invokevirtual 80, 3) := by decide +kernel
theorem dX3_oneAhead_26 : decode cX3_oneAhead 26 = .ok (.istore_n 3, 1) := by decide +kernel
theorem dX3_oneAhead_27 : decode cX3_oneAhead 27 = .ok (.aload_n 0, 1) := by decide +kernel
theorem dX3_oneAhead_28 : decode cX3_oneAhead 28 = .ok (.getfield 34, 3) := by decide +kernel
theorem dX3_oneAhead_31 : decode cX3_oneAhead 31 = .ok (.iload_n 2, 1) := by decide +kernel
theorem dX3_oneAhead_32 : decode cX3_oneAhead 32 = .ok (.aload_n 0, 1) := by decide +kernel
theorem dX3_oneAhead_33 : decode cX3_oneAhead 33 = .ok (.getfield 38, 3) := by decide +kernel
theorem dX3_oneAhead_36 : decode cX3_oneAhead 36 = .ok (.getfield 61, 3) := by decide +kernel
theorem dX3_oneAhead_39 : decode cX3_oneAhead 39 = .ok (.iload_n 1, 1) := by decide +kernel
theorem dX3_oneAhead_40 : decode cX3_oneAhead 40 = .ok (.iaload, 1) := by decide +kernel
theorem dX3_oneAhead_41 : decode cX3_oneAhead 41 = .ok (.invokevirtual 70, 3) := by decide +kernel
theorem dX3_oneAhead_44 : decode cX3_oneAhead 44 = .ok (.istore 4, 2) := by decide +kernel
theorem dX3_oneAhead_46 : decode cX3_oneAhead 46 = .ok (.iconst (-1), 1) := by decide +kernel
theorem dX3_oneAhead_47 : decode cX3_oneAhead 47 = .ok (.istore 5, 2) := by decide +kernel
theorem dX3_oneAhead_49 : decode cX3_oneAhead 49 = .ok (.aload_n 0, 1) := by decide +kernel
theorem dX3_oneAhead_50 : decode cX3_oneAhead 50 = .ok (.getfield 38, 3) := by decide +kernel
theorem dX3_oneAhead_53 : decode cX3_oneAhead 53 = .ok (.iload_n 2, 1) := by decide +kernel
theorem dX3_oneAhead_54 : decode cX3_oneAhead 54 = .ok (.invokevirtual 67, 3) := by decide +kernel
theorem dX3_oneAhead_57 : decode cX3_oneAhead 57 = .ok (.istore 6, 2) := by decide +kernel
theorem dX3_oneAhead_59 : decode cX3_oneAhead 59 = .ok (.iload 6, 2) := by decide +kernel
theorem dX3_oneAhead_61 : decode cX3_oneAhead 61 = .ok (.aload_n 0, 1) := by decide +kernel
theorem dX3_oneAhead_62 : decode cX3_oneAhead 62 = .ok (.getfield 38, 3) := by decide +kernel
theorem dX3_oneAhead_65 : decode cX3_oneAhead 65 = .ok (.getfield 86, 3) := by decide +kernel
theorem dX3_oneAhead_68 : decode cX3_oneAhead 68 = .ok (.iload_n 2, 1) := by decide +kernel
theorem dX3_oneAhead_69 : decode cX3_oneAhead 69 = .ok (.iaload, 1) := by decide +kernel
theorem dX3_oneAhead_70 : decode cX3_oneAhead 70 = .ok (.if_icmp .ge 87, 3) := by decide +kernel
theorem dX3_oneAhead_73 : decode cX3_oneAhead 73 = .ok (.aload_n 0, 1) := by decide +kernel
theorem dX3_oneAhead_74 : decode cX3_oneAhead 74 = .ok (.getfield 38, 3) := by decide +kernel
theorem dX3_oneAhead_77 : decode cX3_oneAhead 77 = .ok (.getfield 92, 3) := by decide +kernel
theorem dX3_oneAhead_80 : decode cX3_oneAhead 80 = .ok (.iload 6, 2) := by decide +kernel
theorem dX3_oneAhead_82 : decode cX3_oneAhead 82 = .ok (.iaload, 1) := by decide +kernel
theorem dX3_oneAhead_83 : decode cX3_oneAhead 83 = .ok (.istore 7, 2) := by decide +kernel
theorem dX3_oneAhead_85 : decode cX3_oneAhead 85 = .ok (.aload_n 0, 1) := by decide +kernel
theorem dX3_oneAhead_86 : decode cX3_oneAhead 86 = .ok (.getfield 9, 3) := by decide +kernel
theorem dX3_oneAhead_89 : decode cX3_oneAhead 89 = .ok (.iload 7, 2) := by decide +kernel
theorem dX3_oneAhead_91 : decode cX3_oneAhead 91 = .ok (.iaload, 1) := by decide +kernel
theorem dX3_oneAhead_92 : decode cX3_oneAhead 92 = .ok (.aload_n 0, 1) := by decide +kernel
theorem dX3_oneAhead_93 : decode cX3_oneAhead 93 = .ok (.getfield 9, 3) := by decide +kernel
theorem dX3_oneAhead_96 : decode cX3_oneAhead 96 = .ok (.iload_n 1, 1) := by decide +kernel
theorem dX3_oneAhead_97 : decode cX3_oneAhead 97 = .ok (.iaload, 1) := by decide +kernel
theorem dX3_oneAhead_98 : decode cX3_oneAhead 98 = .ok (.iconst 1, 1) := by decide +kernel
theorem dX3_oneAhead_99 : decode cX3_oneAhead 99 = .ok (.isub, 1) := by decide +kernel
theorem dX3_oneAhead_100 : decode cX3_oneAhead 100 = .ok (.if_icmp .ne 26, 3) := by decide +kernel
theorem dX3_oneAhead_103 : decode cX3_oneAhead 103 = .ok (.aload_n 0, 1) := by decide +kernel
theorem dX3_oneAhead_104 : decode cX3_oneAhead 104 = .ok (.getfield 38, 3) := by decide +kernel
theorem dX3_oneAhead_107 : decode cX3_oneAhead 107 = .ok (.getfield 89, 3) := by decide +kernel
theorem dX3_oneAhead_110 : decode cX3_oneAhead 110 = .ok (.iload 7, 2) := by decide +kernel
theorem dX3_oneAhead_112 : decode cX3_oneAhead 112 = .ok (.iaload, 1) := by decide +kernel
theorem dX3_oneAhead_113 : decode cX3_oneAhead 113 = .ok (.iload_n 3, 1) := by decide +kernel
theorem dX3_oneAhead_114 : decode cX3_oneAhead 114 = .ok (.iload 4, 2) := by decide +kernel
theorem dX3_oneAhead_116 : decode cX3_oneAhead 116 = .ok (.invokestatic 128, 3) := by decide +kernel
theorem dX3_oneAhead_119 : decode cX3_oneAhead 119 = .ok (.ifCond .eq 7, 3) := by decide +kernel
theorem dX3_oneAhead_122 : decode cX3_oneAhead 122 = .ok (.iconst 1, 1) := by decide +kernel
theorem dX3_oneAhead_123 : decode cX3_oneAhead 123 = .ok (.goto 4, 3) := by decide +kernel
theorem dX3_oneAhead_126 : decode cX3_oneAhead 126 = .ok (.iconst 0, 1) := by decide +kernel
theorem dX3_oneAhead_127 : decode cX3_oneAhead 127 = .ok (.istore 8, 2) := by decide +kernel
theorem dX3_oneAhead_129 : decode cX3_oneAhead 129 = .ok (.iload 8, 2) := by decide +kernel
theorem dX3_oneAhead_131 : decode cX3_oneAhead 131 = .ok (.ifCond .eq 20, 3) := by decide +kernel
theorem dX3_oneAhead_134 : decode cX3_oneAhead 134 = .ok (.iload 5, 2) := by decide +kernel
theorem dX3_oneAhead_136 : decode cX3_oneAhead 136 = .ok (.iconst (-1), 1) := by decide +kernel
theorem dX3_oneAhead_137 : decode cX3_oneAhead 137 = .ok (.if_icmp .eq 10, 3) := by decide +kernel
theorem dX3_oneAhead_140 : decode cX3_oneAhead 140 = .ok (.iload 7, 2) := by decide +kernel
theorem dX3_oneAhead_142 : decode cX3_oneAhead 142 = .ok (.iload 5, 2) := by decide +kernel
theorem dX3_oneAhead_144 : decode cX3_oneAhead 144 = .ok (.if_icmp .ge 7, 3) := by decide +kernel
theorem dX3_oneAhead_147 : decode cX3_oneAhead 147 = .ok (.iload 7, 2) := by decide +kernel
theorem dX3_oneAhead_149 : decode cX3_oneAhead 149 = .ok (.istore 5, 2) := by decide +kernel
theorem dX3_oneAhead_151 : decode cX3_oneAhead 151 = .ok (.iinc 6 1, 3) := by decide +kernel
theorem dX3_oneAhead_154 : decode cX3_oneAhead 154 = .ok (.goto (-95), 3) := by decide +kernel
theorem dX3_oneAhead_157 : decode cX3_oneAhead 157 = .ok (.iload 5, 2) := by decide +kernel
theorem dX3_oneAhead_159 : decode cX3_oneAhead 159 = .ok (.ireturn, 1) := by decide +kernel
theorem dX4_init_0 : decode cX4_init 0 = .ok (.aload_n 0, 1) := by decide +kernel
theorem dX4_init_1 : decode cX4_init 1 = .ok (.invokespecial 3, 3) := by decide +kernel
theorem dX4_init_4 : decode cX4_init 4 = .ok (.aload_n 0, 1) := by decide +kernel
theorem dX4_init_5 : decode cX4_init 5 = .ok (.sipush 1200, 3) := by decide +kernel
theorem dX4_init_8 : decode cX4_init 8 = .ok (.newarray .int, 2) := by decide +kernel
theorem dX4_init_10 : decode cX4_init 10 = .ok (.putfield 9, 3) := by decide +kernel
theorem dX4_init_13 : decode cX4_init 13 = .ok (.return_, 1) := by decide +kernel
theorem dX4_sort_0 : decode cX4_sort 0 = .ok (.iconst 1, 1) := by decide +kernel
theorem dX4_sort_1 : decode cX4_sort 1 = .ok (.istore 4, 2) := by decide +kernel
theorem dX4_sort_3 : decode cX4_sort 3 = .ok (.iload 4, 2) := by decide +kernel
theorem dX4_sort_5 : decode cX4_sort 5 = .ok (.iload_n 2, 1) := by decide +kernel
theorem dX4_sort_6 : decode cX4_sort 6 = .ok (.if_icmp .ge 89, 3) := by decide +kernel
theorem dX4_sort_9 : decode cX4_sort 9 = .ok (.iconst 0, 1) := by decide +kernel
theorem dX4_sort_10 : decode cX4_sort 10 = .ok (.istore 5, 2) := by decide +kernel
theorem dX4_sort_12 : decode cX4_sort 12 = .ok (.iload 5, 2) := by decide +kernel
theorem dX4_sort_14 : decode cX4_sort 14 = .ok (.iload_n 2, 1) := by decide +kernel
theorem dX4_sort_15 : decode cX4_sort 15 = .ok (.if_icmp .ge 45, 3) := by decide +kernel
theorem dX4_sort_18 : decode cX4_sort 18 = .ok (.iload 5, 2) := by decide +kernel
theorem dX4_sort_20 : decode cX4_sort 20 = .ok (.iload 4, 2) := by decide +kernel
theorem dX4_sort_22 : decode cX4_sort 22 = .ok (.iadd, 1) := by decide +kernel
theorem dX4_sort_23 : decode cX4_sort 23 = .ok (.iload_n 2, 1) := by decide +kernel
theorem dX4_sort_24 : decode cX4_sort 24 = .ok (.invokestatic 15, 3) := by decide +kernel
theorem dX4_sort_27 : decode cX4_sort 27 = .ok (.istore 6, 2) := by decide +kernel
theorem dX4_sort_29 : decode cX4_sort 29 = .ok (.aload_n 0, 1) := by decide +kernel
theorem dX4_sort_30 : decode cX4_sort 30 = .ok (.aload_n 1, 1) := by decide +kernel
theorem dX4_sort_31 : decode cX4_sort 31 = .ok (.aload_n 3, 1) := by decide +kernel
theorem dX4_sort_32 : decode cX4_sort 32 = .ok (.iload 5, 2) := by decide +kernel
theorem dX4_sort_34 : decode cX4_sort 34 = .ok (.iload 6, 2) := by decide +kernel
theorem dX4_sort_36 : decode cX4_sort 36 = .ok (.iload 6, 2) := by decide +kernel
theorem dX4_sort_38 : decode cX4_sort 38 = .ok (.iload 4, 2) := by decide +kernel
theorem dX4_sort_40 : decode cX4_sort 40 = .ok (.iadd, 1) := by decide +kernel
theorem dX4_sort_41 : decode cX4_sort 41 = .ok (.iload_n 2, 1) := by decide +kernel
theorem dX4_sort_42 : decode cX4_sort 42 = .ok (.invokestatic 15, 3) := by decide +kernel
theorem dX4_sort_45 : decode cX4_sort 45 = .ok (.invokevirtual 21, 3) := by decide +kernel
theorem dX4_sort_48 : decode cX4_sort 48 = .ok (.iload 5, 2) := by decide +kernel
theorem dX4_sort_50 : decode cX4_sort 50 = .ok (.iconst 2, 1) := by decide +kernel
theorem dX4_sort_51 : decode cX4_sort 51 = .ok (.iload 4, 2) := by decide +kernel
theorem dX4_sort_53 : decode cX4_sort 53 = .ok (.imul, 1) := by decide +kernel
theorem dX4_sort_54 : decode cX4_sort 54 = .ok (.iadd, 1) := by decide +kernel
theorem dX4_sort_55 : decode cX4_sort 55 = .ok (.istore 5, 2) := by decide +kernel
theorem dX4_sort_57 : decode cX4_sort 57 = .ok (.goto (-45), 3) := by decide +kernel
theorem dX4_sort_60 : decode cX4_sort 60 = .ok (.iconst 0, 1) := by decide +kernel
theorem dX4_sort_61 : decode cX4_sort 61 = .ok (.istore 5, 2) := by decide +kernel
theorem dX4_sort_63 : decode cX4_sort 63 = .ok (.iload 5, 2) := by decide +kernel
theorem dX4_sort_65 : decode cX4_sort 65 = .ok (.iload_n 2, 1) := by decide +kernel
theorem dX4_sort_66 : decode cX4_sort 66 = .ok (.if_icmp .ge 20, 3) := by decide +kernel
theorem dX4_sort_69 : decode cX4_sort 69 = .ok (.aload_n 1, 1) := by decide +kernel
theorem dX4_sort_70 : decode cX4_sort 70 = .ok (.iload 5, 2) := by decide +kernel
theorem dX4_sort_72 : decode cX4_sort 72 = .ok (.aload_n 0, 1) := by decide +kernel
theorem dX4_sort_73 : decode cX4_sort 73 = .ok (.getfield 9, 3) := by decide +kernel
theorem dX4_sort_76 : decode cX4_sort 76 = .ok (.iload 5, 2) := by decide +kernel
theorem dX4_sort_78 : decode cX4_sort 78 = .ok (.iaload, 1) := by decide +kernel
theorem dX4_sort_79 : decode cX4_sort 79 = .ok (.iastore, 1) := by decide +kernel
theorem dX4_sort_80 : decode cX4_sort 80 = .ok (.iinc 5 1, 3) := by decide +kernel
theorem dX4_sort_83 : decode cX4_sort 83 = .ok (.goto (-20), 3) := by decide +kernel
theorem dX4_sort_86 : decode cX4_sort 86 = .ok (.iload 4, 2) := by decide +kernel
theorem dX4_sort_88 : decode cX4_sort 88 = .ok (.iconst 2, 1) := by decide +kernel
theorem dX4_sort_89 : decode cX4_sort 89 = .ok (.imul, 1) := by decide +kernel
theorem dX4_sort_90 : decode cX4_sort 90 = .ok (.istore 4, 2) := by decide +kernel
theorem dX4_sort_92 : decode cX4_sort 92 = .ok (.goto (-89), 3) := by decide +kernel
theorem dX4_sort_95 : decode cX4_sort 95 = .ok (.return_, 1) := by decide +kernel
theorem dX4_merge_0 : decode cX4_merge 0 = .ok (.iload_n 3, 1) := by decide +kernel
theorem dX4_merge_1 : decode cX4_merge 1 = .ok (.istore 6, 2) := by decide +kernel
theorem dX4_merge_3 : decode cX4_merge 3 = .ok (.iload 4, 2) := by decide +kernel
theorem dX4_merge_5 : decode cX4_merge 5 = .ok (.istore 7, 2) := by decide +kernel
theorem dX4_merge_7 : decode cX4_merge 7 = .ok (.iload_n 3, 1) := by decide +kernel
theorem dX4_merge_8 : decode cX4_merge 8 = .ok (.istore 8, 2) := by decide +kernel
theorem dX4_merge_10 : decode cX4_merge 10 = .ok (.iload 8, 2) := by decide +kernel
theorem dX4_merge_12 : decode cX4_merge 12 = .ok (.iload 5, 2) := by decide +kernel
theorem dX4_merge_14 : decode cX4_merge 14 = .ok (.if_icmp .ge 81, 3) := by decide +kernel
theorem dX4_merge_17 : decode cX4_merge 17 = .ok (.iload 7, 2) := by decide +kernel
theorem dX4_merge_19 : decode cX4_merge 19 = .ok (.iload 5, 2) := by decide +kernel
theorem dX4_merge_21 : decode cX4_merge 21 = .ok (.if_icmp .ge 25, 3) := by decide +kernel
theorem dX4_merge_24 : decode cX4_merge 24 = .ok (.iload 6, 2) := by decide +kernel
theorem dX4_merge_26 : decode cX4_merge 26 = .ok (.iload 4, 2) := by decide +kernel
theorem dX4_merge_28 : decode cX4_merge 28 = .ok (.if_icmp .ge 22, 3) := by decide +kernel
theorem dX4_merge_31 : decode cX4_merge 31 = .ok (.aload_n 2, 1) := by decide +kernel
theorem dX4_merge_32 : decode cX4_merge 32 = .ok (.aload_n 1, 1) := by decide +kernel
theorem dX4_merge_33 : decode cX4_merge 33 = .ok (.iload 6, 2) := by decide +kernel
theorem dX4_merge_35 : decode cX4_merge 35 = .ok (.iaload, 1) := by decide +kernel
theorem dX4_merge_36 : decode cX4_merge 36 = .ok (.iaload, 1) := by decide +kernel
theorem dX4_merge_37 : decode cX4_merge 37 = .ok (.aload_n 2, 1) := by decide +kernel
theorem dX4_merge_38 : decode cX4_merge 38 = .ok (.aload_n 1, 1) := by decide +kernel
theorem dX4_merge_39 : decode cX4_merge 39 = .ok (.iload 7, 2) := by decide +kernel
theorem dX4_merge_41 : decode cX4_merge 41 = .ok (.iaload, 1) := by decide +kernel
theorem dX4_merge_42 : decode cX4_merge 42 = .ok (.iaload, 1) := by decide +kernel
theorem dX4_merge_43 : decode cX4_merge 43 = .ok (.if_icmp .gt 7, 3) := by decide +kernel
theorem dX4_merge_46 : decode cX4_merge 46 = .ok (.iconst 1, 1) := by decide +kernel
theorem dX4_merge_47 : decode cX4_merge 47 = .ok (.goto 4, 3) := by decide +kernel
theorem dX4_merge_50 : decode cX4_merge 50 = .ok (.iconst 0, 1) := by decide +kernel
theorem dX4_merge_51 : decode cX4_merge 51 = .ok (.istore 9, 2) := by decide +kernel
theorem dX4_merge_53 : decode cX4_merge 53 = .ok (.iload 9, 2) := by decide +kernel
theorem dX4_merge_55 : decode cX4_merge 55 = .ok (.ifCond .eq 20, 3) := by decide +kernel
theorem dX4_merge_58 : decode cX4_merge 58 = .ok (.aload_n 0, 1) := by decide +kernel
theorem dX4_merge_59 : decode cX4_merge 59 = .ok (.getfield 9, 3) := by decide +kernel
theorem dX4_merge_62 : decode cX4_merge 62 = .ok (.iload 8, 2) := by decide +kernel
theorem dX4_merge_64 : decode cX4_merge 64 = .ok (.aload_n 1, 1) := by decide +kernel
theorem dX4_merge_65 : decode cX4_merge 65 = .ok (.iload 6, 2) := by decide +kernel
theorem dX4_merge_67 : decode cX4_merge 67 = .ok (.iaload, 1) := by decide +kernel
theorem dX4_merge_68 : decode cX4_merge 68 = .ok (.iastore, 1) := by decide +kernel
theorem dX4_merge_69 : decode cX4_merge 69 = .ok (.iinc 6 1, 3) := by decide +kernel
theorem dX4_merge_72 : decode cX4_merge 72 = .ok (.goto 17, 3) := by decide +kernel
theorem dX4_merge_75 : decode cX4_merge 75 = .ok (.aload_n 0, 1) := by decide +kernel
theorem dX4_merge_76 : decode cX4_merge 76 = .ok (.getfield 9, 3) := by decide +kernel
theorem dX4_merge_79 : decode cX4_merge 79 = .ok (.iload 8, 2) := by decide +kernel
theorem dX4_merge_81 : decode cX4_merge 81 = .ok (.aload_n 1, 1) := by decide +kernel
theorem dX4_merge_82 : decode cX4_merge 82 = .ok (.iload 7, 2) := by decide +kernel
theorem dX4_merge_84 : decode cX4_merge 84 = .ok (.iaload, 1) := by decide +kernel
theorem dX4_merge_85 : decode cX4_merge 85 = .ok (.iastore, 1) := by decide +kernel
theorem dX4_merge_86 : decode cX4_merge 86 = .ok (.iinc 7 1, 3) := by decide +kernel
theorem dX4_merge_89 : decode cX4_merge 89 = .ok (.iinc 8 1, 3) := by decide +kernel
theorem dX4_merge_92 : decode cX4_merge 92 = .ok (.goto (-82), 3) := by decide +kernel
theorem dX4_merge_95 : decode cX4_merge 95 = .ok (.return_, 1) := by decide +kernel
theorem dX5_init_0 : decode cX5_init 0 = .ok (.aload_n 0, 1) := by decide +kernel
theorem dX5_init_1 : decode cX5_init 1 = .ok (.invokespecial 3, 3) := by decide +kernel
theorem dX5_init_4 : decode cX5_init 4 = .ok (.aload_n 0, 1) := by decide +kernel
theorem dX5_init_5 : decode cX5_init 5 = .ok (.new 9, 3) := by decide +kernel
theorem dX5_init_8 : decode cX5_init 8 = .ok (.dup, 1) := by decide +kernel
theorem dX5_init_9 : decode cX5_init 9 = .ok (.invokespecial 11, 3) := by decide +kernel
theorem dX5_init_12 : decode cX5_init 12 = .ok (.putfield 12, 3) := by decide +kernel
theorem dX5_init_15 : decode cX5_init 15 = .ok (.aload_n 0, 1) := by decide +kernel
theorem dX5_init_16 : decode cX5_init 16 = .ok (.bipush 100, 2) := by decide +kernel
theorem dX5_init_18 : decode cX5_init 18 = .ok (.newarray .boolean, 2) := by decide +kernel
theorem dX5_init_20 : decode cX5_init 20 = .ok (.putfield 18, 3) := by decide +kernel
theorem dX5_init_23 : decode cX5_init 23 = .ok (.aload_n 0, 1) := by decide +kernel
theorem dX5_init_24 : decode cX5_init 24 = .ok (.bipush 60, 2) := by decide +kernel
theorem dX5_init_26 : decode cX5_init 26 = .ok (.newarray .int, 2) := by decide +kernel
theorem dX5_init_28 : decode cX5_init 28 = .ok (.putfield 22, 3) := by decide +kernel
theorem dX5_init_31 : decode cX5_init 31 = .ok (.aload_n 0, 1) := by decide +kernel
theorem dX5_init_32 : decode cX5_init 32 = .ok (.sipush 1200, 3) := by decide +kernel
theorem dX5_init_35 : decode cX5_init 35 = .ok (.newarray .int, 2) := by decide +kernel
theorem dX5_init_37 : decode cX5_init 37 = .ok (.putfield 26, 3) := by decide +kernel
theorem dX5_init_40 : decode cX5_init 40 = .ok (.aload_n 0, 1) := by decide +kernel
theorem dX5_init_41 : decode cX5_init 41 = .ok (.sipush 1200, 3) := by decide +kernel
theorem dX5_init_44 : decode cX5_init 44 = .ok (.newarray .int, 2) := by decide +kernel
theorem dX5_init_46 : decode cX5_init 46 = .ok (.putfield 29, 3) := by decide +kernel
theorem dX5_init_49 : decode cX5_init 49 = .ok (.aload_n 0, 1) := by decide +kernel
theorem dX5_init_50 : decode cX5_init 50 = .ok (.sipush 1200, 3) := by decide +kernel
theorem dX5_init_53 : decode cX5_init 53 = .ok (.newarray .int, 2) := by decide +kernel
theorem dX5_init_55 : decode cX5_init 55 = .ok (.putfield 32, 3) := by decide +kernel
theorem dX5_init_58 : decode cX5_init 58 = .ok (.aload_n 0, 1) := by decide +kernel
theorem dX5_init_59 : decode cX5_init 59 = .ok (.sipush 1200, 3) := by decide +kernel
theorem dX5_init_62 : decode cX5_init 62 = .ok (.newarray .int, 2) := by decide +kernel
theorem dX5_init_64 : decode cX5_init 64 = .ok (.putfield 35, 3) := by decide +kernel
theorem dX5_init_67 : decode cX5_init 67 = .ok (.aload_n 0, 1) := by decide +kernel
theorem dX5_init_68 : decode cX5_init 68 = .ok (.sipush 1200, 3) := by decide +kernel
theorem dX5_init_71 : decode cX5_init 71 = .ok (.newarray .boolean, 2) := by decide +kernel
theorem dX5_init_73 : decode cX5_init 73 = .ok (.putfield 38, 3) := by decide +kernel
theorem dX5_init_76 : decode cX5_init 76 = .ok (.aload_n 0, 1) := by decide +kernel
theorem dX5_init_77 : decode cX5_init 77 = .ok (.sipush 1200, 3) := by decide +kernel
theorem dX5_init_80 : decode cX5_init 80 = .ok (.newarray .int, 2) := by decide +kernel
theorem dX5_init_82 : decode cX5_init 82 = .ok (.putfield 41, 3) := by decide +kernel
theorem dX5_init_85 : decode cX5_init 85 = .ok (.aload_n 0, 1) := by decide +kernel
theorem dX5_init_86 : decode cX5_init 86 = .ok (.sipush 1200, 3) := by decide +kernel
theorem dX5_init_89 : decode cX5_init 89 = .ok (.newarray .int, 2) := by decide +kernel
theorem dX5_init_91 : decode cX5_init 91 = .ok (.putfield 44, 3) := by decide +kernel
theorem dX5_init_94 : decode cX5_init 94 = .ok (.aload_n 0, 1) := by decide +kernel
theorem dX5_init_95 : decode cX5_init 95 = .ok (.sipush 1200, 3) := by decide +kernel
theorem dX5_init_98 : decode cX5_init 98 = .ok (.newarray .int, 2) := by decide +kernel
theorem dX5_init_100 : decode cX5_init 100 = .ok (.putfield 47, 3) := by decide +kernel
theorem dX5_init_103 : decode cX5_init 103 = .ok (.aload_n 0, 1) := by decide +kernel
theorem dX5_init_104 : decode cX5_init 104 = .ok (.bipush 24, 2) := by decide +kernel
theorem dX5_init_106 : decode cX5_init 106 = .ok (.newarray .int, 2) := by decide +kernel
theorem dX5_init_108 : decode cX5_init 108 = .ok (.putfield 50, 3) := by decide +kernel
theorem dX5_init_111 : decode cX5_init 111 = .ok (.aload_n 0, 1) := by decide +kernel
theorem dX5_init_112 : decode cX5_init 112 = .ok (.iconst 0, 1) := by decide +kernel
theorem dX5_init_113 : decode cX5_init 113 = .ok (.putfield 53, 3) := by decide +kernel
theorem dX5_init_116 : decode cX5_init 116 = .ok (.aload_n 0, 1) := by decide +kernel
theorem dX5_init_117 : decode cX5_init 117 = .ok (.iconst 0, 1) := by decide +kernel
theorem dX5_init_118 : decode cX5_init 118 = .ok (.putfield 57, 3) := by decide +kernel
theorem dX5_init_121 : decode cX5_init 121 = .ok (.aload_n 0, 1) := by decide +kernel
theorem dX5_init_122 : decode cX5_init 122 = .ok (.iconst 0, 1) := by decide +kernel
theorem dX5_init_123 : decode cX5_init 123 = .ok (.putfield 60, 3) := by decide +kernel
theorem dX5_init_126 : decode cX5_init 126 = .ok (.aload_n 0, 1) := by decide +kernel
theorem dX5_init_127 : decode cX5_init 127 = .ok (.iconst (-1), 1) := by decide +kernel
theorem dX5_init_128 : decode cX5_init 128 = .ok (.putfield 63, 3) := by decide +kernel
theorem dX5_init_131 : decode cX5_init 131 = .ok (.aload_n 0, 1) := by decide +kernel
theorem dX5_init_132 : decode cX5_init 132 = .ok (.aload_n 1, 1) := by decide +kernel
theorem dX5_init_133 : decode cX5_init 133 = .ok (.putfield 66, 3) := by decide +kernel
theorem dX5_init_136 : decode cX5_init 136 = .ok (.aload_n 0, 1) := by decide +kernel
theorem dX5_init_137 : decode cX5_init 137 = .ok (.aload_n 2, 1) := by decide +kernel
theorem dX5_init_138 : decode cX5_init 138 = .ok (.putfield 70, 3) := by decide +kernel
theorem dX5_init_141 : decode cX5_init 141 = .ok (.return_, 1) := by decide +kernel
theorem dX5_forget_0 : decode cX5_forget 0 = .ok (.aload_n 0, 1) := by decide +kernel
theorem dX5_forget_1 : decode cX5_forget 1 = .ok (.iconst (-1), 1) := by decide +kernel
theorem dX5_forget_2 : decode cX5_forget 2 = .ok (.putfield 63, 3) := by decide +kernel
theorem dX5_forget_5 : decode cX5_forget 5 = .ok (.return_, 1) := by decide +kernel
theorem dX5_show_0 : decode cX5_show 0 = .ok (.aload_n 0, 1) := by decide +kernel
theorem dX5_show_1 : decode cX5_show 1 = .ok (.getfield 63, 3) := by decide +kernel
theorem dX5_show_4 : decode cX5_show 4 = .ok (.iload_n 1, 1) := by decide +kernel
theorem dX5_show_5 : decode cX5_show 5 = .ok (.if_icmp .eq 21, 3) := by decide +kernel
theorem dX5_show_8 : decode cX5_show 8 = .ok (.aload_n 0, 1) := by decide +kernel
theorem dX5_show_9 : decode cX5_show 9 = .ok (.iload_n 1, 1) := by decide +kernel
theorem dX5_show_10 : decode cX5_show 10 = .ok (.invokevirtual 74, 3) := by decide +kernel
theorem dX5_show_13 : decode cX5_show 13 = .ok (.aload_n 0, 1) := by decide +kernel
theorem dX5_show_14 : decode cX5_show 14 = .ok (.invokevirtual 78, 3) := by decide +kernel
theorem dX5_show_17 : decode cX5_show 17 = .ok (.aload_n 0, 1) := by decide +kernel
theorem dX5_show_18 : decode cX5_show 18 = .ok (.invokevirtual 81, 3) := by decide +kernel
theorem dX5_show_21 : decode cX5_show 21 = .ok (.aload_n 0, 1) := by decide +kernel
theorem dX5_show_22 : decode cX5_show 22 = .ok (.iload_n 1, 1) := by decide +kernel
theorem dX5_show_23 : decode cX5_show 23 = .ok (.putfield 63, 3) := by decide +kernel
theorem dX5_show_26 : decode cX5_show 26 = .ok (.return_, 1) := by decide +kernel
theorem dX5_replay_0 : decode cX5_replay 0 = .ok (.iconst 0, 1) := by decide +kernel
theorem dX5_replay_1 : decode cX5_replay 1 = .ok (.istore_n 2, 1) := by decide +kernel
theorem dX5_replay_2 : decode cX5_replay 2 = .ok (.iload_n 2, 1) := by decide +kernel
theorem dX5_replay_3 : decode cX5_replay 3 = .ok (.aload_n 0, 1) := by decide +kernel
theorem dX5_replay_4 : decode cX5_replay 4 = .ok (.getfield 66, 3) := by decide +kernel
theorem dX5_replay_7 : decode cX5_replay 7 = .ok (.getfield 84, 3) := by decide +kernel
theorem dX5_replay_10 : decode cX5_replay 10 = .ok (.if_icmp .ge 16, 3) := by decide +kernel
theorem dX5_replay_13 : decode cX5_replay 13 = .ok (.aload_n 0, 1) := by decide +kernel
theorem dX5_replay_14 : decode cX5_replay 14 = .ok (.getfield 18, 3) := by decide +kernel
theorem dX5_replay_17 : decode cX5_replay 17 = .ok (.iload_n 2, 1) := by decide +kernel
theorem dX5_replay_18 : decode cX5_replay 18 = .ok (.iconst 0, 1) := by decide +kernel
theorem dX5_replay_19 : decode cX5_replay 19 = .ok (.bastore, 1) := by decide +kernel
theorem dX5_replay_20 : decode cX5_replay 20 = .ok (.iinc 2 1, 3) := by decide +kernel
theorem dX5_replay_23 : decode cX5_replay 23 = .ok (.goto (-21), 3) := by decide +kernel
theorem dX5_replay_26 : decode cX5_replay 26 = .ok (.iconst 0, 1) := by decide +kernel
theorem dX5_replay_27 : decode cX5_replay 27 = .ok (.istore_n 2, 1) := by decide +kernel
theorem dX5_replay_28 : decode cX5_replay 28 = .ok (.iload_n 2, 1) := by decide +kernel
theorem dX5_replay_29 : decode cX5_replay 29 = .ok (.aload_n 0, 1) := by decide +kernel
theorem dX5_replay_30 : decode cX5_replay 30 = .ok (.getfield 66, 3) := by decide +kernel
theorem dX5_replay_33 : decode cX5_replay 33 = .ok (.getfield 87, 3) := by decide +kernel
theorem dX5_replay_36 : decode cX5_replay 36 = .ok (.if_icmp .ge 16, 3) := by decide +kernel
theorem dX5_replay_39 : decode cX5_replay 39 = .ok (.aload_n 0, 1) := by decide +kernel
theorem dX5_replay_40 : decode cX5_replay 40 = .ok (.getfield 26, 3) := by decide +kernel
theorem dX5_replay_43 : decode cX5_replay 43 = .ok (.iload_n 2, 1) := by decide +kernel
theorem dX5_replay_44 : decode cX5_replay 44 = .ok (.iconst 0, 1) := by decide +kernel
theorem dX5_replay_45 : decode cX5_replay 45 = .ok (.iastore, 1) := by decide +kernel
theorem dX5_replay_46 : decode cX5_replay 46 = .ok (.iinc 2 1, 3) := by decide +kernel
theorem dX5_replay_49 : decode cX5_replay 49 = .ok (.goto (-21), 3) := by decide +kernel
theorem dX5_replay_52 : decode cX5_replay 52 = .ok (.aload_n 0, 1) := by decide +kernel
theorem dX5_replay_53 : decode cX5_replay 53 = .ok (.iconst 0, 1) := by decide +kernel
theorem dX5_replay_54 : decode cX5_replay 54 = .ok (.putfield 57, 3) := by decide +kernel
theorem dX5_replay_57 : decode cX5_replay 57 = .ok (.aload_n 0, 1) := by decide +kernel
theorem dX5_replay_58 : decode cX5_replay 58 = .ok (.iconst 0, 1) := by decide +kernel
theorem dX5_replay_59 : decode cX5_replay 59 = .ok (.putfield 53, 3) := by decide +kernel
theorem dX5_replay_62 : decode cX5_replay 62 = .ok (.iconst 0, 1) := by decide +kernel
theorem dX5_replay_63 : decode cX5_replay 63 = .ok (.istore_n 2, 1) := by decide +kernel
theorem dX5_replay_64 : decode cX5_replay 64 = .ok (.iload_n 2, 1) := by decide +kernel
theorem dX5_replay_65 : decode cX5_replay 65 = .ok (.iload_n 1, 1) := by decide +kernel
theorem dX5_replay_66 : decode cX5_replay 66 = .ok (.if_icmp .ge 14, 3) := by decide +kernel
theorem dX5_replay_69 : decode cX5_replay 69 = .ok (.aload_n 0, 1) := by decide +kernel
theorem dX5_replay_70 : decode cX5_replay 70 = .ok (.iload_n 2, 1) := by decide +kernel
theorem dX5_replay_71 : decode cX5_replay 71 = .ok (.invokevirtual 90, 3) := by decide +kernel
theorem dX5_replay_74 : decode cX5_replay 74 = .ok (.iinc 2 1, 3) := by decide +kernel
theorem dX5_replay_77 : decode cX5_replay 77 = .ok (.goto (-13), 3) := by decide +kernel
theorem dX5_replay_80 : decode cX5_replay 80 = .ok (.return_, 1) := by decide +kernel
theorem dX5_repeat_0 : decode cX5_repeat 0 = .ok (.aload_n 0, 1) := by decide +kernel
theorem dX5_repeat_1 : decode cX5_repeat 1 = .ok (.getfield 70, 3) := by decide +kernel
theorem dX5_repeat_4 : decode cX5_repeat 4 = .ok (.getfield 93, 3) := by decide +kernel
theorem dX5_repeat_7 : decode cX5_repeat 7 = .ok (.iload_n 1, 1) := by decide +kernel
theorem dX5_repeat_8 : decode cX5_repeat 8 = .ok (.iaload, 1) := by decide +kernel
theorem dX5_repeat_9 : decode cX5_repeat 9 = .ok (.istore_n 2, 1) := by decide +kernel
theorem dX5_repeat_10 : decode cX5_repeat 10 = .ok (.aload_n 0, 1) := by decide +kernel
theorem dX5_repeat_11 : decode cX5_repeat 11 = .ok (.getfield 70, 3) := by decide +kernel
theorem dX5_repeat_14 : decode cX5_repeat 14 = .ok (.getfield 98, 3) := by decide +kernel
theorem dX5_repeat_17 : decode cX5_repeat 17 = .ok (.iload_n 1, 1) := by decide +kernel
theorem dX5_repeat_18 : decode cX5_repeat 18 = .ok (.iaload, 1) := by decide +kernel
theorem dX5_repeat_19 : decode cX5_repeat 19 = .ok (.tableswitch 66 0 2 #[25, 38, 48], 25) := by decide +kernel
theorem dX5_repeat_44 : decode cX5_repeat 44 = .ok (.aload_n 0, 1) := by decide +kernel
theorem dX5_repeat_45 : decode cX5_repeat 45 = .ok (.dup, 1) := by decide +kernel
theorem dX5_repeat_46 : decode cX5_repeat 46 = .ok (.getfield 57, 3) := by decide +kernel
theorem dX5_repeat_49 : decode cX5_repeat 49 = .ok (.iconst 1, 1) := by decide +kernel
theorem dX5_repeat_50 : decode cX5_repeat 50 = .ok (.iadd, 1) := by decide +kernel
theorem dX5_repeat_51 : decode cX5_repeat 51 = .ok (.putfield 57, 3) := by decide +kernel
theorem dX5_repeat_54 : decode cX5_repeat 54 = .ok (.goto 51, 3) := by decide +kernel
theorem dX5_repeat_57 : decode cX5_repeat 57 = .ok (.aload_n 0, 1) := by decide +kernel
theorem dX5_repeat_58 : decode cX5_repeat 58 = .ok (.getfield 18, 3) := by decide +kernel
theorem dX5_repeat_61 : decode cX5_repeat 61 = .ok (.iload_n 2, 1) := by decide +kernel
theorem dX5_repeat_62 : decode cX5_repeat 62 = .ok (.iconst 1, 1) := by decide +kernel
theorem dX5_repeat_63 : decode cX5_repeat 63 = .ok (.bastore, 1) := by decide +kernel
theorem dX5_repeat_64 : decode cX5_repeat 64 = .ok (.goto 41, 3) := by decide +kernel
theorem dX5_repeat_67 : decode cX5_repeat 67 = .ok (.aload_n 0, 1) := by decide +kernel
theorem dX5_repeat_68 : decode cX5_repeat 68 = .ok (.getfield 26, 3) := by decide +kernel
theorem dX5_repeat_71 : decode cX5_repeat 71 = .ok (.iload_n 2, 1) := by decide +kernel
theorem dX5_repeat_72 : decode cX5_repeat 72 = .ok (.aload_n 0, 1) := by decide +kernel
theorem dX5_repeat_73 : decode cX5_repeat 73 = .ok (.getfield 70, 3) := by decide +kernel
theorem dX5_repeat_76 : decode cX5_repeat 76 = .ok (.getfield 101, 3) := by decide +kernel
theorem dX5_repeat_79 : decode cX5_repeat 79 = .ok (.iload_n 1, 1) := by decide +kernel
theorem dX5_repeat_80 : decode cX5_repeat 80 = .ok (.iaload, 1) := by decide +kernel
theorem dX5_repeat_81 : decode cX5_repeat 81 = .ok (.iastore, 1) := by decide +kernel
theorem dX5_repeat_82 : decode cX5_repeat 82 = .ok (.goto 23, 3) := by decide +kernel
theorem dX5_repeat_85 : decode cX5_repeat 85 = .ok (.aload_n 0, 1) := by decide +kernel
theorem dX5_repeat_86 : decode cX5_repeat 86 = .ok (.getfield 22, 3) := by decide +kernel
theorem dX5_repeat_89 : decode cX5_repeat 89 = .ok (.aload_n 0, 1) := by decide +kernel
theorem dX5_repeat_90 : decode cX5_repeat 90 = .ok (.getfield 53, 3) := by decide +kernel
theorem dX5_repeat_93 : decode cX5_repeat 93 = .ok (.iload_n 1, 1) := by decide +kernel
theorem dX5_repeat_94 : decode cX5_repeat 94 = .ok (.iastore, 1) := by decide +kernel
theorem dX5_repeat_95 : decode cX5_repeat 95 = .ok (.aload_n 0, 1) := by decide +kernel
theorem dX5_repeat_96 : decode cX5_repeat 96 = .ok (.dup, 1) := by decide +kernel
theorem dX5_repeat_97 : decode cX5_repeat 97 = .ok (.getfield 53, 3) := by decide +kernel
theorem dX5_repeat_100 : decode cX5_repeat 100 = .ok (.iconst 1, 1) := by decide +kernel
theorem dX5_repeat_101 : decode cX5_repeat 101 = .ok (.iadd, 1) := by decide +kernel
theorem dX5_repeat_102 : decode cX5_repeat 102 = .ok (.putfield 53, 3) := by decide +kernel
theorem dX5_repeat_105 : decode cX5_repeat 105 = .ok (.return_, 1) := by decide +kernel
theorem dX5_timeRuns_0 : decode cX5_timeRuns 0 = .ok (.aload_n 0, 1) := by decide +kernel
theorem dX5_timeRuns_1 : decode cX5_timeRuns 1 = .ok (.iconst 0, 1) := by decide +kernel
theorem dX5_timeRuns_2 : decode cX5_timeRuns 2 = .ok (.putfield 60, 3) := by decide +kernel
theorem dX5_timeRuns_5 : decode cX5_timeRuns 5 = .ok (.iconst 0, 1) := by decide +kernel
theorem dX5_timeRuns_6 : decode cX5_timeRuns 6 = .ok (.istore_n 1, 1) := by decide +kernel
theorem dX5_timeRuns_7 : decode cX5_timeRuns 7 = .ok (.iload_n 1, 1) := by decide +kernel
theorem dX5_timeRuns_8 : decode cX5_timeRuns 8 = .ok (.aload_n 0, 1) := by decide +kernel
theorem dX5_timeRuns_9 : decode cX5_timeRuns 9 = .ok (.getfield 57, 3) := by decide +kernel
theorem dX5_timeRuns_12 : decode cX5_timeRuns 12 = .ok (.if_icmp .ge 36, 3) := by decide +kernel
theorem dX5_timeRuns_15 : decode cX5_timeRuns 15 = .ok (.iconst 0, 1) := by decide +kernel
theorem dX5_timeRuns_16 : decode cX5_timeRuns 16 = .ok (.istore_n 2, 1) := by decide +kernel
theorem dX5_timeRuns_17 : decode cX5_timeRuns 17 = .ok (.iload_n 2, 1) := by decide +kernel
theorem dX5_timeRuns_18 : decode cX5_timeRuns 18 = .ok (.aload_n 0, 1) := by decide +kernel
theorem dX5_timeRuns_19 : decode cX5_timeRuns 19 = .ok (.getfield 66, 3) := by decide +kernel
theorem dX5_timeRuns_22 : decode cX5_timeRuns 22 = .ok (.getfield 104, 3) := by decide +kernel
theorem dX5_timeRuns_25 : decode cX5_timeRuns 25 = .ok (.iload_n 1, 1) := by decide +kernel
theorem dX5_timeRuns_26 : decode cX5_timeRuns 26 = .ok (.iaload, 1) := by decide +kernel
theorem dX5_timeRuns_27 : decode cX5_timeRuns 27 = .ok (.if_icmp .ge 15, 3) := by decide +kernel
theorem dX5_timeRuns_30 : decode cX5_timeRuns 30 = .ok (.aload_n 0, 1) := by decide +kernel
theorem dX5_timeRuns_31 : decode cX5_timeRuns 31 = .ok (.iload_n 1, 1) := by decide +kernel
theorem dX5_timeRuns_32 : decode cX5_timeRuns 32 = .ok (.iload_n 2, 1) := by decide +kernel
theorem dX5_timeRuns_33 : decode cX5_timeRuns 33 = .ok (.invokevirtual 107, 3) := by decide +kernel
theorem dX5_timeRuns_36 : decode cX5_timeRuns 36 = .ok (.iinc 2 1, 3) := by decide +kernel
theorem dX5_timeRuns_39 : decode cX5_timeRuns 39 = .ok (.goto (-22), 3) := by decide +kernel
theorem dX5_timeRuns_42 : decode cX5_timeRuns 42 = .ok (.iinc 1 1, 3) := by decide +kernel
theorem dX5_timeRuns_45 : decode cX5_timeRuns 45 = .ok (.goto (-38), 3) := by decide +kernel
theorem dX5_timeRuns_48 : decode cX5_timeRuns 48 = .ok (.return_, 1) := by decide +kernel
theorem dX5_timeRun_0 : decode cX5_timeRun 0 = .ok (.aload_n 0, 1) := by decide +kernel
theorem dX5_timeRun_1 : decode cX5_timeRun 1 = .ok (.getfield 66, 3) := by decide +kernel
theorem dX5_timeRun_4 : decode cX5_timeRun 4 = .ok (.getfield 111, 3) := by decide +kernel
theorem dX5_timeRun_7 : decode cX5_timeRun 7 = .ok (.iload_n 1, 1) := by decide +kernel
theorem dX5_timeRun_8 : decode cX5_timeRun 8 = .ok (.iaload, 1) := by decide +kernel
theorem dX5_timeRun_9 : decode cX5_timeRun 9 = .ok (.iload_n 2, 1) := by decide +kernel
theorem dX5_timeRun_10 : decode cX5_timeRun 10 = .ok (.iadd, 1) := by decide +kernel
theorem dX5_timeRun_11 : decode cX5_timeRun 11 = .ok (.istore_n 3, 1) := by decide +kernel
theorem dX5_timeRun_12 : decode cX5_timeRun 12 = .ok (.aload_n 0, 1) := by decide +kernel
theorem dX5_timeRun_13 : decode cX5_timeRun 13 = .ok (.getfield 29, 3) := by decide +kernel
theorem dX5_timeRun_16 : decode cX5_timeRun 16 = .ok (.iload_n 3, 1) := by decide +kernel
theorem dX5_timeRun_17 : decode cX5_timeRun 17 = .ok (.iload_n 1, 1) := by decide +kernel
theorem dX5_timeRun_18 : decode cX5_timeRun 18 = .ok (.iastore, 1) := by decide +kernel
theorem dX5_timeRun_19 : decode cX5_timeRun 19 = .ok (.aload_n 0, 1) := by decide +kernel
theorem dX5_timeRun_20 : decode cX5_timeRun 20 = .ok (.getfield 32, 3) := by decide +kernel
theorem dX5_timeRun_23 : decode cX5_timeRun 23 = .ok (.iload_n 3, 1) := by decide +kernel
theorem dX5_timeRun_24 : decode cX5_timeRun 24 = .ok (.aload_n 0, 1) := by decide +kernel
theorem dX5_timeRun_25 : decode cX5_timeRun 25 = .ok (.getfield 66, 3) := by decide +kernel
theorem dX5_timeRun_28 : decode cX5_timeRun 28 = .ok (.iload_n 1, 1) := by decide +kernel
theorem dX5_timeRun_29 : decode cX5_timeRun 29 = .ok (.iload_n 2, 1) := by decide +kernel
theorem dX5_timeRun_30 : decode cX5_timeRun 30 = .ok (.invokevirtual 114, 3) := by decide +kernel
theorem dX5_timeRun_33 : decode cX5_timeRun 33 = .ok (.aload_n 0, 1) := by decide +kernel
theorem dX5_timeRun_34 : decode cX5_timeRun 34 = .ok (.getfield 26, 3) := by decide +kernel
theorem dX5_timeRun_37 : decode cX5_timeRun 37 = .ok (.iload_n 3, 1) := by decide +kernel
theorem dX5_timeRun_38 : decode cX5_timeRun 38 = .ok (.iaload, 1) := by decide +kernel
theorem dX5_timeRun_39 : decode cX5_timeRun 39 = .ok (.iadd, 1) := by decide +kernel
theorem dX5_timeRun_40 : decode cX5_timeRun 40 = .ok (.iastore, 1) := by decide +kernel
theorem dX5_timeRun_41 : decode cX5_timeRun 41 = .ok (.aload_n 0, 1) := by decide +kernel
theorem dX5_timeRun_42 : decode cX5_timeRun 42 = .ok (.getfield 35, 3) := by decide +kernel
theorem dX5_timeRun_45 : decode cX5_timeRun 45 = .ok (.iload_n 3, 1) := by decide +kernel
theorem dX5_timeRun_46 : decode cX5_timeRun 46 = .ok (.aload_n 0, 1) := by decide +kernel
theorem dX5_timeRun_47 : decode cX5_timeRun 47 = .ok (.getfield 32, 3) := by decide +kernel
theorem dX5_timeRun_50 : decode cX5_timeRun 50 = .ok (.iload_n 3, 1) := by decide +kernel
theorem dX5_timeRun_51 : decode cX5_timeRun 51 = .ok (.iaload, 1) := by decide +kernel
theorem dX5_timeRun_52 : decode cX5_timeRun 52 = .ok (.aload_n 0, 1) := by decide +kernel
theorem dX5_timeRun_53 : decode cX5_timeRun 53 = .ok (.getfield 66, 3) := by decide +kernel
theorem dX5_timeRun_56 : decode cX5_timeRun 56 = .ok (.getfield 118, 3) := by decide +kernel
theorem dX5_timeRun_59 : decode cX5_timeRun 59 = .ok (.iload_n 1, 1) := by decide +kernel
theorem dX5_timeRun_60 : decode cX5_timeRun 60 = .ok (.iaload, 1) := by decide +kernel
theorem dX5_timeRun_61 : decode cX5_timeRun 61 = .ok (.iadd, 1) := by decide +kernel
theorem dX5_timeRun_62 : decode cX5_timeRun 62 = .ok (.iastore, 1) := by decide +kernel
theorem dX5_timeRun_63 : decode cX5_timeRun 63 = .ok (.aload_n 0, 1) := by decide +kernel
theorem dX5_timeRun_64 : decode cX5_timeRun 64 = .ok (.getfield 38, 3) := by decide +kernel
theorem dX5_timeRun_67 : decode cX5_timeRun 67 = .ok (.iload_n 3, 1) := by decide +kernel
theorem dX5_timeRun_68 : decode cX5_timeRun 68 = .ok (.aload_n 0, 1) := by decide +kernel
theorem dX5_timeRun_69 : decode cX5_timeRun 69 = .ok (.getfield 18, 3) := by decide +kernel
theorem dX5_timeRun_72 : decode cX5_timeRun 72 = .ok (.iload_n 1, 1) := by decide +kernel
theorem dX5_timeRun_73 : decode cX5_timeRun 73 = .ok (.baload, 1) := by decide +kernel
theorem dX5_timeRun_74 : decode cX5_timeRun 74 = .ok (.ifCond .ne 63, 3) := by decide +kernel
theorem dX5_timeRun_77 : decode cX5_timeRun 77 = .ok (.aload_n 0, 1) := by decide +kernel
theorem dX5_timeRun_78 : decode cX5_timeRun 78 = .ok (.getfield 35, 3) := by decide +kernel
theorem dX5_timeRun_81 : decode cX5_timeRun 81 = .ok (.iload_n 3, 1) := by decide +kernel
theorem dX5_timeRun_82 : decode cX5_timeRun 82 = .ok (.iaload, 1) := by decide +kernel
theorem dX5_timeRun_83 : decode cX5_timeRun 83 = .ok (.sipush 5000, 3) := by decide +kernel
theorem dX5_timeRun_86 : decode cX5_timeRun 86 = .ok (.if_icmp .gt 51, 3) := by decide +kernel
theorem dX5_timeRun_89 : decode cX5_timeRun 89 = .ok (.aload_n 0, 1) := by decide +kernel
theorem dX5_timeRun_90 : decode cX5_timeRun 90 = .ok (.aload_n 0, 1) := by decide +kernel
theorem dX5_timeRun_91 : decode cX5_timeRun 91 = .ok (.getfield 66, 3) := by decide +kernel
theorem dX5_timeRun_94 : decode cX5_timeRun 94 = .ok (.getfield 121, 3) := by decide +kernel
theorem dX5_timeRun_97 : decode cX5_timeRun 97 = .ok (.iload_n 1, 1) := by decide +kernel
theorem dX5_timeRun_98 : decode cX5_timeRun 98 = .ok (.iaload, 1) := by decide +kernel
theorem dX5_timeRun_99 : decode cX5_timeRun 99 = .ok (.aload_n 0, 1) := by decide +kernel
theorem dX5_timeRun_100 : decode cX5_timeRun 100 = .ok (.getfield 32, 3) := by decide +kernel
theorem dX5_timeRun_103 : decode cX5_timeRun 103 = .ok (.iload_n 3, 1) := by decide +kernel
theorem dX5_timeRun_104 : decode cX5_timeRun 104 = .ok (.iaload, 1) := by decide +kernel
theorem dX5_timeRun_105 : decode cX5_timeRun 105 = .ok (.invokevirtual 124, 3) := by decide +kernel
theorem dX5_timeRun_108 : decode cX5_timeRun 108 = .ok (.ifCond .ne 29, 3) := by decide +kernel
theorem dX5_timeRun_111 : decode cX5_timeRun 111 = .ok (.aload_n 0, 1) := by decide +kernel
theorem dX5_timeRun_112 : decode cX5_timeRun 112 = .ok (.aload_n 0, 1) := by decide +kernel
theorem dX5_timeRun_113 : decode cX5_timeRun 113 = .ok (.getfield 66, 3) := by decide +kernel
theorem dX5_timeRun_116 : decode cX5_timeRun 116 = .ok (.getfield 128, 3) := by decide +kernel
theorem dX5_timeRun_119 : decode cX5_timeRun 119 = .ok (.iload_n 1, 1) := by decide +kernel
theorem dX5_timeRun_120 : decode cX5_timeRun 120 = .ok (.iaload, 1) := by decide +kernel
theorem dX5_timeRun_121 : decode cX5_timeRun 121 = .ok (.aload_n 0, 1) := by decide +kernel
theorem dX5_timeRun_122 : decode cX5_timeRun 122 = .ok (.getfield 35, 3) := by decide +kernel
theorem dX5_timeRun_125 : decode cX5_timeRun 125 = .ok (.iload_n 3, 1) := by decide +kernel
theorem dX5_timeRun_126 : decode cX5_timeRun 126 = .ok (.iaload, 1) := by decide +kernel
theorem dX5_timeRun_127 : decode cX5_timeRun 127 = .ok (.invokevirtual 124, 3) := by decide +kernel
theorem dX5_timeRun_130 : decode cX5_timeRun 130 = .ok (.ifCond .ne 7, 3) := by decide +kernel
theorem dX5_timeRun_133 : decode cX5_timeRun 133 = .ok (.iconst 1, 1) := by decide +kernel
theorem dX5_timeRun_134 : decode cX5_timeRun 134 = .ok (.goto 4, 3) := by decide +kernel
theorem dX5_timeRun_137 : decode cX5_timeRun 137 = .ok (.iconst 0, 1) := by decide +kernel
theorem dX5_timeRun_138 : decode cX5_timeRun 138 = .ok (.bastore, 1) := by decide +kernel
theorem dX5_timeRun_139 : decode cX5_timeRun 139 = .ok (.aload_n 0, 1) := by decide +kernel
theorem dX5_timeRun_140 : decode cX5_timeRun 140 = .ok (.getfield 38, 3) := by decide +kernel
theorem dX5_timeRun_143 : decode cX5_timeRun 143 = .ok (.iload_n 3, 1) := by decide +kernel
theorem dX5_timeRun_144 : decode cX5_timeRun 144 = .ok (.baload, 1) := by decide +kernel
theorem dX5_timeRun_145 : decode cX5_timeRun 145 = .ok (.ifCond .eq 59, 3) := by decide +kernel
theorem dX5_timeRun_148 : decode cX5_timeRun 148 = .ok (.aload_n 0, 1) := by decide +kernel
theorem dX5_timeRun_149 : decode cX5_timeRun 149 = .ok (.getfield 47, 3) := by decide +kernel
theorem dX5_timeRun_152 : decode cX5_timeRun 152 = .ok (.iload_n 3, 1) := by decide +kernel
theorem dX5_timeRun_153 : decode cX5_timeRun 153 = .ok (.aload_n 0, 1) := by decide +kernel
theorem dX5_timeRun_154 : decode cX5_timeRun 154 = .ok (.getfield 66, 3) := by decide +kernel
theorem dX5_timeRun_157 : decode cX5_timeRun 157 = .ok (.getfield 128, 3) := by decide +kernel
theorem dX5_timeRun_160 : decode cX5_timeRun 160 = .ok (.iload_n 1, 1) := by decide +kernel
theorem dX5_timeRun_161 : decode cX5_timeRun 161 = .ok (.iaload, 1) := by decide +kernel
theorem dX5_timeRun_162 : decode cX5_timeRun 162 = .ok (.sipush 5001, 3) := by decide +kernel
theorem dX5_timeRun_165 : decode cX5_timeRun 165 = .ok (.imul, 1) := by decide +kernel
theorem dX5_timeRun_166 : decode cX5_timeRun 166 = .ok (.aload_n 0, 1) := by decide +kernel
theorem dX5_timeRun_167 : decode cX5_timeRun 167 = .ok (.getfield 35, 3) := by decide +kernel
theorem dX5_timeRun_170 : decode cX5_timeRun 170 = .ok (.iload_n 3, 1) := by decide +kernel
theorem dX5_timeRun_171 : decode cX5_timeRun 171 = .ok (.iaload, 1) := by decide +kernel
theorem dX5_timeRun_172 : decode cX5_timeRun 172 = .ok (.iadd, 1) := by decide +kernel
theorem dX5_timeRun_173 : decode cX5_timeRun 173 = .ok (.iastore, 1) := by decide +kernel
theorem dX5_timeRun_174 : decode cX5_timeRun 174 = .ok (.aload_n 0, 1) := by decide +kernel
theorem dX5_timeRun_175 : decode cX5_timeRun 175 = .ok (.getfield 41, 3) := by decide +kernel
theorem dX5_timeRun_178 : decode cX5_timeRun 178 = .ok (.aload_n 0, 1) := by decide +kernel
theorem dX5_timeRun_179 : decode cX5_timeRun 179 = .ok (.getfield 60, 3) := by decide +kernel
theorem dX5_timeRun_182 : decode cX5_timeRun 182 = .ok (.iload_n 3, 1) := by decide +kernel
theorem dX5_timeRun_183 : decode cX5_timeRun 183 = .ok (.iastore, 1) := by decide +kernel
theorem dX5_timeRun_184 : decode cX5_timeRun 184 = .ok (.aload_n 0, 1) := by decide +kernel
theorem dX5_timeRun_185 : decode cX5_timeRun 185 = .ok (.getfield 44, 3) := by decide +kernel
theorem dX5_timeRun_188 : decode cX5_timeRun 188 = .ok (.aload_n 0, 1) := by decide +kernel
theorem dX5_timeRun_189 : decode cX5_timeRun 189 = .ok (.getfield 60, 3) := by decide +kernel
theorem dX5_timeRun_192 : decode cX5_timeRun 192 = .ok (.iload_n 3, 1) := by decide +kernel
theorem dX5_timeRun_193 : decode cX5_timeRun 193 = .ok (.iastore, 1) := by decide +kernel
theorem dX5_timeRun_194 : decode cX5_timeRun 194 = .ok (.aload_n 0, 1) := by decide +kernel
theorem dX5_timeRun_195 : decode cX5_timeRun 195 = .ok (.dup, 1) := by decide +kernel
theorem dX5_timeRun_196 : decode cX5_timeRun 196 = .ok (.getfield 60, 3) := by decide +kernel
theorem dX5_timeRun_199 : decode cX5_timeRun 199 = .ok (.iconst 1, 1) := by decide +kernel
theorem dX5_timeRun_200 : decode cX5_timeRun 200 = .ok (.iadd, 1) := by decide +kernel
theorem dX5_timeRun_201 : decode cX5_timeRun 201 = .ok (.putfield 60, 3) := by decide +kernel
theorem dX5_timeRun_204 : decode cX5_timeRun 204 = .ok (.return_, 1) := by decide +kernel
theorem dX5_isClosed_0 : decode cX5_isClosed 0 = .ok (.iconst 0, 1) := by decide +kernel
theorem dX5_isClosed_1 : decode cX5_isClosed 1 = .ok (.istore_n 3, 1) := by decide +kernel
theorem dX5_isClosed_2 : decode cX5_isClosed 2 = .ok (.iload_n 3, 1) := by decide +kernel
theorem dX5_isClosed_3 : decode cX5_isClosed 3 = .ok (.aload_n 0, 1) := by decide +kernel
theorem dX5_isClosed_4 : decode cX5_isClosed 4 = .ok (.getfield 53, 3) := by decide +kernel
theorem dX5_isClosed_7 : decode cX5_isClosed 7 = .ok (.if_icmp .ge 29, 3) := by decide +kernel
theorem dX5_isClosed_10 : decode cX5_isClosed 10 = .ok (.aload_n 0, 1) := by decide +kernel
theorem dX5_isClosed_11 : decode cX5_isClosed 11 = .ok (.getfield 70, 3) := by decide +kernel
theorem dX5_isClosed_14 : decode cX5_isClosed 14 = .ok (.aload_n 0, 1) := by decide +kernel
theorem dX5_isClosed_15 : decode cX5_isClosed 15 = .ok (.getfield 22, 3) := by decide +kernel
theorem dX5_isClosed_18 : decode cX5_isClosed 18 = .ok (.iload_n 3, 1) := by decide +kernel
theorem dX5_isClosed_19 : decode cX5_isClosed 19 = .ok (.iaload, 1) := by decide +kernel
theorem dX5_isClosed_20 : decode cX5_isClosed 20 = .ok (.iload_n 1, 1) := by decide +kernel
theorem dX5_isClosed_21 : decode cX5_isClosed 21 = .ok (.iload_n 2, 1) := by decide +kernel
theorem dX5_isClosed_22 : decode cX5_isClosed 22 = .ok (.invokevirtual 131, 3) := by decide +kernel
theorem dX5_isClosed_25 : decode cX5_isClosed 25 = .ok (.ifCond .eq 5, 3) := by decide +kernel
theorem dX5_isClosed_28 : decode cX5_isClosed 28 = .ok (.iconst 1, 1) := by decide +kernel
theorem dX5_isClosed_29 : decode cX5_isClosed 29 = .ok (.ireturn, 1) := by decide +kernel
theorem dX5_isClosed_30 : decode cX5_isClosed 30 = .ok (.iinc 3 1, 3) := by decide +kernel
theorem dX5_isClosed_33 : decode cX5_isClosed 33 = .ok (.goto (-31), 3) := by decide +kernel
theorem dX5_isClosed_36 : decode cX5_isClosed 36 = .ok (.iconst 0, 1) := by decide +kernel
theorem dX5_isClosed_37 : decode cX5_isClosed 37 = .ok (.ireturn, 1) := by decide +kernel
theorem dX5_orderRuns_0 : decode cX5_orderRuns 0 = .ok (.aload_n 0, 1) := by decide +kernel
theorem dX5_orderRuns_1 : decode cX5_orderRuns 1 = .ok (.getfield 12, 3) := by decide +kernel
theorem dX5_orderRuns_4 : decode cX5_orderRuns 4 = .ok (.aload_n 0, 1) := by decide +kernel
theorem dX5_orderRuns_5 : decode cX5_orderRuns 5 = .ok (.getfield 41, 3) := by decide +kernel
theorem dX5_orderRuns_8 : decode cX5_orderRuns 8 = .ok (.aload_n 0, 1) := by decide +kernel
theorem dX5_orderRuns_9 : decode cX5_orderRuns 9 = .ok (.getfield 60, 3) := by decide +kernel
theorem dX5_orderRuns_12 : decode cX5_orderRuns 12 = .ok (.aload_n 0, 1) := by decide +kernel
theorem dX5_orderRuns_13 : decode cX5_orderRuns 13 = .ok (.getfield 32, 3) := by decide +kernel
theorem dX5_orderRuns_16 : decode cX5_orderRuns 16 = .ok (.invokevirtual 135, 3) := by decide +kernel
theorem dX5_orderRuns_19 : decode cX5_orderRuns 19 = .ok (.aload_n 0, 1) := by decide +kernel
theorem dX5_orderRuns_20 : decode cX5_orderRuns 20 = .ok (.getfield 12, 3) := by decide +kernel
theorem dX5_orderRuns_23 : decode cX5_orderRuns 23 = .ok (.aload_n 0, 1) := by decide +kernel
theorem dX5_orderRuns_24 : decode cX5_orderRuns 24 = .ok (.getfield 44, 3) := by decide +kernel
theorem dX5_orderRuns_27 : decode cX5_orderRuns 27 = .ok (.aload_n 0, 1) := by decide +kernel
theorem dX5_orderRuns_28 : decode cX5_orderRuns 28 = .ok (.getfield 60, 3) := by decide +kernel
theorem dX5_orderRuns_31 : decode cX5_orderRuns 31 = .ok (.aload_n 0, 1) := by decide +kernel
theorem dX5_orderRuns_32 : decode cX5_orderRuns 32 = .ok (.getfield 47, 3) := by decide +kernel
theorem dX5_orderRuns_35 : decode cX5_orderRuns 35 = .ok (.invokevirtual 135, 3) := by decide +kernel
theorem dX5_orderRuns_38 : decode cX5_orderRuns 38 = .ok (.iconst 0, 1) := by decide +kernel
theorem dX5_orderRuns_39 : decode cX5_orderRuns 39 = .ok (.istore_n 1, 1) := by decide +kernel
theorem dX5_orderRuns_40 : decode cX5_orderRuns 40 = .ok (.iconst 0, 1) := by decide +kernel
theorem dX5_orderRuns_41 : decode cX5_orderRuns 41 = .ok (.istore_n 2, 1) := by decide +kernel
theorem dX5_orderRuns_42 : decode cX5_orderRuns 42 = .ok (.iload_n 2, 1) := by decide +kernel
theorem dX5_orderRuns_43 : decode cX5_orderRuns 43 = .ok (.bipush 24, 2) := by decide +kernel
theorem dX5_orderRuns_45 : decode cX5_orderRuns 45 = .ok (.if_icmp .ge 44, 3) := by decide +kernel
theorem dX5_orderRuns_48 : decode cX5_orderRuns 48 = .ok (.iload_n 1, 1) := by decide +kernel
theorem dX5_orderRuns_49 : decode cX5_orderRuns 49 = .ok (.aload_n 0, 1) := by decide +kernel
theorem dX5_orderRuns_50 : decode cX5_orderRuns 50 = .ok (.getfield 60, 3) := by decide +kernel
theorem dX5_orderRuns_53 : decode cX5_orderRuns 53 = .ok (.if_icmp .ge 23, 3) := by decide +kernel
theorem dX5_orderRuns_56 : decode cX5_orderRuns 56 = .ok (.aload_n 0, 1) := by decide +kernel
theorem dX5_orderRuns_57 : decode cX5_orderRuns 57 = .ok (.aload_n 0, 1) := by decide +kernel
theorem dX5_orderRuns_58 : decode cX5_orderRuns 58 = .ok (.getfield 44, 3) := by decide +kernel
theorem dX5_orderRuns_61 : decode cX5_orderRuns 61 = .ok (.iload_n 1, 1) := by decide +kernel
theorem dX5_orderRuns_62 : decode cX5_orderRuns 62 = .ok (.iaload, 1) := by decide +kernel
theorem dX5_orderRuns_63 : decode cX5_orderRuns 63 = .ok (.invokevirtual 139, 3) := by decide +kernel
theorem dX5_orderRuns_66 : decode cX5_orderRuns 66 = .ok (.iload_n 2, 1) := by decide +kernel
theorem dX5_orderRuns_67 : decode cX5_orderRuns 67 = .ok (.if_icmp .ne 9, 3) := by decide +kernel
theorem dX5_orderRuns_70 : decode cX5_orderRuns 70 = .ok (.iinc 1 1, 3) := by decide +kernel
theorem dX5_orderRuns_73 : decode cX5_orderRuns 73 = .ok (.goto (-25), 3) := by decide +kernel
theorem dX5_orderRuns_76 : decode cX5_orderRuns 76 = .ok (.aload_n 0, 1) := by decide +kernel
theorem dX5_orderRuns_77 : decode cX5_orderRuns 77 = .ok (.getfield 50, 3) := by decide +kernel
theorem dX5_orderRuns_80 : decode cX5_orderRuns 80 = .ok (.iload_n 2, 1) := by decide +kernel
theorem dX5_orderRuns_81 : decode cX5_orderRuns 81 = .ok (.iload_n 1, 1) := by decide +kernel
theorem dX5_orderRuns_82 : decode cX5_orderRuns 82 = .ok (.iastore, 1) := by decide +kernel
theorem dX5_orderRuns_83 : decode cX5_orderRuns 83 = .ok (.iinc 2 1, 3) := by decide +kernel
theorem dX5_orderRuns_86 : decode cX5_orderRuns 86 = .ok (.goto (-44), 3) := by decide +kernel
theorem dX5_orderRuns_89 : decode cX5_orderRuns 89 = .ok (.return_, 1) := by decide +kernel
theorem dX5_startOf_0 : decode cX5_startOf 0 = .ok (.aload_n 0, 1) := by decide +kernel
theorem dX5_startOf_1 : decode cX5_startOf 1 = .ok (.getfield 66, 3) := by decide +kernel
theorem dX5_startOf_4 : decode cX5_startOf 4 = .ok (.getfield 121, 3) := by decide +kernel
theorem dX5_startOf_7 : decode cX5_startOf 7 = .ok (.aload_n 0, 1) := by decide +kernel
theorem dX5_startOf_8 : decode cX5_startOf 8 = .ok (.getfield 29, 3) := by decide +kernel
theorem dX5_startOf_11 : decode cX5_startOf 11 = .ok (.iload_n 1, 1) := by decide +kernel
theorem dX5_startOf_12 : decode cX5_startOf 12 = .ok (.iaload, 1) := by decide +kernel
theorem dX5_startOf_13 : decode cX5_startOf 13 = .ok (.iaload, 1) := by decide +kernel
theorem dX5_startOf_14 : decode cX5_startOf 14 = .ok (.ireturn, 1) := by decide +kernel
theorem dX5_goalOf_0 : decode cX5_goalOf 0 = .ok (.aload_n 0, 1) := by decide +kernel
theorem dX5_goalOf_1 : decode cX5_goalOf 1 = .ok (.getfield 66, 3) := by decide +kernel
theorem dX5_goalOf_4 : decode cX5_goalOf 4 = .ok (.getfield 128, 3) := by decide +kernel
theorem dX5_goalOf_7 : decode cX5_goalOf 7 = .ok (.aload_n 0, 1) := by decide +kernel
theorem dX5_goalOf_8 : decode cX5_goalOf 8 = .ok (.getfield 29, 3) := by decide +kernel
theorem dX5_goalOf_11 : decode cX5_goalOf 11 = .ok (.iload_n 1, 1) := by decide +kernel
theorem dX5_goalOf_12 : decode cX5_goalOf 12 = .ok (.iaload, 1) := by decide +kernel
theorem dX5_goalOf_13 : decode cX5_goalOf 13 = .ok (.iaload, 1) := by decide +kernel
theorem dX5_goalOf_14 : decode cX5_goalOf 14 = .ok (.ireturn, 1) := by decide +kernel
theorem dX5_placeOf_0 : decode cX5_placeOf 0 = .ok (.iload_n 1, 1) := by decide +kernel
theorem dX5_placeOf_1 : decode cX5_placeOf 1 = .ok (.aload_n 0, 1) := by decide +kernel
theorem dX5_placeOf_2 : decode cX5_placeOf 2 = .ok (.getfield 66, 3) := by decide +kernel
theorem dX5_placeOf_5 : decode cX5_placeOf 5 = .ok (.getfield 111, 3) := by decide +kernel
theorem dX5_placeOf_8 : decode cX5_placeOf 8 = .ok (.aload_n 0, 1) := by decide +kernel
theorem dX5_placeOf_9 : decode cX5_placeOf 9 = .ok (.getfield 29, 3) := by decide +kernel
theorem dX5_placeOf_12 : decode cX5_placeOf 12 = .ok (.iload_n 1, 1) := by decide +kernel
theorem dX5_placeOf_13 : decode cX5_placeOf 13 = .ok (.iaload, 1) := by decide +kernel
theorem dX5_placeOf_14 : decode cX5_placeOf 14 = .ok (.iaload, 1) := by decide +kernel
theorem dX5_placeOf_15 : decode cX5_placeOf 15 = .ok (.isub, 1) := by decide +kernel
theorem dX5_placeOf_16 : decode cX5_placeOf 16 = .ok (.ireturn, 1) := by decide +kernel
theorem dX5_goalBegin_0 : decode cX5_goalBegin 0 = .ok (.iload_n 1, 1) := by decide +kernel
theorem dX5_goalBegin_1 : decode cX5_goalBegin 1 = .ok (.ifCond .ne 7, 3) := by decide +kernel
theorem dX5_goalBegin_4 : decode cX5_goalBegin 4 = .ok (.iconst 0, 1) := by decide +kernel
theorem dX5_goalBegin_5 : decode cX5_goalBegin 5 = .ok (.goto 11, 3) := by decide +kernel
theorem dX5_goalBegin_8 : decode cX5_goalBegin 8 = .ok (.aload_n 0, 1) := by decide +kernel
theorem dX5_goalBegin_9 : decode cX5_goalBegin 9 = .ok (.getfield 50, 3) := by decide +kernel
theorem dX5_goalBegin_12 : decode cX5_goalBegin 12 = .ok (.iload_n 1, 1) := by decide +kernel
theorem dX5_goalBegin_13 : decode cX5_goalBegin 13 = .ok (.iconst 1, 1) := by decide +kernel
theorem dX5_goalBegin_14 : decode cX5_goalBegin 14 = .ok (.isub, 1) := by decide +kernel
theorem dX5_goalBegin_15 : decode cX5_goalBegin 15 = .ok (.iaload, 1) := by decide +kernel
theorem dX5_goalBegin_16 : decode cX5_goalBegin 16 = .ok (.ireturn, 1) := by decide +kernel
theorem dX5_tell_0 : decode cX5_tell 0 = .ok (.iload_n 2, 1) := by decide +kernel
theorem dX5_tell_1 : decode cX5_tell 1 = .ok (.ifCond .ne 10, 3) := by decide +kernel
theorem dX5_tell_4 : decode cX5_tell 4 = .ok (.aload_n 0, 1) := by decide +kernel
theorem dX5_tell_5 : decode cX5_tell 5 = .ok (.getfield 32, 3) := by decide +kernel
theorem dX5_tell_8 : decode cX5_tell 8 = .ok (.iload_n 1, 1) := by decide +kernel
theorem dX5_tell_9 : decode cX5_tell 9 = .ok (.iaload, 1) := by decide +kernel
theorem dX5_tell_10 : decode cX5_tell 10 = .ok (.ireturn, 1) := by decide +kernel
theorem dX5_tell_11 : decode cX5_tell 11 = .ok (.iload_n 2, 1) := by decide +kernel
theorem dX5_tell_12 : decode cX5_tell 12 = .ok (.iconst 1, 1) := by decide +kernel
theorem dX5_tell_13 : decode cX5_tell 13 = .ok (.if_icmp .ne 10, 3) := by decide +kernel
theorem dX5_tell_16 : decode cX5_tell 16 = .ok (.aload_n 0, 1) := by decide +kernel
theorem dX5_tell_17 : decode cX5_tell 17 = .ok (.getfield 35, 3) := by decide +kernel
theorem dX5_tell_20 : decode cX5_tell 20 = .ok (.iload_n 1, 1) := by decide +kernel
theorem dX5_tell_21 : decode cX5_tell 21 = .ok (.iaload, 1) := by decide +kernel
theorem dX5_tell_22 : decode cX5_tell 22 = .ok (.ireturn, 1) := by decide +kernel
theorem dX5_tell_23 : decode cX5_tell 23 = .ok (.aload_n 0, 1) := by decide +kernel
theorem dX5_tell_24 : decode cX5_tell 24 = .ok (.getfield 38, 3) := by decide +kernel
theorem dX5_tell_27 : decode cX5_tell 27 = .ok (.iload_n 1, 1) := by decide +kernel
theorem dX5_tell_28 : decode cX5_tell 28 = .ok (.baload, 1) := by decide +kernel
theorem dX5_tell_29 : decode cX5_tell 29 = .ok (.ifCond .eq 7, 3) := by decide +kernel
theorem dX5_tell_32 : decode cX5_tell 32 = .ok (.iconst 1, 1) := by decide +kernel
theorem dX5_tell_33 : decode cX5_tell 33 = .ok (.goto 4, 3) := by decide +kernel
theorem dX5_tell_36 : decode cX5_tell 36 = .ok (.iconst 0, 1) := by decide +kernel
theorem dX5_tell_37 : decode cX5_tell 37 = .ok (.ireturn, 1) := by decide +kernel
theorem dX6_init_0 : decode cX6_init 0 = .ok (.aload_n 0, 1) := by decide +kernel
theorem dX6_init_1 : decode cX6_init 1 = .ok (.invokespecial 3, 3) := by decide +kernel
theorem dX6_init_4 : decode cX6_init 4 = .ok (.aload_n 0, 1) := by decide +kernel
theorem dX6_init_5 : decode cX6_init 5 = .ok (.new 9, 3) := by decide +kernel
theorem dX6_init_8 : decode cX6_init 8 = .ok (.dup, 1) := by decide +kernel
theorem dX6_init_9 : decode cX6_init 9 = .ok (.invokespecial 11, 3) := by decide +kernel
theorem dX6_init_12 : decode cX6_init 12 = .ok (.putfield 12, 3) := by decide +kernel
theorem dX6_init_15 : decode cX6_init 15 = .ok (.aload_n 0, 1) := by decide +kernel
theorem dX6_init_16 : decode cX6_init 16 = .ok (.new 16, 3) := by decide +kernel
theorem dX6_init_19 : decode cX6_init 19 = .ok (.dup, 1) := by decide +kernel
theorem dX6_init_20 : decode cX6_init 20 = .ok (.invokespecial 18, 3) := by decide +kernel
theorem dX6_init_23 : decode cX6_init 23 = .ok (.putfield 19, 3) := by decide +kernel
theorem dX6_init_26 : decode cX6_init 26 = .ok (.aload_n 0, 1) := by decide +kernel
theorem dX6_init_27 : decode cX6_init 27 = .ok (.new 23, 3) := by decide +kernel
theorem dX6_init_30 : decode cX6_init 30 = .ok (.dup, 1) := by decide +kernel
theorem dX6_init_31 : decode cX6_init 31 = .ok (.invokespecial 25, 3) := by decide +kernel
theorem dX6_init_34 : decode cX6_init 34 = .ok (.putfield 26, 3) := by decide +kernel
theorem dX6_init_37 : decode cX6_init 37 = .ok (.aload_n 0, 1) := by decide +kernel
theorem dX6_init_38 : decode cX6_init 38 = .ok (.new 30, 3) := by decide +kernel
theorem dX6_init_41 : decode cX6_init 41 = .ok (.dup, 1) := by decide +kernel
theorem dX6_init_42 : decode cX6_init 42 = .ok (.aload_n 0, 1) := by decide +kernel
theorem dX6_init_43 : decode cX6_init 43 = .ok (.getfield 19, 3) := by decide +kernel
theorem dX6_init_46 : decode cX6_init 46 = .ok (.aload_n 0, 1) := by decide +kernel
theorem dX6_init_47 : decode cX6_init 47 = .ok (.getfield 26, 3) := by decide +kernel
theorem dX6_init_50 : decode cX6_init 50 = .ok (.invokespecial 32, 3) := by decide +kernel
theorem dX6_init_53 : decode cX6_init 53 = .ok (.putfield 35, 3) := by decide +kernel
theorem dX6_init_56 : decode cX6_init 56 = .ok (.aload_n 0, 1) := by decide +kernel
theorem dX6_init_57 : decode cX6_init 57 = .ok (.new 39, 3) := by decide +kernel
theorem dX6_init_60 : decode cX6_init 60 = .ok (.dup, 1) := by decide +kernel
theorem dX6_init_61 : decode cX6_init 61 = .ok (.aload_n 0, 1) := by decide +kernel
theorem dX6_init_62 : decode cX6_init 62 = .ok (.getfield 12, 3) := by decide +kernel
theorem dX6_init_65 : decode cX6_init 65 = .ok (.aload_n 0, 1) := by decide +kernel
theorem dX6_init_66 : decode cX6_init 66 = .ok (.getfield 35, 3) := by decide +kernel
theorem dX6_init_69 : decode cX6_init 69 = .ok (.invokespecial 41, 3) := by decide +kernel
theorem dX6_init_72 : decode cX6_init 72 = .ok (.putfield 44, 3) := by decide +kernel
theorem dX6_init_75 : decode cX6_init 75 = .ok (.aload_n 0, 1) := by decide +kernel
theorem dX6_init_76 : decode cX6_init 76 = .ok (.sipush 2400, 3) := by decide +kernel
theorem dX6_init_79 : decode cX6_init 79 = .ok (.newarray .int, 2) := by decide +kernel
theorem dX6_init_81 : decode cX6_init 81 = .ok (.putfield 48, 3) := by decide +kernel
theorem dX6_init_84 : decode cX6_init 84 = .ok (.aload_n 0, 1) := by decide +kernel
theorem dX6_init_85 : decode cX6_init 85 = .ok (.sipush 2400, 3) := by decide +kernel
theorem dX6_init_88 : decode cX6_init 88 = .ok (.newarray .int, 2) := by decide +kernel
theorem dX6_init_90 : decode cX6_init 90 = .ok (.putfield 52, 3) := by decide +kernel
theorem dX6_init_93 : decode cX6_init 93 = .ok (.aload_n 0, 1) := by decide +kernel
theorem dX6_init_94 : decode cX6_init 94 = .ok (.iconst 0, 1) := by decide +kernel
theorem dX6_init_95 : decode cX6_init 95 = .ok (.putfield 55, 3) := by decide +kernel
theorem dX6_init_98 : decode cX6_init 98 = .ok (.aload_n 0, 1) := by decide +kernel
theorem dX6_init_99 : decode cX6_init 99 = .ok (.iconst 0, 1) := by decide +kernel
theorem dX6_init_100 : decode cX6_init 100 = .ok (.putfield 59, 3) := by decide +kernel
theorem dX6_init_103 : decode cX6_init 103 = .ok (.return_, 1) := by decide +kernel
theorem dX6_status_0 : decode cX6_status 0 = .ok (.aload_n 0, 1) := by decide +kernel
theorem dX6_status_1 : decode cX6_status 1 = .ok (.getfield 59, 3) := by decide +kernel
theorem dX6_status_4 : decode cX6_status 4 = .ok (.ireturn, 1) := by decide +kernel
theorem dX6_node_0 : decode cX6_node 0 = .ok (.iload_n 1, 1) := by decide +kernel
theorem dX6_node_1 : decode cX6_node 1 = .ok (.iload_n 2, 1) := by decide +kernel
theorem dX6_node_2 : decode cX6_node 2 = .ok (.invokestatic 62, 3) := by decide +kernel
theorem dX6_node_5 : decode cX6_node 5 = .ok (.ifCond .ne 9, 3) := by decide +kernel
theorem dX6_node_8 : decode cX6_node 8 = .ok (.aload_n 0, 1) := by decide +kernel
theorem dX6_node_9 : decode cX6_node 9 = .ok (.iconst 2, 1) := by decide +kernel
theorem dX6_node_10 : decode cX6_node 10 = .ok (.invokevirtual 66, 3) := by decide +kernel
theorem dX6_node_13 : decode cX6_node 13 = .ok (.ireturn, 1) := by decide +kernel
theorem dX6_node_14 : decode cX6_node 14 = .ok (.aload_n 0, 1) := by decide +kernel
theorem dX6_node_15 : decode cX6_node 15 = .ok (.getfield 12, 3) := by decide +kernel
theorem dX6_node_18 : decode cX6_node 18 = .ok (.getfield 70, 3) := by decide +kernel
theorem dX6_node_21 : decode cX6_node 21 = .ok (.bipush 24, 2) := by decide +kernel
theorem dX6_node_23 : decode cX6_node 23 = .ok (.if_icmp .lt 9, 3) := by decide +kernel
theorem dX6_node_26 : decode cX6_node 26 = .ok (.aload_n 0, 1) := by decide +kernel
theorem dX6_node_27 : decode cX6_node 27 = .ok (.iconst 3, 1) := by decide +kernel
theorem dX6_node_28 : decode cX6_node 28 = .ok (.invokevirtual 66, 3) := by decide +kernel
theorem dX6_node_31 : decode cX6_node 31 = .ok (.ireturn, 1) := by decide +kernel
theorem dX6_node_32 : decode cX6_node 32 = .ok (.aload_n 0, 1) := by decide +kernel
theorem dX6_node_33 : decode cX6_node 33 = .ok (.aload_n 0, 1) := by decide +kernel
theorem dX6_node_34 : decode cX6_node 34 = .ok (.getfield 12, 3) := by decide +kernel
theorem dX6_node_37 : decode cX6_node 37 = .ok (.iload_n 1, 1) := by decide +kernel
theorem dX6_node_38 : decode cX6_node 38 = .ok (.iload_n 2, 1) := by decide +kernel
theorem dX6_node_39 : decode cX6_node 39 = .ok (.invokevirtual 73, 3) := by decide +kernel
theorem dX6_node_42 : decode cX6_node 42 = .ok (.invokevirtual 77, 3) := by decide +kernel
theorem dX6_node_45 : decode cX6_node 45 = .ok (.ireturn, 1) := by decide +kernel
theorem dX6_waits_0 : decode cX6_waits 0 = .ok (.aload_n 0, 1) := by decide +kernel
theorem dX6_waits_1 : decode cX6_waits 1 = .ok (.iload_n 1, 1) := by decide +kernel
theorem dX6_waits_2 : decode cX6_waits 2 = .ok (.invokevirtual 80, 3) := by decide +kernel
theorem dX6_waits_5 : decode cX6_waits 5 = .ok (.ifCond .ne 9, 3) := by decide +kernel
theorem dX6_waits_8 : decode cX6_waits 8 = .ok (.aload_n 0, 1) := by decide +kernel
theorem dX6_waits_9 : decode cX6_waits 9 = .ok (.iconst 1, 1) := by decide +kernel
theorem dX6_waits_10 : decode cX6_waits 10 = .ok (.invokevirtual 84, 3) := by decide +kernel
theorem dX6_waits_13 : decode cX6_waits 13 = .ok (.ireturn, 1) := by decide +kernel
theorem dX6_waits_14 : decode cX6_waits 14 = .ok (.iload_n 2, 1) := by decide +kernel
theorem dX6_waits_15 : decode cX6_waits 15 = .ok (.iload_n 3, 1) := by decide +kernel
theorem dX6_waits_16 : decode cX6_waits 16 = .ok (.invokestatic 62, 3) := by decide +kernel
theorem dX6_waits_19 : decode cX6_waits 19 = .ok (.ifCond .ne 9, 3) := by decide +kernel
theorem dX6_waits_22 : decode cX6_waits 22 = .ok (.aload_n 0, 1) := by decide +kernel
theorem dX6_waits_23 : decode cX6_waits 23 = .ok (.iconst 2, 1) := by decide +kernel
theorem dX6_waits_24 : decode cX6_waits 24 = .ok (.invokevirtual 84, 3) := by decide +kernel
theorem dX6_waits_27 : decode cX6_waits 27 = .ok (.ireturn, 1) := by decide +kernel
theorem dX6_waits_28 : decode cX6_waits 28 = .ok (.aload_n 0, 1) := by decide +kernel
theorem dX6_waits_29 : decode cX6_waits 29 = .ok (.getfield 12, 3) := by decide +kernel
theorem dX6_waits_32 : decode cX6_waits 32 = .ok (.iload_n 1, 1) := by decide +kernel
theorem dX6_waits_33 : decode cX6_waits 33 = .ok (.iload_n 2, 1) := by decide +kernel
theorem dX6_waits_34 : decode cX6_waits 34 = .ok (.iload_n 3, 1) := by decide +kernel
theorem dX6_waits_35 : decode cX6_waits 35 = .ok (.invokevirtual 87, 3) := by decide +kernel
theorem dX6_waits_38 : decode cX6_waits 38 = .ok (.aload_n 0, 1) := by decide +kernel
theorem dX6_waits_39 : decode cX6_waits 39 = .ok (.invokevirtual 91, 3) := by decide +kernel
theorem dX6_waits_42 : decode cX6_waits 42 = .ok (.ireturn, 1) := by decide +kernel
theorem dX6_line_0 : decode cX6_line 0 = .ok (.aload_n 0, 1) := by decide +kernel
theorem dX6_line_1 : decode cX6_line 1 = .ok (.iload_n 1, 1) := by decide +kernel
theorem dX6_line_2 : decode cX6_line 2 = .ok (.iload_n 2, 1) := by decide +kernel
theorem dX6_line_3 : decode cX6_line 3 = .ok (.invokevirtual 95, 3) := by decide +kernel
theorem dX6_line_6 : decode cX6_line 6 = .ok (.ifCond .ne 9, 3) := by decide +kernel
theorem dX6_line_9 : decode cX6_line 9 = .ok (.aload_n 0, 1) := by decide +kernel
theorem dX6_line_10 : decode cX6_line 10 = .ok (.iconst 1, 1) := by decide +kernel
theorem dX6_line_11 : decode cX6_line 11 = .ok (.invokevirtual 66, 3) := by decide +kernel
theorem dX6_line_14 : decode cX6_line 14 = .ok (.ireturn, 1) := by decide +kernel
theorem dX6_line_15 : decode cX6_line 15 = .ok (.iload 4, 2) := by decide +kernel
theorem dX6_line_17 : decode cX6_line 17 = .ok (.iconst 0, 1) := by decide +kernel
theorem dX6_line_18 : decode cX6_line 18 = .ok (.sipush 5000, 3) := by decide +kernel
theorem dX6_line_21 : decode cX6_line 21 = .ok (.invokestatic 98, 3) := by decide +kernel
theorem dX6_line_24 : decode cX6_line 24 = .ok (.ifCond .eq 26, 3) := by decide +kernel
theorem dX6_line_27 : decode cX6_line 27 = .ok (.iload 5, 2) := by decide +kernel
theorem dX6_line_29 : decode cX6_line 29 = .ok (.iconst 1, 1) := by decide +kernel
theorem dX6_line_30 : decode cX6_line 30 = .ok (.sipush 500, 3) := by decide +kernel
theorem dX6_line_33 : decode cX6_line 33 = .ok (.invokestatic 98, 3) := by decide +kernel
theorem dX6_line_36 : decode cX6_line 36 = .ok (.ifCond .eq 14, 3) := by decide +kernel
theorem dX6_line_39 : decode cX6_line 39 = .ok (.iload_n 3, 1) := by decide +kernel
theorem dX6_line_40 : decode cX6_line 40 = .ok (.iload 6, 2) := by decide +kernel
theorem dX6_line_42 : decode cX6_line 42 = .ok (.iload 7, 2) := by decide +kernel
theorem dX6_line_44 : decode cX6_line 44 = .ok (.invokestatic 102, 3) := by decide +kernel
theorem dX6_line_47 : decode cX6_line 47 = .ok (.ifCond .ne 9, 3) := by decide +kernel
theorem dX6_line_50 : decode cX6_line 50 = .ok (.aload_n 0, 1) := by decide +kernel
theorem dX6_line_51 : decode cX6_line 51 = .ok (.iconst 2, 1) := by decide +kernel
theorem dX6_line_52 : decode cX6_line 52 = .ok (.invokevirtual 66, 3) := by decide +kernel
theorem dX6_line_55 : decode cX6_line 55 = .ok (.ireturn, 1) := by decide +kernel
theorem dX6_line_56 : decode cX6_line 56 = .ok (.iload_n 3, 1) := by decide +kernel
theorem dX6_line_57 : decode cX6_line 57 = .ok (.ifCond .ne 7, 3) := by decide +kernel
theorem dX6_line_60 : decode cX6_line 60 = .ok (.iconst 1, 1) := by decide +kernel
theorem dX6_line_61 : decode cX6_line 61 = .ok (.goto 5, 3) := by decide +kernel
theorem dX6_line_64 : decode cX6_line 64 = .ok (.iload 6, 2) := by decide +kernel
theorem dX6_line_66 : decode cX6_line 66 = .ok (.istore 8, 2) := by decide +kernel
theorem dX6_line_68 : decode cX6_line 68 = .ok (.aload_n 0, 1) := by decide +kernel
theorem dX6_line_69 : decode cX6_line 69 = .ok (.getfield 19, 3) := by decide +kernel
theorem dX6_line_72 : decode cX6_line 72 = .ok (.getfield 105, 3) := by decide +kernel
theorem dX6_line_75 : decode cX6_line 75 = .ok (.bipush 100, 2) := by decide +kernel
theorem dX6_line_77 : decode cX6_line 77 = .ok (.if_icmp .ge 29, 3) := by decide +kernel
theorem dX6_line_80 : decode cX6_line 80 = .ok (.aload_n 0, 1) := by decide +kernel
theorem dX6_line_81 : decode cX6_line 81 = .ok (.getfield 19, 3) := by decide +kernel
theorem dX6_line_84 : decode cX6_line 84 = .ok (.getfield 106, 3) := by decide +kernel
theorem dX6_line_87 : decode cX6_line 87 = .ok (.iload 8, 2) := by decide +kernel
theorem dX6_line_89 : decode cX6_line 89 = .ok (.iadd, 1) := by decide +kernel
theorem dX6_line_90 : decode cX6_line 90 = .ok (.sipush 1200, 3) := by decide +kernel
theorem dX6_line_93 : decode cX6_line 93 = .ok (.if_icmp .gt 13, 3) := by decide +kernel
theorem dX6_line_96 : decode cX6_line 96 = .ok (.aload_n 0, 1) := by decide +kernel
theorem dX6_line_97 : decode cX6_line 97 = .ok (.getfield 26, 3) := by decide +kernel
theorem dX6_line_100 : decode cX6_line 100 = .ok (.invokevirtual 109, 3) := by decide +kernel
theorem dX6_line_103 : decode cX6_line 103 = .ok (.ifCond .eq 9, 3) := by decide +kernel
theorem dX6_line_106 : decode cX6_line 106 = .ok (.aload_n 0, 1) := by decide +kernel
theorem dX6_line_107 : decode cX6_line 107 = .ok (.iconst 3, 1) := by decide +kernel
theorem dX6_line_108 : decode cX6_line 108 = .ok (.invokevirtual 66, 3) := by decide +kernel
theorem dX6_line_111 : decode cX6_line 111 = .ok (.ireturn, 1) := by decide +kernel
theorem dX6_line_112 : decode cX6_line 112 = .ok (.aload_n 0, 1) := by decide +kernel
theorem dX6_line_113 : decode cX6_line 113 = .ok (.getfield 19, 3) := by decide +kernel
theorem dX6_line_116 : decode cX6_line 116 = .ok (.iload_n 1, 1) := by decide +kernel
theorem dX6_line_117 : decode cX6_line 117 = .ok (.iload_n 2, 1) := by decide +kernel
theorem dX6_line_118 : decode cX6_line 118 = .ok (.iload_n 3, 1) := by decide +kernel
theorem dX6_line_119 : decode cX6_line 119 = .ok (.iload 4, 2) := by decide +kernel
theorem dX6_line_121 : decode cX6_line 121 = .ok (.iload 5, 2) := by decide +kernel
theorem dX6_line_123 : decode cX6_line 123 = .ok (.iload 8, 2) := by decide +kernel
theorem dX6_line_125 : decode cX6_line 125 = .ok (.iload_n 3, 1) := by decide +kernel
theorem dX6_line_126 : decode cX6_line 126 = .ok (.iconst 1, 1) := by decide +kernel
theorem dX6_line_127 : decode cX6_line 127 = .ok (.if_icmp .ne 8, 3) := by decide +kernel
theorem dX6_line_130 : decode cX6_line 130 = .ok (.iload 7, 2) := by decide +kernel
theorem dX6_line_132 : decode cX6_line 132 = .ok (.goto 4, 3) := by decide +kernel
theorem dX6_line_135 : decode cX6_line 135 = .ok (.iconst 0, 1) := by decide +kernel
theorem dX6_line_136 : decode cX6_line 136 = .ok (.invokevirtual 112, 3) := by decide +kernel
theorem dX6_line_139 : decode cX6_line 139 = .ok (.istore 9, 2) := by decide +kernel
theorem dX6_line_141 : decode cX6_line 141 = .ok (.aload_n 0, 1) := by decide +kernel
theorem dX6_line_142 : decode cX6_line 142 = .ok (.getfield 26, 3) := by decide +kernel
theorem dX6_line_145 : decode cX6_line 145 = .ok (.iconst 0, 1) := by decide +kernel
theorem dX6_line_146 : decode cX6_line 146 = .ok (.iload 9, 2) := by decide +kernel
theorem dX6_line_148 : decode cX6_line 148 = .ok (.iconst 0, 1) := by decide +kernel
theorem dX6_line_149 : decode cX6_line 149 = .ok (.iconst 0, 1) := by decide +kernel
theorem dX6_line_150 : decode cX6_line 150 = .ok (.invokevirtual 115, 3) := by decide +kernel
theorem dX6_line_153 : decode cX6_line 153 = .ok (.aload_n 0, 1) := by decide +kernel
theorem dX6_line_154 : decode cX6_line 154 = .ok (.iload 9, 2) := by decide +kernel
theorem dX6_line_156 : decode cX6_line 156 = .ok (.invokevirtual 77, 3) := by decide +kernel
theorem dX6_line_159 : decode cX6_line 159 = .ok (.ireturn, 1) := by decide +kernel
theorem dX6_strike_0 : decode cX6_strike 0 = .ok (.aload_n 0, 1) := by decide +kernel
theorem dX6_strike_1 : decode cX6_strike 1 = .ok (.iload_n 1, 1) := by decide +kernel
theorem dX6_strike_2 : decode cX6_strike 2 = .ok (.invokevirtual 118, 3) := by decide +kernel
theorem dX6_strike_5 : decode cX6_strike 5 = .ok (.ifCond .ne 9, 3) := by decide +kernel
theorem dX6_strike_8 : decode cX6_strike 8 = .ok (.aload_n 0, 1) := by decide +kernel
theorem dX6_strike_9 : decode cX6_strike 9 = .ok (.iconst 1, 1) := by decide +kernel
theorem dX6_strike_10 : decode cX6_strike 10 = .ok (.invokevirtual 84, 3) := by decide +kernel
theorem dX6_strike_13 : decode cX6_strike 13 = .ok (.ireturn, 1) := by decide +kernel
theorem dX6_strike_14 : decode cX6_strike 14 = .ok (.aload_n 0, 1) := by decide +kernel
theorem dX6_strike_15 : decode cX6_strike 15 = .ok (.getfield 26, 3) := by decide +kernel
theorem dX6_strike_18 : decode cX6_strike 18 = .ok (.invokevirtual 109, 3) := by decide +kernel
theorem dX6_strike_21 : decode cX6_strike 21 = .ok (.ifCond .eq 9, 3) := by decide +kernel
theorem dX6_strike_24 : decode cX6_strike 24 = .ok (.aload_n 0, 1) := by decide +kernel
theorem dX6_strike_25 : decode cX6_strike 25 = .ok (.iconst 3, 1) := by decide +kernel
theorem dX6_strike_26 : decode cX6_strike 26 = .ok (.invokevirtual 84, 3) := by decide +kernel
theorem dX6_strike_29 : decode cX6_strike 29 = .ok (.ireturn, 1) := by decide +kernel
theorem dX6_strike_30 : decode cX6_strike 30 = .ok (.aload_n 0, 1) := by decide +kernel
theorem dX6_strike_31 : decode cX6_strike 31 = .ok (.getfield 19, 3) := by decide +kernel
theorem dX6_strike_34 : decode cX6_strike 34 = .ok (.getfield 121, 3) := by decide +kernel
theorem dX6_strike_37 : decode cX6_strike 37 = .ok (.iload_n 1, 1) := by decide +kernel
theorem dX6_strike_38 : decode cX6_strike 38 = .ok (.baload, 1) := by decide +kernel
theorem dX6_strike_39 : decode cX6_strike 39 = .ok (.ifCond .eq 9, 3) := by decide +kernel
theorem dX6_strike_42 : decode cX6_strike 42 = .ok (.aload_n 0, 1) := by decide +kernel
theorem dX6_strike_43 : decode cX6_strike 43 = .ok (.iconst 4, 1) := by decide +kernel
theorem dX6_strike_44 : decode cX6_strike 44 = .ok (.invokevirtual 84, 3) := by decide +kernel
theorem dX6_strike_47 : decode cX6_strike 47 = .ok (.ireturn, 1) := by decide +kernel
theorem dX6_strike_48 : decode cX6_strike 48 = .ok (.aload_n 0, 1) := by decide +kernel
theorem dX6_strike_49 : decode cX6_strike 49 = .ok (.getfield 19, 3) := by decide +kernel
theorem dX6_strike_52 : decode cX6_strike 52 = .ok (.getfield 121, 3) := by decide +kernel
theorem dX6_strike_55 : decode cX6_strike 55 = .ok (.iload_n 1, 1) := by decide +kernel
theorem dX6_strike_56 : decode cX6_strike 56 = .ok (.iconst 1, 1) := by decide +kernel
theorem dX6_strike_57 : decode cX6_strike 57 = .ok (.bastore, 1) := by decide +kernel
theorem dX6_strike_58 : decode cX6_strike 58 = .ok (.aload_n 0, 1) := by decide +kernel
theorem dX6_strike_59 : decode cX6_strike 59 = .ok (.getfield 26, 3) := by decide +kernel
theorem dX6_strike_62 : decode cX6_strike 62 = .ok (.iconst 1, 1) := by decide +kernel
theorem dX6_strike_63 : decode cX6_strike 63 = .ok (.iload_n 1, 1) := by decide +kernel
theorem dX6_strike_64 : decode cX6_strike 64 = .ok (.iconst 0, 1) := by decide +kernel
theorem dX6_strike_65 : decode cX6_strike 65 = .ok (.iconst 0, 1) := by decide +kernel
theorem dX6_strike_66 : decode cX6_strike 66 = .ok (.invokevirtual 115, 3) := by decide +kernel
theorem dX6_strike_69 : decode cX6_strike 69 = .ok (.aload_n 0, 1) := by decide +kernel
theorem dX6_strike_70 : decode cX6_strike 70 = .ok (.invokevirtual 91, 3) := by decide +kernel
theorem dX6_strike_73 : decode cX6_strike 73 = .ok (.ireturn, 1) := by decide +kernel
theorem dX6_delay_0 : decode cX6_delay 0 = .ok (.aload_n 0, 1) := by decide +kernel
theorem dX6_delay_1 : decode cX6_delay 1 = .ok (.iload_n 1, 1) := by decide +kernel
theorem dX6_delay_2 : decode cX6_delay 2 = .ok (.invokevirtual 118, 3) := by decide +kernel
theorem dX6_delay_5 : decode cX6_delay 5 = .ok (.ifCond .eq 22, 3) := by decide +kernel
theorem dX6_delay_8 : decode cX6_delay 8 = .ok (.iload_n 2, 1) := by decide +kernel
theorem dX6_delay_9 : decode cX6_delay 9 = .ok (.iconst 0, 1) := by decide +kernel
theorem dX6_delay_10 : decode cX6_delay 10 = .ok (.aload_n 0, 1) := by decide +kernel
theorem dX6_delay_11 : decode cX6_delay 11 = .ok (.getfield 19, 3) := by decide +kernel
theorem dX6_delay_14 : decode cX6_delay 14 = .ok (.getfield 125, 3) := by decide +kernel
theorem dX6_delay_17 : decode cX6_delay 17 = .ok (.iload_n 1, 1) := by decide +kernel
theorem dX6_delay_18 : decode cX6_delay 18 = .ok (.iaload, 1) := by decide +kernel
theorem dX6_delay_19 : decode cX6_delay 19 = .ok (.iconst 1, 1) := by decide +kernel
theorem dX6_delay_20 : decode cX6_delay 20 = .ok (.isub, 1) := by decide +kernel
theorem dX6_delay_21 : decode cX6_delay 21 = .ok (.invokestatic 98, 3) := by decide +kernel
theorem dX6_delay_24 : decode cX6_delay 24 = .ok (.ifCond .ne 9, 3) := by decide +kernel
theorem dX6_delay_27 : decode cX6_delay 27 = .ok (.aload_n 0, 1) := by decide +kernel
theorem dX6_delay_28 : decode cX6_delay 28 = .ok (.iconst 1, 1) := by decide +kernel
theorem dX6_delay_29 : decode cX6_delay 29 = .ok (.invokevirtual 84, 3) := by decide +kernel
theorem dX6_delay_32 : decode cX6_delay 32 = .ok (.ireturn, 1) := by decide +kernel
theorem dX6_delay_33 : decode cX6_delay 33 = .ok (.iload_n 3, 1) := by decide +kernel
theorem dX6_delay_34 : decode cX6_delay 34 = .ok (.iconst 0, 1) := by decide +kernel
theorem dX6_delay_35 : decode cX6_delay 35 = .ok (.sipush 500, 3) := by decide +kernel
theorem dX6_delay_38 : decode cX6_delay 38 = .ok (.invokestatic 98, 3) := by decide +kernel
theorem dX6_delay_41 : decode cX6_delay 41 = .ok (.ifCond .ne 9, 3) := by decide +kernel
theorem dX6_delay_44 : decode cX6_delay 44 = .ok (.aload_n 0, 1) := by decide +kernel
theorem dX6_delay_45 : decode cX6_delay 45 = .ok (.iconst 2, 1) := by decide +kernel
theorem dX6_delay_46 : decode cX6_delay 46 = .ok (.invokevirtual 84, 3) := by decide +kernel
theorem dX6_delay_49 : decode cX6_delay 49 = .ok (.ireturn, 1) := by decide +kernel
theorem dX6_delay_50 : decode cX6_delay 50 = .ok (.aload_n 0, 1) := by decide +kernel
theorem dX6_delay_51 : decode cX6_delay 51 = .ok (.getfield 26, 3) := by decide +kernel
theorem dX6_delay_54 : decode cX6_delay 54 = .ok (.invokevirtual 109, 3) := by decide +kernel
theorem dX6_delay_57 : decode cX6_delay 57 = .ok (.ifCond .eq 9, 3) := by decide +kernel
theorem dX6_delay_60 : decode cX6_delay 60 = .ok (.aload_n 0, 1) := by decide +kernel
theorem dX6_delay_61 : decode cX6_delay 61 = .ok (.iconst 3, 1) := by decide +kernel
theorem dX6_delay_62 : decode cX6_delay 62 = .ok (.invokevirtual 84, 3) := by decide +kernel
theorem dX6_delay_65 : decode cX6_delay 65 = .ok (.ireturn, 1) := by decide +kernel
theorem dX6_delay_66 : decode cX6_delay 66 = .ok (.aload_n 0, 1) := by decide +kernel
theorem dX6_delay_67 : decode cX6_delay 67 = .ok (.getfield 19, 3) := by decide +kernel
theorem dX6_delay_70 : decode cX6_delay 70 = .ok (.getfield 121, 3) := by decide +kernel
theorem dX6_delay_73 : decode cX6_delay 73 = .ok (.iload_n 1, 1) := by decide +kernel
theorem dX6_delay_74 : decode cX6_delay 74 = .ok (.baload, 1) := by decide +kernel
theorem dX6_delay_75 : decode cX6_delay 75 = .ok (.ifCond .eq 9, 3) := by decide +kernel
theorem dX6_delay_78 : decode cX6_delay 78 = .ok (.aload_n 0, 1) := by decide +kernel
theorem dX6_delay_79 : decode cX6_delay 79 = .ok (.iconst 4, 1) := by decide +kernel
theorem dX6_delay_80 : decode cX6_delay 80 = .ok (.invokevirtual 84, 3) := by decide +kernel
theorem dX6_delay_83 : decode cX6_delay 83 = .ok (.ireturn, 1) := by decide +kernel
theorem dX6_delay_84 : decode cX6_delay 84 = .ok (.aload_n 0, 1) := by decide +kernel
theorem dX6_delay_85 : decode cX6_delay 85 = .ok (.getfield 26, 3) := by decide +kernel
theorem dX6_delay_88 : decode cX6_delay 88 = .ok (.iconst 2, 1) := by decide +kernel
theorem dX6_delay_89 : decode cX6_delay 89 = .ok (.aload_n 0, 1) := by decide +kernel
theorem dX6_delay_90 : decode cX6_delay 90 = .ok (.getfield 19, 3) := by decide +kernel
theorem dX6_delay_93 : decode cX6_delay 93 = .ok (.getfield 128, 3) := by decide +kernel
theorem dX6_delay_96 : decode cX6_delay 96 = .ok (.iload_n 1, 1) := by decide +kernel
theorem dX6_delay_97 : decode cX6_delay 97 = .ok (.iaload, 1) := by decide +kernel
theorem dX6_delay_98 : decode cX6_delay 98 = .ok (.iload_n 2, 1) := by decide +kernel
theorem dX6_delay_99 : decode cX6_delay 99 = .ok (.iadd, 1) := by decide +kernel
theorem dX6_delay_100 : decode cX6_delay 100 = .ok (.iload_n 3, 1) := by decide +kernel
theorem dX6_delay_101 : decode cX6_delay 101 = .ok (.iconst 0, 1) := by decide +kernel
theorem dX6_delay_102 : decode cX6_delay 102 = .ok (.invokevirtual 115, 3) := by decide +kernel
theorem dX6_delay_105 : decode cX6_delay 105 = .ok (.aload_n 0, 1) := by decide +kernel
theorem dX6_delay_106 : decode cX6_delay 106 = .ok (.invokevirtual 91, 3) := by decide +kernel
theorem dX6_delay_109 : decode cX6_delay 109 = .ok (.ireturn, 1) := by decide +kernel
theorem dX6_close_0 : decode cX6_close 0 = .ok (.aload_n 0, 1) := by decide +kernel
theorem dX6_close_1 : decode cX6_close 1 = .ok (.iload_n 1, 1) := by decide +kernel
theorem dX6_close_2 : decode cX6_close 2 = .ok (.invokevirtual 80, 3) := by decide +kernel
theorem dX6_close_5 : decode cX6_close 5 = .ok (.ifCond .ne 9, 3) := by decide +kernel
theorem dX6_close_8 : decode cX6_close 8 = .ok (.aload_n 0, 1) := by decide +kernel
theorem dX6_close_9 : decode cX6_close 9 = .ok (.iconst 1, 1) := by decide +kernel
theorem dX6_close_10 : decode cX6_close 10 = .ok (.invokevirtual 84, 3) := by decide +kernel
theorem dX6_close_13 : decode cX6_close 13 = .ok (.ireturn, 1) := by decide +kernel
theorem dX6_close_14 : decode cX6_close 14 = .ok (.iload_n 2, 1) := by decide +kernel
theorem dX6_close_15 : decode cX6_close 15 = .ok (.invokestatic 131, 3) := by decide +kernel
theorem dX6_close_18 : decode cX6_close 18 = .ok (.ifCond .eq 15, 3) := by decide +kernel
theorem dX6_close_21 : decode cX6_close 21 = .ok (.iload_n 3, 1) := by decide +kernel
theorem dX6_close_22 : decode cX6_close 22 = .ok (.invokestatic 131, 3) := by decide +kernel
theorem dX6_close_25 : decode cX6_close 25 = .ok (.ifCond .eq 8, 3) := by decide +kernel
theorem dX6_close_28 : decode cX6_close 28 = .ok (.iload_n 2, 1) := by decide +kernel
theorem dX6_close_29 : decode cX6_close 29 = .ok (.iload_n 3, 1) := by decide +kernel
theorem dX6_close_30 : decode cX6_close 30 = .ok (.if_icmp .le 9, 3) := by decide +kernel
theorem dX6_close_33 : decode cX6_close 33 = .ok (.aload_n 0, 1) := by decide +kernel
theorem dX6_close_34 : decode cX6_close 34 = .ok (.iconst 2, 1) := by decide +kernel
theorem dX6_close_35 : decode cX6_close 35 = .ok (.invokevirtual 84, 3) := by decide +kernel
theorem dX6_close_38 : decode cX6_close 38 = .ok (.ireturn, 1) := by decide +kernel
theorem dX6_close_39 : decode cX6_close 39 = .ok (.aload_n 0, 1) := by decide +kernel
theorem dX6_close_40 : decode cX6_close 40 = .ok (.getfield 26, 3) := by decide +kernel
theorem dX6_close_43 : decode cX6_close 43 = .ok (.getfield 134, 3) := by decide +kernel
theorem dX6_close_46 : decode cX6_close 46 = .ok (.bipush 60, 2) := by decide +kernel
theorem dX6_close_48 : decode cX6_close 48 = .ok (.if_icmp .ge 13, 3) := by decide +kernel
theorem dX6_close_51 : decode cX6_close 51 = .ok (.aload_n 0, 1) := by decide +kernel
theorem dX6_close_52 : decode cX6_close 52 = .ok (.getfield 26, 3) := by decide +kernel
theorem dX6_close_55 : decode cX6_close 55 = .ok (.invokevirtual 109, 3) := by decide +kernel
theorem dX6_close_58 : decode cX6_close 58 = .ok (.ifCond .eq 9, 3) := by decide +kernel
theorem dX6_close_61 : decode cX6_close 61 = .ok (.aload_n 0, 1) := by decide +kernel
theorem dX6_close_62 : decode cX6_close 62 = .ok (.iconst 3, 1) := by decide +kernel
theorem dX6_close_63 : decode cX6_close 63 = .ok (.invokevirtual 84, 3) := by decide +kernel
theorem dX6_close_66 : decode cX6_close 66 = .ok (.ireturn, 1) := by decide +kernel
theorem dX6_close_67 : decode cX6_close 67 = .ok (.aload_n 0, 1) := by decide +kernel
theorem dX6_close_68 : decode cX6_close 68 = .ok (.getfield 26, 3) := by decide +kernel
theorem dX6_close_71 : decode cX6_close 71 = .ok (.iconst 3, 1) := by decide +kernel
theorem dX6_close_72 : decode cX6_close 72 = .ok (.iload_n 1, 1) := by decide +kernel
theorem dX6_close_73 : decode cX6_close 73 = .ok (.iload_n 2, 1) := by decide +kernel
theorem dX6_close_74 : decode cX6_close 74 = .ok (.iload_n 3, 1) := by decide +kernel
theorem dX6_close_75 : decode cX6_close 75 = .ok (.invokevirtual 115, 3) := by decide +kernel
theorem dX6_close_78 : decode cX6_close 78 = .ok (.aload_n 0, 1) := by decide +kernel
theorem dX6_close_79 : decode cX6_close 79 = .ok (.invokevirtual 91, 3) := by decide +kernel
theorem dX6_close_82 : decode cX6_close 82 = .ok (.ireturn, 1) := by decide +kernel
theorem dX6_changes_0 : decode cX6_changes 0 = .ok (.aload_n 0, 1) := by decide +kernel
theorem dX6_changes_1 : decode cX6_changes 1 = .ok (.aload_n 0, 1) := by decide +kernel
theorem dX6_changes_2 : decode cX6_changes 2 = .ok (.getfield 26, 3) := by decide +kernel
theorem dX6_changes_5 : decode cX6_changes 5 = .ok (.getfield 137, 3) := by decide +kernel
theorem dX6_changes_8 : decode cX6_changes 8 = .ok (.invokevirtual 77, 3) := by decide +kernel
theorem dX6_changes_11 : decode cX6_changes 11 = .ok (.ireturn, 1) := by decide +kernel
theorem dX6_undo_0 : decode cX6_undo 0 = .ok (.aload_n 0, 1) := by decide +kernel
theorem dX6_undo_1 : decode cX6_undo 1 = .ok (.getfield 26, 3) := by decide +kernel
theorem dX6_undo_4 : decode cX6_undo 4 = .ok (.getfield 137, 3) := by decide +kernel
theorem dX6_undo_7 : decode cX6_undo 7 = .ok (.ifCond .ne 10, 3) := by decide +kernel
theorem dX6_undo_10 : decode cX6_undo 10 = .ok (.aload_n 0, 1) := by decide +kernel
theorem dX6_undo_11 : decode cX6_undo 11 = .ok (.bipush 6, 2) := by decide +kernel
theorem dX6_undo_13 : decode cX6_undo 13 = .ok (.invokevirtual 84, 3) := by decide +kernel
theorem dX6_undo_16 : decode cX6_undo 16 = .ok (.ireturn, 1) := by decide +kernel
theorem dX6_undo_17 : decode cX6_undo 17 = .ok (.aload_n 0, 1) := by decide +kernel
theorem dX6_undo_18 : decode cX6_undo 18 = .ok (.getfield 26, 3) := by decide +kernel
theorem dX6_undo_21 : decode cX6_undo 21 = .ok (.getfield 138, 3) := by decide +kernel
theorem dX6_undo_24 : decode cX6_undo 24 = .ok (.aload_n 0, 1) := by decide +kernel
theorem dX6_undo_25 : decode cX6_undo 25 = .ok (.getfield 26, 3) := by decide +kernel
theorem dX6_undo_28 : decode cX6_undo 28 = .ok (.getfield 137, 3) := by decide +kernel
theorem dX6_undo_31 : decode cX6_undo 31 = .ok (.iconst 1, 1) := by decide +kernel
theorem dX6_undo_32 : decode cX6_undo 32 = .ok (.isub, 1) := by decide +kernel
theorem dX6_undo_33 : decode cX6_undo 33 = .ok (.iaload, 1) := by decide +kernel
theorem dX6_undo_34 : decode cX6_undo 34 = .ok (.istore_n 1, 1) := by decide +kernel
theorem dX6_undo_35 : decode cX6_undo 35 = .ok (.aload_n 0, 1) := by decide +kernel
theorem dX6_undo_36 : decode cX6_undo 36 = .ok (.getfield 26, 3) := by decide +kernel
theorem dX6_undo_39 : decode cX6_undo 39 = .ok (.getfield 141, 3) := by decide +kernel
theorem dX6_undo_42 : decode cX6_undo 42 = .ok (.aload_n 0, 1) := by decide +kernel
theorem dX6_undo_43 : decode cX6_undo 43 = .ok (.getfield 26, 3) := by decide +kernel
theorem dX6_undo_46 : decode cX6_undo 46 = .ok (.getfield 137, 3) := by decide +kernel
theorem dX6_undo_49 : decode cX6_undo 49 = .ok (.iconst 1, 1) := by decide +kernel
theorem dX6_undo_50 : decode cX6_undo 50 = .ok (.isub, 1) := by decide +kernel
theorem dX6_undo_51 : decode cX6_undo 51 = .ok (.iaload, 1) := by decide +kernel
theorem dX6_undo_52 : decode cX6_undo 52 = .ok (.istore_n 2, 1) := by decide +kernel
theorem dX6_undo_53 : decode cX6_undo 53 = .ok (.aload_n 0, 1) := by decide +kernel
theorem dX6_undo_54 : decode cX6_undo 54 = .ok (.getfield 26, 3) := by decide +kernel
theorem dX6_undo_57 : decode cX6_undo 57 = .ok (.invokevirtual 144, 3) := by decide +kernel
theorem dX6_undo_60 : decode cX6_undo 60 = .ok (.iload_n 1, 1) := by decide +kernel
theorem dX6_undo_61 : decode cX6_undo 61 = .ok (.ifCond .ne 13, 3) := by decide +kernel
theorem dX6_undo_64 : decode cX6_undo 64 = .ok (.aload_n 0, 1) := by decide +kernel
theorem dX6_undo_65 : decode cX6_undo 65 = .ok (.getfield 19, 3) := by decide +kernel
theorem dX6_undo_68 : decode cX6_undo 68 = .ok (.invokevirtual 147, 3) := by decide +kernel
theorem dX6_undo_71 : decode cX6_undo 71 = .ok (.goto 18, 3) := by decide +kernel
theorem dX6_undo_74 : decode cX6_undo 74 = .ok (.iload_n 1, 1) := by decide +kernel
theorem dX6_undo_75 : decode cX6_undo 75 = .ok (.iconst 1, 1) := by decide +kernel
theorem dX6_undo_76 : decode cX6_undo 76 = .ok (.if_icmp .ne 13, 3) := by decide +kernel
theorem dX6_undo_79 : decode cX6_undo 79 = .ok (.aload_n 0, 1) := by decide +kernel
theorem dX6_undo_80 : decode cX6_undo 80 = .ok (.getfield 19, 3) := by decide +kernel
theorem dX6_undo_83 : decode cX6_undo 83 = .ok (.getfield 121, 3) := by decide +kernel
theorem dX6_undo_86 : decode cX6_undo 86 = .ok (.iload_n 2, 1) := by decide +kernel
theorem dX6_undo_87 : decode cX6_undo 87 = .ok (.iconst 0, 1) := by decide +kernel
theorem dX6_undo_88 : decode cX6_undo 88 = .ok (.bastore, 1) := by decide +kernel
theorem dX6_undo_89 : decode cX6_undo 89 = .ok (.aload_n 0, 1) := by decide +kernel
theorem dX6_undo_90 : decode cX6_undo 90 = .ok (.getfield 35, 3) := by decide +kernel
theorem dX6_undo_93 : decode cX6_undo 93 = .ok (.invokevirtual 148, 3) := by decide +kernel
theorem dX6_undo_96 : decode cX6_undo 96 = .ok (.aload_n 0, 1) := by decide +kernel
theorem dX6_undo_97 : decode cX6_undo 97 = .ok (.invokevirtual 91, 3) := by decide +kernel
theorem dX6_undo_100 : decode cX6_undo 100 = .ok (.ireturn, 1) := by decide +kernel
theorem dX6_told_0 : decode cX6_told 0 = .ok (.aload_n 0, 1) := by decide +kernel
theorem dX6_told_1 : decode cX6_told 1 = .ok (.iload_n 1, 1) := by decide +kernel
theorem dX6_told_2 : decode cX6_told 2 = .ok (.invokevirtual 118, 3) := by decide +kernel
theorem dX6_told_5 : decode cX6_told 5 = .ok (.ifCond .ne 9, 3) := by decide +kernel
theorem dX6_told_8 : decode cX6_told 8 = .ok (.aload_n 0, 1) := by decide +kernel
theorem dX6_told_9 : decode cX6_told 9 = .ok (.iconst 1, 1) := by decide +kernel
theorem dX6_told_10 : decode cX6_told 10 = .ok (.invokevirtual 66, 3) := by decide +kernel
theorem dX6_told_13 : decode cX6_told 13 = .ok (.ireturn, 1) := by decide +kernel
theorem dX6_told_14 : decode cX6_told 14 = .ok (.iload_n 2, 1) := by decide +kernel
theorem dX6_told_15 : decode cX6_told 15 = .ok (.iconst 0, 1) := by decide +kernel
theorem dX6_told_16 : decode cX6_told 16 = .ok (.bipush 7, 2) := by decide +kernel
theorem dX6_told_18 : decode cX6_told 18 = .ok (.invokestatic 98, 3) := by decide +kernel
theorem dX6_told_21 : decode cX6_told 21 = .ok (.ifCond .ne 9, 3) := by decide +kernel
theorem dX6_told_24 : decode cX6_told 24 = .ok (.aload_n 0, 1) := by decide +kernel
theorem dX6_told_25 : decode cX6_told 25 = .ok (.iconst 2, 1) := by decide +kernel
theorem dX6_told_26 : decode cX6_told 26 = .ok (.invokevirtual 66, 3) := by decide +kernel
theorem dX6_told_29 : decode cX6_told 29 = .ok (.ireturn, 1) := by decide +kernel
theorem dX6_told_30 : decode cX6_told 30 = .ok (.aload_n 0, 1) := by decide +kernel
theorem dX6_told_31 : decode cX6_told 31 = .ok (.aload_n 0, 1) := by decide +kernel
theorem dX6_told_32 : decode cX6_told 32 = .ok (.getfield 19, 3) := by decide +kernel
theorem dX6_told_35 : decode cX6_told 35 = .ok (.iload_n 1, 1) := by decide +kernel
theorem dX6_told_36 : decode cX6_told 36 = .ok (.iload_n 2, 1) := by decide +kernel
theorem dX6_told_37 : decode cX6_told 37 = .ok (.invokevirtual 151, 3) := by decide +kernel
theorem dX6_told_40 : decode cX6_told 40 = .ok (.invokevirtual 77, 3) := by decide +kernel
theorem dX6_told_43 : decode cX6_told 43 = .ok (.ireturn, 1) := by decide +kernel
theorem dX6_run_0 : decode cX6_run 0 = .ok (.aload_n 0, 1) := by decide +kernel
theorem dX6_run_1 : decode cX6_run 1 = .ok (.iload_n 3, 1) := by decide +kernel
theorem dX6_run_2 : decode cX6_run 2 = .ok (.invokevirtual 154, 3) := by decide +kernel
theorem dX6_run_5 : decode cX6_run 5 = .ok (.ifCond .ne 10, 3) := by decide +kernel
theorem dX6_run_8 : decode cX6_run 8 = .ok (.aload_n 0, 1) := by decide +kernel
theorem dX6_run_9 : decode cX6_run 9 = .ok (.bipush 6, 2) := by decide +kernel
theorem dX6_run_11 : decode cX6_run 11 = .ok (.invokevirtual 66, 3) := by decide +kernel
theorem dX6_run_14 : decode cX6_run 14 = .ok (.ireturn, 1) := by decide +kernel
theorem dX6_run_15 : decode cX6_run 15 = .ok (.aload_n 0, 1) := by decide +kernel
theorem dX6_run_16 : decode cX6_run 16 = .ok (.getfield 35, 3) := by decide +kernel
theorem dX6_run_19 : decode cX6_run 19 = .ok (.iload_n 3, 1) := by decide +kernel
theorem dX6_run_20 : decode cX6_run 20 = .ok (.invokevirtual 157, 3) := by decide +kernel
theorem dX6_run_23 : decode cX6_run 23 = .ok (.iload_n 1, 1) := by decide +kernel
theorem dX6_run_24 : decode cX6_run 24 = .ok (.iconst 0, 1) := by decide +kernel
theorem dX6_run_25 : decode cX6_run 25 = .ok (.aload_n 0, 1) := by decide +kernel
theorem dX6_run_26 : decode cX6_run 26 = .ok (.getfield 35, 3) := by decide +kernel
theorem dX6_run_29 : decode cX6_run 29 = .ok (.getfield 161, 3) := by decide +kernel
theorem dX6_run_32 : decode cX6_run 32 = .ok (.iconst 1, 1) := by decide +kernel
theorem dX6_run_33 : decode cX6_run 33 = .ok (.isub, 1) := by decide +kernel
theorem dX6_run_34 : decode cX6_run 34 = .ok (.invokestatic 98, 3) := by decide +kernel
theorem dX6_run_37 : decode cX6_run 37 = .ok (.ifCond .eq 22, 3) := by decide +kernel
theorem dX6_run_40 : decode cX6_run 40 = .ok (.iload_n 2, 1) := by decide +kernel
theorem dX6_run_41 : decode cX6_run 41 = .ok (.iconst 0, 1) := by decide +kernel
theorem dX6_run_42 : decode cX6_run 42 = .ok (.aload_n 0, 1) := by decide +kernel
theorem dX6_run_43 : decode cX6_run 43 = .ok (.getfield 19, 3) := by decide +kernel
theorem dX6_run_46 : decode cX6_run 46 = .ok (.getfield 125, 3) := by decide +kernel
theorem dX6_run_49 : decode cX6_run 49 = .ok (.iload_n 1, 1) := by decide +kernel
theorem dX6_run_50 : decode cX6_run 50 = .ok (.iaload, 1) := by decide +kernel
theorem dX6_run_51 : decode cX6_run 51 = .ok (.iconst 1, 1) := by decide +kernel
theorem dX6_run_52 : decode cX6_run 52 = .ok (.isub, 1) := by decide +kernel
theorem dX6_run_53 : decode cX6_run 53 = .ok (.invokestatic 98, 3) := by decide +kernel
theorem dX6_run_56 : decode cX6_run 56 = .ok (.ifCond .ne 9, 3) := by decide +kernel
theorem dX6_run_59 : decode cX6_run 59 = .ok (.aload_n 0, 1) := by decide +kernel
theorem dX6_run_60 : decode cX6_run 60 = .ok (.iconst 1, 1) := by decide +kernel
theorem dX6_run_61 : decode cX6_run 61 = .ok (.invokevirtual 66, 3) := by decide +kernel
theorem dX6_run_64 : decode cX6_run 64 = .ok (.ireturn, 1) := by decide +kernel
theorem dX6_run_65 : decode cX6_run 65 = .ok (.iload 4, 2) := by decide +kernel
theorem dX6_run_67 : decode cX6_run 67 = .ok (.iconst 0, 1) := by decide +kernel
theorem dX6_run_68 : decode cX6_run 68 = .ok (.iconst 2, 1) := by decide +kernel
theorem dX6_run_69 : decode cX6_run 69 = .ok (.invokestatic 98, 3) := by decide +kernel
theorem dX6_run_72 : decode cX6_run 72 = .ok (.ifCond .ne 9, 3) := by decide +kernel
theorem dX6_run_75 : decode cX6_run 75 = .ok (.aload_n 0, 1) := by decide +kernel
theorem dX6_run_76 : decode cX6_run 76 = .ok (.iconst 2, 1) := by decide +kernel
theorem dX6_run_77 : decode cX6_run 77 = .ok (.invokevirtual 66, 3) := by decide +kernel
theorem dX6_run_80 : decode cX6_run 80 = .ok (.ireturn, 1) := by decide +kernel
theorem dX6_run_81 : decode cX6_run 81 = .ok (.aload_n 0, 1) := by decide +kernel
theorem dX6_run_82 : decode cX6_run 82 = .ok (.aload_n 0, 1) := by decide +kernel
theorem dX6_run_83 : decode cX6_run 83 = .ok (.getfield 35, 3) := by decide +kernel
theorem dX6_run_86 : decode cX6_run 86 = .ok (.aload_n 0, 1) := by decide +kernel
theorem dX6_run_87 : decode cX6_run 87 = .ok (.getfield 19, 3) := by decide +kernel
theorem dX6_run_90 : decode cX6_run 90 = .ok (.getfield 128, 3) := by decide +kernel
theorem dX6_run_93 : decode cX6_run 93 = .ok (.iload_n 1, 1) := by decide +kernel
theorem dX6_run_94 : decode cX6_run 94 = .ok (.iaload, 1) := by decide +kernel
theorem dX6_run_95 : decode cX6_run 95 = .ok (.iload_n 2, 1) := by decide +kernel
theorem dX6_run_96 : decode cX6_run 96 = .ok (.iadd, 1) := by decide +kernel
theorem dX6_run_97 : decode cX6_run 97 = .ok (.iload 4, 2) := by decide +kernel
theorem dX6_run_99 : decode cX6_run 99 = .ok (.invokevirtual 164, 3) := by decide +kernel
theorem dX6_run_102 : decode cX6_run 102 = .ok (.invokevirtual 77, 3) := by decide +kernel
theorem dX6_run_105 : decode cX6_run 105 = .ok (.ireturn, 1) := by decide +kernel
theorem dX6_first_0 : decode cX6_first 0 = .ok (.aload_n 0, 1) := by decide +kernel
theorem dX6_first_1 : decode cX6_first 1 = .ok (.iload_n 1, 1) := by decide +kernel
theorem dX6_first_2 : decode cX6_first 2 = .ok (.iload_n 2, 1) := by decide +kernel
theorem dX6_first_3 : decode cX6_first 3 = .ok (.iload_n 3, 1) := by decide +kernel
theorem dX6_first_4 : decode cX6_first 4 = .ok (.iload_n 3, 1) := by decide +kernel
theorem dX6_first_5 : decode cX6_first 5 = .ok (.iload 4, 2) := by decide +kernel
theorem dX6_first_7 : decode cX6_first 7 = .ok (.invokevirtual 165, 3) := by decide +kernel
theorem dX6_first_10 : decode cX6_first 10 = .ok (.istore 5, 2) := by decide +kernel
theorem dX6_first_12 : decode cX6_first 12 = .ok (.iload 5, 2) := by decide +kernel
theorem dX6_first_14 : decode cX6_first 14 = .ok (.ifCond .eq 10, 3) := by decide +kernel
theorem dX6_first_17 : decode cX6_first 17 = .ok (.aload_n 0, 1) := by decide +kernel
theorem dX6_first_18 : decode cX6_first 18 = .ok (.iload 5, 2) := by decide +kernel
theorem dX6_first_20 : decode cX6_first 20 = .ok (.invokevirtual 66, 3) := by decide +kernel
theorem dX6_first_23 : decode cX6_first 23 = .ok (.ireturn, 1) := by decide +kernel
theorem dX6_first_24 : decode cX6_first 24 = .ok (.aload_n 0, 1) := by decide +kernel
theorem dX6_first_25 : decode cX6_first 25 = .ok (.iload_n 1, 1) := by decide +kernel
theorem dX6_first_26 : decode cX6_first 26 = .ok (.iload_n 3, 1) := by decide +kernel
theorem dX6_first_27 : decode cX6_first 27 = .ok (.iload 4, 2) := by decide +kernel
theorem dX6_first_29 : decode cX6_first 29 = .ok (.iconst 0, 1) := by decide +kernel
theorem dX6_first_30 : decode cX6_first 30 = .ok (.invokevirtual 169, 3) := by decide +kernel
theorem dX6_first_33 : decode cX6_first 33 = .ok (.aload_n 0, 1) := by decide +kernel
theorem dX6_first_34 : decode cX6_first 34 = .ok (.aload_n 0, 1) := by decide +kernel
theorem dX6_first_35 : decode cX6_first 35 = .ok (.getfield 44, 3) := by decide +kernel
theorem dX6_first_38 : decode cX6_first 38 = .ok (.iload_n 2, 1) := by decide +kernel
theorem dX6_first_39 : decode cX6_first 39 = .ok (.invokevirtual 173, 3) := by decide +kernel
theorem dX6_first_42 : decode cX6_first 42 = .ok (.invokevirtual 176, 3) := by decide +kernel
theorem dX6_first_45 : decode cX6_first 45 = .ok (.ireturn, 1) := by decide +kernel
theorem dX6_last_0 : decode cX6_last 0 = .ok (.aload_n 0, 1) := by decide +kernel
theorem dX6_last_1 : decode cX6_last 1 = .ok (.iload_n 1, 1) := by decide +kernel
theorem dX6_last_2 : decode cX6_last 2 = .ok (.iload_n 2, 1) := by decide +kernel
theorem dX6_last_3 : decode cX6_last 3 = .ok (.iload_n 3, 1) := by decide +kernel
theorem dX6_last_4 : decode cX6_last 4 = .ok (.iload_n 3, 1) := by decide +kernel
theorem dX6_last_5 : decode cX6_last 5 = .ok (.iload 4, 2) := by decide +kernel
theorem dX6_last_7 : decode cX6_last 7 = .ok (.invokevirtual 165, 3) := by decide +kernel
theorem dX6_last_10 : decode cX6_last 10 = .ok (.istore 5, 2) := by decide +kernel
theorem dX6_last_12 : decode cX6_last 12 = .ok (.iload 5, 2) := by decide +kernel
theorem dX6_last_14 : decode cX6_last 14 = .ok (.ifCond .eq 10, 3) := by decide +kernel
theorem dX6_last_17 : decode cX6_last 17 = .ok (.aload_n 0, 1) := by decide +kernel
theorem dX6_last_18 : decode cX6_last 18 = .ok (.iload 5, 2) := by decide +kernel
theorem dX6_last_20 : decode cX6_last 20 = .ok (.invokevirtual 66, 3) := by decide +kernel
theorem dX6_last_23 : decode cX6_last 23 = .ok (.ireturn, 1) := by decide +kernel
theorem dX6_last_24 : decode cX6_last 24 = .ok (.aload_n 0, 1) := by decide +kernel
theorem dX6_last_25 : decode cX6_last 25 = .ok (.iload_n 1, 1) := by decide +kernel
theorem dX6_last_26 : decode cX6_last 26 = .ok (.iconst 0, 1) := by decide +kernel
theorem dX6_last_27 : decode cX6_last 27 = .ok (.iload 4, 2) := by decide +kernel
theorem dX6_last_29 : decode cX6_last 29 = .ok (.iconst 0, 1) := by decide +kernel
theorem dX6_last_30 : decode cX6_last 30 = .ok (.invokevirtual 169, 3) := by decide +kernel
theorem dX6_last_33 : decode cX6_last 33 = .ok (.aload_n 0, 1) := by decide +kernel
theorem dX6_last_34 : decode cX6_last 34 = .ok (.aload_n 0, 1) := by decide +kernel
theorem dX6_last_35 : decode cX6_last 35 = .ok (.getfield 44, 3) := by decide +kernel
theorem dX6_last_38 : decode cX6_last 38 = .ok (.iload_n 2, 1) := by decide +kernel
theorem dX6_last_39 : decode cX6_last 39 = .ok (.iload_n 3, 1) := by decide +kernel
theorem dX6_last_40 : decode cX6_last 40 = .ok (.invokevirtual 179, 3) := by decide +kernel
theorem dX6_last_43 : decode cX6_last 43 = .ok (.invokevirtual 176, 3) := by decide +kernel
theorem dX6_last_46 : decode cX6_last 46 = .ok (.ireturn, 1) := by decide +kernel
theorem dX6_quickest_0 : decode cX6_quickest 0 = .ok (.aload_n 0, 1) := by decide +kernel
theorem dX6_quickest_1 : decode cX6_quickest 1 = .ok (.iload_n 1, 1) := by decide +kernel
theorem dX6_quickest_2 : decode cX6_quickest 2 = .ok (.iload_n 2, 1) := by decide +kernel
theorem dX6_quickest_3 : decode cX6_quickest 3 = .ok (.iload_n 3, 1) := by decide +kernel
theorem dX6_quickest_4 : decode cX6_quickest 4 = .ok (.iload 4, 2) := by decide +kernel
theorem dX6_quickest_6 : decode cX6_quickest 6 = .ok (.iload 5, 2) := by decide +kernel
theorem dX6_quickest_8 : decode cX6_quickest 8 = .ok (.invokevirtual 165, 3) := by decide +kernel
theorem dX6_quickest_11 : decode cX6_quickest 11 = .ok (.istore 6, 2) := by decide +kernel
theorem dX6_quickest_13 : decode cX6_quickest 13 = .ok (.iload 6, 2) := by decide +kernel
theorem dX6_quickest_15 : decode cX6_quickest 15 = .ok (.ifCond .eq 10, 3) := by decide +kernel
theorem dX6_quickest_18 : decode cX6_quickest 18 = .ok (.aload_n 0, 1) := by decide +kernel
theorem dX6_quickest_19 : decode cX6_quickest 19 = .ok (.iload 6, 2) := by decide +kernel
theorem dX6_quickest_21 : decode cX6_quickest 21 = .ok (.invokevirtual 66, 3) := by decide +kernel
theorem dX6_quickest_24 : decode cX6_quickest 24 = .ok (.ireturn, 1) := by decide +kernel
theorem dX6_quickest_25 : decode cX6_quickest 25 = .ok (.aload_n 0, 1) := by decide +kernel
theorem dX6_quickest_26 : decode cX6_quickest 26 = .ok (.iload_n 1, 1) := by decide +kernel
theorem dX6_quickest_27 : decode cX6_quickest 27 = .ok (.iload_n 3, 1) := by decide +kernel
theorem dX6_quickest_28 : decode cX6_quickest 28 = .ok (.iload 5, 2) := by decide +kernel
theorem dX6_quickest_30 : decode cX6_quickest 30 = .ok (.iconst 0, 1) := by decide +kernel
theorem dX6_quickest_31 : decode cX6_quickest 31 = .ok (.invokevirtual 169, 3) := by decide +kernel
theorem dX6_quickest_34 : decode cX6_quickest 34 = .ok (.aload_n 0, 1) := by decide +kernel
theorem dX6_quickest_35 : decode cX6_quickest 35 = .ok (.aload_n 0, 1) := by decide +kernel
theorem dX6_quickest_36 : decode cX6_quickest 36 = .ok (.getfield 44, 3) := by decide +kernel
theorem dX6_quickest_39 : decode cX6_quickest 39 = .ok (.iload_n 2, 1) := by decide +kernel
theorem dX6_quickest_40 : decode cX6_quickest 40 = .ok (.iload 4, 2) := by decide +kernel
theorem dX6_quickest_42 : decode cX6_quickest 42 = .ok (.invokevirtual 182, 3) := by decide +kernel
theorem dX6_quickest_45 : decode cX6_quickest 45 = .ok (.invokevirtual 176, 3) := by decide +kernel
theorem dX6_quickest_48 : decode cX6_quickest 48 = .ok (.ireturn, 1) := by decide +kernel
theorem dX6_fewest_0 : decode cX6_fewest 0 = .ok (.aload_n 0, 1) := by decide +kernel
theorem dX6_fewest_1 : decode cX6_fewest 1 = .ok (.iload_n 1, 1) := by decide +kernel
theorem dX6_fewest_2 : decode cX6_fewest 2 = .ok (.iload_n 2, 1) := by decide +kernel
theorem dX6_fewest_3 : decode cX6_fewest 3 = .ok (.iload_n 3, 1) := by decide +kernel
theorem dX6_fewest_4 : decode cX6_fewest 4 = .ok (.iload 4, 2) := by decide +kernel
theorem dX6_fewest_6 : decode cX6_fewest 6 = .ok (.iload 5, 2) := by decide +kernel
theorem dX6_fewest_8 : decode cX6_fewest 8 = .ok (.invokevirtual 165, 3) := by decide +kernel
theorem dX6_fewest_11 : decode cX6_fewest 11 = .ok (.istore 6, 2) := by decide +kernel
theorem dX6_fewest_13 : decode cX6_fewest 13 = .ok (.iload 6, 2) := by decide +kernel
theorem dX6_fewest_15 : decode cX6_fewest 15 = .ok (.ifCond .eq 10, 3) := by decide +kernel
theorem dX6_fewest_18 : decode cX6_fewest 18 = .ok (.aload_n 0, 1) := by decide +kernel
theorem dX6_fewest_19 : decode cX6_fewest 19 = .ok (.iload 6, 2) := by decide +kernel
theorem dX6_fewest_21 : decode cX6_fewest 21 = .ok (.invokevirtual 66, 3) := by decide +kernel
theorem dX6_fewest_24 : decode cX6_fewest 24 = .ok (.ireturn, 1) := by decide +kernel
theorem dX6_fewest_25 : decode cX6_fewest 25 = .ok (.aload_n 0, 1) := by decide +kernel
theorem dX6_fewest_26 : decode cX6_fewest 26 = .ok (.iload_n 1, 1) := by decide +kernel
theorem dX6_fewest_27 : decode cX6_fewest 27 = .ok (.iload_n 3, 1) := by decide +kernel
theorem dX6_fewest_28 : decode cX6_fewest 28 = .ok (.iload 5, 2) := by decide +kernel
theorem dX6_fewest_30 : decode cX6_fewest 30 = .ok (.iconst 1, 1) := by decide +kernel
theorem dX6_fewest_31 : decode cX6_fewest 31 = .ok (.invokevirtual 169, 3) := by decide +kernel
theorem dX6_fewest_34 : decode cX6_fewest 34 = .ok (.aload_n 0, 1) := by decide +kernel
theorem dX6_fewest_35 : decode cX6_fewest 35 = .ok (.aload_n 0, 1) := by decide +kernel
theorem dX6_fewest_36 : decode cX6_fewest 36 = .ok (.getfield 44, 3) := by decide +kernel
theorem dX6_fewest_39 : decode cX6_fewest 39 = .ok (.iload_n 2, 1) := by decide +kernel
theorem dX6_fewest_40 : decode cX6_fewest 40 = .ok (.iload 4, 2) := by decide +kernel
theorem dX6_fewest_42 : decode cX6_fewest 42 = .ok (.invokevirtual 185, 3) := by decide +kernel
theorem dX6_fewest_45 : decode cX6_fewest 45 = .ok (.invokevirtual 176, 3) := by decide +kernel
theorem dX6_fewest_48 : decode cX6_fewest 48 = .ok (.ireturn, 1) := by decide +kernel
theorem dX6_way_0 : decode cX6_way 0 = .ok (.aload_n 0, 1) := by decide +kernel
theorem dX6_way_1 : decode cX6_way 1 = .ok (.iload_n 1, 1) := by decide +kernel
theorem dX6_way_2 : decode cX6_way 2 = .ok (.iload_n 2, 1) := by decide +kernel
theorem dX6_way_3 : decode cX6_way 3 = .ok (.iload_n 3, 1) := by decide +kernel
theorem dX6_way_4 : decode cX6_way 4 = .ok (.iload_n 3, 1) := by decide +kernel
theorem dX6_way_5 : decode cX6_way 5 = .ok (.iload 4, 2) := by decide +kernel
theorem dX6_way_7 : decode cX6_way 7 = .ok (.invokevirtual 165, 3) := by decide +kernel
theorem dX6_way_10 : decode cX6_way 10 = .ok (.istore 5, 2) := by decide +kernel
theorem dX6_way_12 : decode cX6_way 12 = .ok (.iload 5, 2) := by decide +kernel
theorem dX6_way_14 : decode cX6_way 14 = .ok (.ifCond .eq 10, 3) := by decide +kernel
theorem dX6_way_17 : decode cX6_way 17 = .ok (.aload_n 0, 1) := by decide +kernel
theorem dX6_way_18 : decode cX6_way 18 = .ok (.iload 5, 2) := by decide +kernel
theorem dX6_way_20 : decode cX6_way 20 = .ok (.invokevirtual 66, 3) := by decide +kernel
theorem dX6_way_23 : decode cX6_way 23 = .ok (.ireturn, 1) := by decide +kernel
theorem dX6_way_24 : decode cX6_way 24 = .ok (.aload_n 0, 1) := by decide +kernel
theorem dX6_way_25 : decode cX6_way 25 = .ok (.iload_n 1, 1) := by decide +kernel
theorem dX6_way_26 : decode cX6_way 26 = .ok (.iload_n 3, 1) := by decide +kernel
theorem dX6_way_27 : decode cX6_way 27 = .ok (.iload 4, 2) := by decide +kernel
theorem dX6_way_29 : decode cX6_way 29 = .ok (.iconst 1, 1) := by decide +kernel
theorem dX6_way_30 : decode cX6_way 30 = .ok (.invokevirtual 169, 3) := by decide +kernel
theorem dX6_way_33 : decode cX6_way 33 = .ok (.aload_n 0, 1) := by decide +kernel
theorem dX6_way_34 : decode cX6_way 34 = .ok (.getfield 44, 3) := by decide +kernel
theorem dX6_way_37 : decode cX6_way 37 = .ok (.iload_n 2, 1) := by decide +kernel
theorem dX6_way_38 : decode cX6_way 38 = .ok (.aload_n 0, 1) := by decide +kernel
theorem dX6_way_39 : decode cX6_way 39 = .ok (.getfield 48, 3) := by decide +kernel
theorem dX6_way_42 : decode cX6_way 42 = .ok (.invokevirtual 188, 3) := by decide +kernel
theorem dX6_way_45 : decode cX6_way 45 = .ok (.istore 6, 2) := by decide +kernel
theorem dX6_way_47 : decode cX6_way 47 = .ok (.iload 6, 2) := by decide +kernel
theorem dX6_way_49 : decode cX6_way 49 = .ok (.iconst (-1), 1) := by decide +kernel
theorem dX6_way_50 : decode cX6_way 50 = .ok (.if_icmp .eq 11, 3) := by decide +kernel
theorem dX6_way_53 : decode cX6_way 53 = .ok (.aload_n 0, 1) := by decide +kernel
theorem dX6_way_54 : decode cX6_way 54 = .ok (.iconst 2, 1) := by decide +kernel
theorem dX6_way_55 : decode cX6_way 55 = .ok (.iload 6, 2) := by decide +kernel
theorem dX6_way_57 : decode cX6_way 57 = .ok (.imul, 1) := by decide +kernel
theorem dX6_way_58 : decode cX6_way 58 = .ok (.putfield 55, 3) := by decide +kernel
theorem dX6_way_61 : decode cX6_way 61 = .ok (.aload_n 0, 1) := by decide +kernel
theorem dX6_way_62 : decode cX6_way 62 = .ok (.iload 6, 2) := by decide +kernel
theorem dX6_way_64 : decode cX6_way 64 = .ok (.invokevirtual 176, 3) := by decide +kernel
theorem dX6_way_67 : decode cX6_way 67 = .ok (.ireturn, 1) := by decide +kernel
theorem dX6_out_0 : decode cX6_out 0 = .ok (.iload_n 1, 1) := by decide +kernel
theorem dX6_out_1 : decode cX6_out 1 = .ok (.iconst 0, 1) := by decide +kernel
theorem dX6_out_2 : decode cX6_out 2 = .ok (.aload_n 0, 1) := by decide +kernel
theorem dX6_out_3 : decode cX6_out 3 = .ok (.getfield 55, 3) := by decide +kernel
theorem dX6_out_6 : decode cX6_out 6 = .ok (.iconst 1, 1) := by decide +kernel
theorem dX6_out_7 : decode cX6_out 7 = .ok (.isub, 1) := by decide +kernel
theorem dX6_out_8 : decode cX6_out 8 = .ok (.invokestatic 98, 3) := by decide +kernel
theorem dX6_out_11 : decode cX6_out 11 = .ok (.ifCond .eq 12, 3) := by decide +kernel
theorem dX6_out_14 : decode cX6_out 14 = .ok (.aload_n 0, 1) := by decide +kernel
theorem dX6_out_15 : decode cX6_out 15 = .ok (.getfield 48, 3) := by decide +kernel
theorem dX6_out_18 : decode cX6_out 18 = .ok (.iload_n 1, 1) := by decide +kernel
theorem dX6_out_19 : decode cX6_out 19 = .ok (.iaload, 1) := by decide +kernel
theorem dX6_out_20 : decode cX6_out 20 = .ok (.goto 4, 3) := by decide +kernel
theorem dX6_out_23 : decode cX6_out 23 = .ok (.iconst (-1), 1) := by decide +kernel
theorem dX6_out_24 : decode cX6_out 24 = .ok (.ireturn, 1) := by decide +kernel
theorem dX6_pairs_0 : decode cX6_pairs 0 = .ok (.aload_n 0, 1) := by decide +kernel
theorem dX6_pairs_1 : decode cX6_pairs 1 = .ok (.iload_n 1, 1) := by decide +kernel
theorem dX6_pairs_2 : decode cX6_pairs 2 = .ok (.iload_n 2, 1) := by decide +kernel
theorem dX6_pairs_3 : decode cX6_pairs 3 = .ok (.iconst 0, 1) := by decide +kernel
theorem dX6_pairs_4 : decode cX6_pairs 4 = .ok (.iconst 0, 1) := by decide +kernel
theorem dX6_pairs_5 : decode cX6_pairs 5 = .ok (.iload_n 3, 1) := by decide +kernel
theorem dX6_pairs_6 : decode cX6_pairs 6 = .ok (.invokevirtual 165, 3) := by decide +kernel
theorem dX6_pairs_9 : decode cX6_pairs 9 = .ok (.istore 4, 2) := by decide +kernel
theorem dX6_pairs_11 : decode cX6_pairs 11 = .ok (.iload 4, 2) := by decide +kernel
theorem dX6_pairs_13 : decode cX6_pairs 13 = .ok (.ifCond .eq 10, 3) := by decide +kernel
theorem dX6_pairs_16 : decode cX6_pairs 16 = .ok (.aload_n 0, 1) := by decide +kernel
theorem dX6_pairs_17 : decode cX6_pairs 17 = .ok (.iload 4, 2) := by decide +kernel
theorem dX6_pairs_19 : decode cX6_pairs 19 = .ok (.invokevirtual 66, 3) := by decide +kernel
theorem dX6_pairs_22 : decode cX6_pairs 22 = .ok (.ireturn, 1) := by decide +kernel
theorem dX6_pairs_23 : decode cX6_pairs 23 = .ok (.aload_n 0, 1) := by decide +kernel
theorem dX6_pairs_24 : decode cX6_pairs 24 = .ok (.iload_n 1, 1) := by decide +kernel
theorem dX6_pairs_25 : decode cX6_pairs 25 = .ok (.iconst 0, 1) := by decide +kernel
theorem dX6_pairs_26 : decode cX6_pairs 26 = .ok (.iload_n 3, 1) := by decide +kernel
theorem dX6_pairs_27 : decode cX6_pairs 27 = .ok (.iconst 0, 1) := by decide +kernel
theorem dX6_pairs_28 : decode cX6_pairs 28 = .ok (.invokevirtual 169, 3) := by decide +kernel
theorem dX6_pairs_31 : decode cX6_pairs 31 = .ok (.aload_n 0, 1) := by decide +kernel
theorem dX6_pairs_32 : decode cX6_pairs 32 = .ok (.aload_n 0, 1) := by decide +kernel
theorem dX6_pairs_33 : decode cX6_pairs 33 = .ok (.getfield 44, 3) := by decide +kernel
theorem dX6_pairs_36 : decode cX6_pairs 36 = .ok (.iload_n 2, 1) := by decide +kernel
theorem dX6_pairs_37 : decode cX6_pairs 37 = .ok (.invokevirtual 192, 3) := by decide +kernel
theorem dX6_pairs_40 : decode cX6_pairs 40 = .ok (.invokevirtual 77, 3) := by decide +kernel
theorem dX6_pairs_43 : decode cX6_pairs 43 = .ok (.ireturn, 1) := by decide +kernel
theorem dX6_pair_0 : decode cX6_pair 0 = .ok (.aload_n 0, 1) := by decide +kernel
theorem dX6_pair_1 : decode cX6_pair 1 = .ok (.iload_n 1, 1) := by decide +kernel
theorem dX6_pair_2 : decode cX6_pair 2 = .ok (.iload_n 2, 1) := by decide +kernel
theorem dX6_pair_3 : decode cX6_pair 3 = .ok (.iconst 0, 1) := by decide +kernel
theorem dX6_pair_4 : decode cX6_pair 4 = .ok (.iconst 0, 1) := by decide +kernel
theorem dX6_pair_5 : decode cX6_pair 5 = .ok (.iload_n 3, 1) := by decide +kernel
theorem dX6_pair_6 : decode cX6_pair 6 = .ok (.invokevirtual 165, 3) := by decide +kernel
theorem dX6_pair_9 : decode cX6_pair 9 = .ok (.istore 6, 2) := by decide +kernel
theorem dX6_pair_11 : decode cX6_pair 11 = .ok (.iload 6, 2) := by decide +kernel
theorem dX6_pair_13 : decode cX6_pair 13 = .ok (.ifCond .eq 10, 3) := by decide +kernel
theorem dX6_pair_16 : decode cX6_pair 16 = .ok (.aload_n 0, 1) := by decide +kernel
theorem dX6_pair_17 : decode cX6_pair 17 = .ok (.iload 6, 2) := by decide +kernel
theorem dX6_pair_19 : decode cX6_pair 19 = .ok (.invokevirtual 66, 3) := by decide +kernel
theorem dX6_pair_22 : decode cX6_pair 22 = .ok (.ireturn, 1) := by decide +kernel
theorem dX6_pair_23 : decode cX6_pair 23 = .ok (.aload_n 0, 1) := by decide +kernel
theorem dX6_pair_24 : decode cX6_pair 24 = .ok (.iload_n 1, 1) := by decide +kernel
theorem dX6_pair_25 : decode cX6_pair 25 = .ok (.iconst 0, 1) := by decide +kernel
theorem dX6_pair_26 : decode cX6_pair 26 = .ok (.iload_n 3, 1) := by decide +kernel
theorem dX6_pair_27 : decode cX6_pair 27 = .ok (.iconst 0, 1) := by decide +kernel
theorem dX6_pair_28 : decode cX6_pair 28 = .ok (.invokevirtual 169, 3) := by decide +kernel
theorem dX6_pair_31 : decode cX6_pair 31 = .ok (.iload 4, 2) := by decide +kernel
theorem dX6_pair_33 : decode cX6_pair 33 = .ok (.iconst 0, 1) := by decide +kernel
theorem dX6_pair_34 : decode cX6_pair 34 = .ok (.aload_n 0, 1) := by decide +kernel
theorem dX6_pair_35 : decode cX6_pair 35 = .ok (.getfield 44, 3) := by decide +kernel
theorem dX6_pair_38 : decode cX6_pair 38 = .ok (.iload_n 2, 1) := by decide +kernel
theorem dX6_pair_39 : decode cX6_pair 39 = .ok (.invokevirtual 192, 3) := by decide +kernel
theorem dX6_pair_42 : decode cX6_pair 42 = .ok (.iconst 1, 1) := by decide +kernel
theorem dX6_pair_43 : decode cX6_pair 43 = .ok (.isub, 1) := by decide +kernel
theorem dX6_pair_44 : decode cX6_pair 44 = .ok (.invokestatic 98, 3) := by decide +kernel
theorem dX6_pair_47 : decode cX6_pair 47 = .ok (.ifCond .ne 10, 3) := by decide +kernel
theorem dX6_pair_50 : decode cX6_pair 50 = .ok (.aload_n 0, 1) := by decide +kernel
theorem dX6_pair_51 : decode cX6_pair 51 = .ok (.bipush 7, 2) := by decide +kernel
theorem dX6_pair_53 : decode cX6_pair 53 = .ok (.invokevirtual 66, 3) := by decide +kernel
theorem dX6_pair_56 : decode cX6_pair 56 = .ok (.ireturn, 1) := by decide +kernel
theorem dX6_pair_57 : decode cX6_pair 57 = .ok (.aload_n 0, 1) := by decide +kernel
theorem dX6_pair_58 : decode cX6_pair 58 = .ok (.iload 5, 2) := by decide +kernel
theorem dX6_pair_60 : decode cX6_pair 60 = .ok (.ifCond .eq 15, 3) := by decide +kernel
theorem dX6_pair_63 : decode cX6_pair 63 = .ok (.aload_n 0, 1) := by decide +kernel
theorem dX6_pair_64 : decode cX6_pair 64 = .ok (.getfield 44, 3) := by decide +kernel
theorem dX6_pair_67 : decode cX6_pair 67 = .ok (.iload 4, 2) := by decide +kernel
theorem dX6_pair_69 : decode cX6_pair 69 = .ok (.invokevirtual 195, 3) := by decide +kernel
theorem dX6_pair_72 : decode cX6_pair 72 = .ok (.goto 12, 3) := by decide +kernel
theorem dX6_pair_75 : decode cX6_pair 75 = .ok (.aload_n 0, 1) := by decide +kernel
theorem dX6_pair_76 : decode cX6_pair 76 = .ok (.getfield 44, 3) := by decide +kernel
theorem dX6_pair_79 : decode cX6_pair 79 = .ok (.iload 4, 2) := by decide +kernel
theorem dX6_pair_81 : decode cX6_pair 81 = .ok (.invokevirtual 198, 3) := by decide +kernel
theorem dX6_pair_84 : decode cX6_pair 84 = .ok (.invokevirtual 77, 3) := by decide +kernel
theorem dX6_pair_87 : decode cX6_pair 87 = .ok (.ireturn, 1) := by decide +kernel
theorem dX6_reached_0 : decode cX6_reached 0 = .ok (.aload_n 0, 1) := by decide +kernel
theorem dX6_reached_1 : decode cX6_reached 1 = .ok (.iload_n 1, 1) := by decide +kernel
theorem dX6_reached_2 : decode cX6_reached 2 = .ok (.iload_n 1, 1) := by decide +kernel
theorem dX6_reached_3 : decode cX6_reached 3 = .ok (.iload_n 2, 1) := by decide +kernel
theorem dX6_reached_4 : decode cX6_reached 4 = .ok (.iload_n 3, 1) := by decide +kernel
theorem dX6_reached_5 : decode cX6_reached 5 = .ok (.iload 4, 2) := by decide +kernel
theorem dX6_reached_7 : decode cX6_reached 7 = .ok (.invokevirtual 201, 3) := by decide +kernel
theorem dX6_reached_10 : decode cX6_reached 10 = .ok (.istore 5, 2) := by decide +kernel
theorem dX6_reached_12 : decode cX6_reached 12 = .ok (.iload 5, 2) := by decide +kernel
theorem dX6_reached_14 : decode cX6_reached 14 = .ok (.ifCond .eq 10, 3) := by decide +kernel
theorem dX6_reached_17 : decode cX6_reached 17 = .ok (.aload_n 0, 1) := by decide +kernel
theorem dX6_reached_18 : decode cX6_reached 18 = .ok (.iload 5, 2) := by decide +kernel
theorem dX6_reached_20 : decode cX6_reached 20 = .ok (.invokevirtual 66, 3) := by decide +kernel
theorem dX6_reached_23 : decode cX6_reached 23 = .ok (.ireturn, 1) := by decide +kernel
theorem dX6_reached_24 : decode cX6_reached 24 = .ok (.aload_n 0, 1) := by decide +kernel
theorem dX6_reached_25 : decode cX6_reached 25 = .ok (.iload_n 1, 1) := by decide +kernel
theorem dX6_reached_26 : decode cX6_reached 26 = .ok (.iload_n 2, 1) := by decide +kernel
theorem dX6_reached_27 : decode cX6_reached 27 = .ok (.iload 4, 2) := by decide +kernel
theorem dX6_reached_29 : decode cX6_reached 29 = .ok (.iconst 0, 1) := by decide +kernel
theorem dX6_reached_30 : decode cX6_reached 30 = .ok (.invokevirtual 169, 3) := by decide +kernel
theorem dX6_reached_33 : decode cX6_reached 33 = .ok (.iconst 0, 1) := by decide +kernel
theorem dX6_reached_34 : decode cX6_reached 34 = .ok (.istore 6, 2) := by decide +kernel
theorem dX6_reached_36 : decode cX6_reached 36 = .ok (.iconst 0, 1) := by decide +kernel
theorem dX6_reached_37 : decode cX6_reached 37 = .ok (.istore 7, 2) := by decide +kernel
theorem dX6_reached_39 : decode cX6_reached 39 = .ok (.iload 7, 2) := by decide +kernel
theorem dX6_reached_41 : decode cX6_reached 41 = .ok (.aload_n 0, 1) := by decide +kernel
theorem dX6_reached_42 : decode cX6_reached 42 = .ok (.getfield 12, 3) := by decide +kernel
theorem dX6_reached_45 : decode cX6_reached 45 = .ok (.getfield 70, 3) := by decide +kernel
theorem dX6_reached_48 : decode cX6_reached 48 = .ok (.if_icmp .ge 23, 3) := by decide +kernel
theorem dX6_reached_51 : decode cX6_reached 51 = .ok (.aload_n 0, 1) := by decide +kernel
theorem dX6_reached_52 : decode cX6_reached 52 = .ok (.iload_n 1, 1) := by decide +kernel
theorem dX6_reached_53 : decode cX6_reached 53 = .ok (.iload 7, 2) := by decide +kernel
theorem dX6_reached_55 : decode cX6_reached 55 = .ok (.iload_n 3, 1) := by decide +kernel
theorem dX6_reached_56 : decode cX6_reached 56 = .ok (.invokevirtual 204, 3) := by decide +kernel
theorem dX6_reached_59 : decode cX6_reached 59 = .ok (.ifCond .eq 6, 3) := by decide +kernel
theorem dX6_reached_62 : decode cX6_reached 62 = .ok (.iinc 6 1, 3) := by decide +kernel
theorem dX6_reached_65 : decode cX6_reached 65 = .ok (.iinc 7 1, 3) := by decide +kernel
theorem dX6_reached_68 : decode cX6_reached 68 = .ok (.goto (-29), 3) := by decide +kernel
theorem dX6_reached_71 : decode cX6_reached 71 = .ok (.aload_n 0, 1) := by decide +kernel
theorem dX6_reached_72 : decode cX6_reached 72 = .ok (.iload 6, 2) := by decide +kernel
theorem dX6_reached_74 : decode cX6_reached 74 = .ok (.invokevirtual 77, 3) := by decide +kernel
theorem dX6_reached_77 : decode cX6_reached 77 = .ok (.ireturn, 1) := by decide +kernel
theorem dX6_isReached_0 : decode cX6_isReached 0 = .ok (.aload_n 0, 1) := by decide +kernel
theorem dX6_isReached_1 : decode cX6_isReached 1 = .ok (.iload_n 1, 1) := by decide +kernel
theorem dX6_isReached_2 : decode cX6_isReached 2 = .ok (.iload_n 2, 1) := by decide +kernel
theorem dX6_isReached_3 : decode cX6_isReached 3 = .ok (.iload_n 3, 1) := by decide +kernel
theorem dX6_isReached_4 : decode cX6_isReached 4 = .ok (.iload 4, 2) := by decide +kernel
theorem dX6_isReached_6 : decode cX6_isReached 6 = .ok (.iload 5, 2) := by decide +kernel
theorem dX6_isReached_8 : decode cX6_isReached 8 = .ok (.invokevirtual 201, 3) := by decide +kernel
theorem dX6_isReached_11 : decode cX6_isReached 11 = .ok (.istore 6, 2) := by decide +kernel
theorem dX6_isReached_13 : decode cX6_isReached 13 = .ok (.iload 6, 2) := by decide +kernel
theorem dX6_isReached_15 : decode cX6_isReached 15 = .ok (.ifCond .eq 10, 3) := by decide +kernel
theorem dX6_isReached_18 : decode cX6_isReached 18 = .ok (.aload_n 0, 1) := by decide +kernel
theorem dX6_isReached_19 : decode cX6_isReached 19 = .ok (.iload 6, 2) := by decide +kernel
theorem dX6_isReached_21 : decode cX6_isReached 21 = .ok (.invokevirtual 66, 3) := by decide +kernel
theorem dX6_isReached_24 : decode cX6_isReached 24 = .ok (.ireturn, 1) := by decide +kernel
theorem dX6_isReached_25 : decode cX6_isReached 25 = .ok (.aload_n 0, 1) := by decide +kernel
theorem dX6_isReached_26 : decode cX6_isReached 26 = .ok (.iload_n 1, 1) := by decide +kernel
theorem dX6_isReached_27 : decode cX6_isReached 27 = .ok (.iload_n 3, 1) := by decide +kernel
theorem dX6_isReached_28 : decode cX6_isReached 28 = .ok (.iload 5, 2) := by decide +kernel
theorem dX6_isReached_30 : decode cX6_isReached 30 = .ok (.iconst 0, 1) := by decide +kernel
theorem dX6_isReached_31 : decode cX6_isReached 31 = .ok (.invokevirtual 169, 3) := by decide +kernel
theorem dX6_isReached_34 : decode cX6_isReached 34 = .ok (.aload_n 0, 1) := by decide +kernel
theorem dX6_isReached_35 : decode cX6_isReached 35 = .ok (.aload_n 0, 1) := by decide +kernel
theorem dX6_isReached_36 : decode cX6_isReached 36 = .ok (.iload_n 1, 1) := by decide +kernel
theorem dX6_isReached_37 : decode cX6_isReached 37 = .ok (.iload_n 2, 1) := by decide +kernel
theorem dX6_isReached_38 : decode cX6_isReached 38 = .ok (.iload 4, 2) := by decide +kernel
theorem dX6_isReached_40 : decode cX6_isReached 40 = .ok (.invokevirtual 204, 3) := by decide +kernel
theorem dX6_isReached_43 : decode cX6_isReached 43 = .ok (.ifCond .eq 7, 3) := by decide +kernel
theorem dX6_isReached_46 : decode cX6_isReached 46 = .ok (.iconst 1, 1) := by decide +kernel
theorem dX6_isReached_47 : decode cX6_isReached 47 = .ok (.goto 4, 3) := by decide +kernel
theorem dX6_isReached_50 : decode cX6_isReached 50 = .ok (.iconst 0, 1) := by decide +kernel
theorem dX6_isReached_51 : decode cX6_isReached 51 = .ok (.invokevirtual 77, 3) := by decide +kernel
theorem dX6_isReached_54 : decode cX6_isReached 54 = .ok (.ireturn, 1) := by decide +kernel
theorem dX6_without_0 : decode cX6_without 0 = .ok (.aload_n 0, 1) := by decide +kernel
theorem dX6_without_1 : decode cX6_without 1 = .ok (.iload_n 1, 1) := by decide +kernel
theorem dX6_without_2 : decode cX6_without 2 = .ok (.iload_n 2, 1) := by decide +kernel
theorem dX6_without_3 : decode cX6_without 3 = .ok (.invokevirtual 95, 3) := by decide +kernel
theorem dX6_without_6 : decode cX6_without 6 = .ok (.ifCond .eq 12, 3) := by decide +kernel
theorem dX6_without_9 : decode cX6_without 9 = .ok (.aload_n 0, 1) := by decide +kernel
theorem dX6_without_10 : decode cX6_without 10 = .ok (.iload 4, 2) := by decide +kernel
theorem dX6_without_12 : decode cX6_without 12 = .ok (.invokevirtual 118, 3) := by decide +kernel
theorem dX6_without_15 : decode cX6_without 15 = .ok (.ifCond .ne 9, 3) := by decide +kernel
theorem dX6_without_18 : decode cX6_without 18 = .ok (.aload_n 0, 1) := by decide +kernel
theorem dX6_without_19 : decode cX6_without 19 = .ok (.iconst 1, 1) := by decide +kernel
theorem dX6_without_20 : decode cX6_without 20 = .ok (.invokevirtual 66, 3) := by decide +kernel
theorem dX6_without_23 : decode cX6_without 23 = .ok (.ireturn, 1) := by decide +kernel
theorem dX6_without_24 : decode cX6_without 24 = .ok (.iload_n 3, 1) := by decide +kernel
theorem dX6_without_25 : decode cX6_without 25 = .ok (.invokestatic 131, 3) := by decide +kernel
theorem dX6_without_28 : decode cX6_without 28 = .ok (.ifCond .ne 9, 3) := by decide +kernel
theorem dX6_without_31 : decode cX6_without 31 = .ok (.aload_n 0, 1) := by decide +kernel
theorem dX6_without_32 : decode cX6_without 32 = .ok (.iconst 2, 1) := by decide +kernel
theorem dX6_without_33 : decode cX6_without 33 = .ok (.invokevirtual 66, 3) := by decide +kernel
theorem dX6_without_36 : decode cX6_without 36 = .ok (.ireturn, 1) := by decide +kernel
theorem dX6_without_37 : decode cX6_without 37 = .ok (.aload_n 0, 1) := by decide +kernel
theorem dX6_without_38 : decode cX6_without 38 = .ok (.iload_n 1, 1) := by decide +kernel
theorem dX6_without_39 : decode cX6_without 39 = .ok (.iload_n 2, 1) := by decide +kernel
theorem dX6_without_40 : decode cX6_without 40 = .ok (.iload_n 3, 1) := by decide +kernel
theorem dX6_without_41 : decode cX6_without 41 = .ok (.iload 4, 2) := by decide +kernel
theorem dX6_without_43 : decode cX6_without 43 = .ok (.invokevirtual 207, 3) := by decide +kernel
theorem dX6_without_46 : decode cX6_without 46 = .ok (.istore 5, 2) := by decide +kernel
theorem dX6_without_48 : decode cX6_without 48 = .ok (.iload 5, 2) := by decide +kernel
theorem dX6_without_50 : decode cX6_without 50 = .ok (.sipush 5001, 3) := by decide +kernel
theorem dX6_without_53 : decode cX6_without 53 = .ok (.if_icmp .ne 11, 3) := by decide +kernel
theorem dX6_without_56 : decode cX6_without 56 = .ok (.aload_n 0, 1) := by decide +kernel
theorem dX6_without_57 : decode cX6_without 57 = .ok (.iconst 5, 1) := by decide +kernel
theorem dX6_without_58 : decode cX6_without 58 = .ok (.invokevirtual 66, 3) := by decide +kernel
theorem dX6_without_61 : decode cX6_without 61 = .ok (.goto 9, 3) := by decide +kernel
theorem dX6_without_64 : decode cX6_without 64 = .ok (.aload_n 0, 1) := by decide +kernel
theorem dX6_without_65 : decode cX6_without 65 = .ok (.iload 5, 2) := by decide +kernel
theorem dX6_without_67 : decode cX6_without 67 = .ok (.invokevirtual 77, 3) := by decide +kernel
theorem dX6_without_70 : decode cX6_without 70 = .ok (.ireturn, 1) := by decide +kernel
theorem dX6_weakest_0 : decode cX6_weakest 0 = .ok (.aload_n 0, 1) := by decide +kernel
theorem dX6_weakest_1 : decode cX6_weakest 1 = .ok (.iload_n 1, 1) := by decide +kernel
theorem dX6_weakest_2 : decode cX6_weakest 2 = .ok (.iload_n 2, 1) := by decide +kernel
theorem dX6_weakest_3 : decode cX6_weakest 3 = .ok (.iload_n 3, 1) := by decide +kernel
theorem dX6_weakest_4 : decode cX6_weakest 4 = .ok (.iload_n 3, 1) := by decide +kernel
theorem dX6_weakest_5 : decode cX6_weakest 5 = .ok (.aload_n 0, 1) := by decide +kernel
theorem dX6_weakest_6 : decode cX6_weakest 6 = .ok (.getfield 26, 3) := by decide +kernel
theorem dX6_weakest_9 : decode cX6_weakest 9 = .ok (.getfield 137, 3) := by decide +kernel
theorem dX6_weakest_12 : decode cX6_weakest 12 = .ok (.invokevirtual 165, 3) := by decide +kernel
theorem dX6_weakest_15 : decode cX6_weakest 15 = .ok (.istore 4, 2) := by decide +kernel
theorem dX6_weakest_17 : decode cX6_weakest 17 = .ok (.iload 4, 2) := by decide +kernel
theorem dX6_weakest_19 : decode cX6_weakest 19 = .ok (.ifCond .eq 10, 3) := by decide +kernel
theorem dX6_weakest_22 : decode cX6_weakest 22 = .ok (.aload_n 0, 1) := by decide +kernel
theorem dX6_weakest_23 : decode cX6_weakest 23 = .ok (.iload 4, 2) := by decide +kernel
theorem dX6_weakest_25 : decode cX6_weakest 25 = .ok (.invokevirtual 66, 3) := by decide +kernel
theorem dX6_weakest_28 : decode cX6_weakest 28 = .ok (.ireturn, 1) := by decide +kernel
theorem dX6_weakest_29 : decode cX6_weakest 29 = .ok (.aload_n 0, 1) := by decide +kernel
theorem dX6_weakest_30 : decode cX6_weakest 30 = .ok (.iload_n 1, 1) := by decide +kernel
theorem dX6_weakest_31 : decode cX6_weakest 31 = .ok (.iload_n 3, 1) := by decide +kernel
theorem dX6_weakest_32 : decode cX6_weakest 32 = .ok (.aload_n 0, 1) := by decide +kernel
theorem dX6_weakest_33 : decode cX6_weakest 33 = .ok (.getfield 26, 3) := by decide +kernel
theorem dX6_weakest_36 : decode cX6_weakest 36 = .ok (.getfield 137, 3) := by decide +kernel
theorem dX6_weakest_39 : decode cX6_weakest 39 = .ok (.iconst 1, 1) := by decide +kernel
theorem dX6_weakest_40 : decode cX6_weakest 40 = .ok (.invokevirtual 169, 3) := by decide +kernel
theorem dX6_weakest_43 : decode cX6_weakest 43 = .ok (.aload_n 0, 1) := by decide +kernel
theorem dX6_weakest_44 : decode cX6_weakest 44 = .ok (.getfield 44, 3) := by decide +kernel
theorem dX6_weakest_47 : decode cX6_weakest 47 = .ok (.iload_n 2, 1) := by decide +kernel
theorem dX6_weakest_48 : decode cX6_weakest 48 = .ok (.aload_n 0, 1) := by decide +kernel
theorem dX6_weakest_49 : decode cX6_weakest 49 = .ok (.getfield 52, 3) := by decide +kernel
theorem dX6_weakest_52 : decode cX6_weakest 52 = .ok (.invokevirtual 188, 3) := by decide +kernel
theorem dX6_weakest_55 : decode cX6_weakest 55 = .ok (.istore 5, 2) := by decide +kernel
theorem dX6_weakest_57 : decode cX6_weakest 57 = .ok (.iconst (-1), 1) := by decide +kernel
theorem dX6_weakest_58 : decode cX6_weakest 58 = .ok (.istore 6, 2) := by decide +kernel
theorem dX6_weakest_60 : decode cX6_weakest 60 = .ok (.iconst (-1), 1) := by decide +kernel
theorem dX6_weakest_61 : decode cX6_weakest 61 = .ok (.istore 7, 2) := by decide +kernel
theorem dX6_weakest_63 : decode cX6_weakest 63 = .ok (.iconst 0, 1) := by decide +kernel
theorem dX6_weakest_64 : decode cX6_weakest 64 = .ok (.istore 8, 2) := by decide +kernel
theorem dX6_weakest_66 : decode cX6_weakest 66 = .ok (.iload 8, 2) := by decide +kernel
theorem dX6_weakest_68 : decode cX6_weakest 68 = .ok (.aload_n 0, 1) := by decide +kernel
theorem dX6_weakest_69 : decode cX6_weakest 69 = .ok (.getfield 19, 3) := by decide +kernel
theorem dX6_weakest_72 : decode cX6_weakest 72 = .ok (.getfield 105, 3) := by decide +kernel
theorem dX6_weakest_75 : decode cX6_weakest 75 = .ok (.if_icmp .ge 50, 3) := by decide +kernel
theorem dX6_weakest_78 : decode cX6_weakest 78 = .ok (.aload_n 0, 1) := by decide +kernel
theorem dX6_weakest_79 : decode cX6_weakest 79 = .ok (.iload 8, 2) := by decide +kernel
theorem dX6_weakest_81 : decode cX6_weakest 81 = .ok (.iload 5, 2) := by decide +kernel
theorem dX6_weakest_83 : decode cX6_weakest 83 = .ok (.invokevirtual 211, 3) := by decide +kernel
theorem dX6_weakest_86 : decode cX6_weakest 86 = .ok (.ifCond .eq 15, 3) := by decide +kernel
theorem dX6_weakest_89 : decode cX6_weakest 89 = .ok (.aload_n 0, 1) := by decide +kernel
theorem dX6_weakest_90 : decode cX6_weakest 90 = .ok (.iload_n 1, 1) := by decide +kernel
theorem dX6_weakest_91 : decode cX6_weakest 91 = .ok (.iload_n 2, 1) := by decide +kernel
theorem dX6_weakest_92 : decode cX6_weakest 92 = .ok (.iload_n 3, 1) := by decide +kernel
theorem dX6_weakest_93 : decode cX6_weakest 93 = .ok (.iload 8, 2) := by decide +kernel
theorem dX6_weakest_95 : decode cX6_weakest 95 = .ok (.invokevirtual 207, 3) := by decide +kernel
theorem dX6_weakest_98 : decode cX6_weakest 98 = .ok (.goto 4, 3) := by decide +kernel
theorem dX6_weakest_101 : decode cX6_weakest 101 = .ok (.iconst (-1), 1) := by decide +kernel
theorem dX6_weakest_102 : decode cX6_weakest 102 = .ok (.istore 9, 2) := by decide +kernel
theorem dX6_weakest_104 : decode cX6_weakest 104 = .ok (.iload 9, 2) := by decide +kernel
theorem dX6_weakest_106 : decode cX6_weakest 106 = .ok (.iload 7, 2) := by decide +kernel
theorem dX6_weakest_108 : decode cX6_weakest 108 = .ok (.if_icmp .le 11, 3) := by decide +kernel
theorem dX6_weakest_111 : decode cX6_weakest 111 = .ok (.iload 9, 2) := by decide +kernel
theorem dX6_weakest_113 : decode cX6_weakest 113 = .ok (.istore 7, 2) := by decide +kernel
theorem dX6_weakest_115 : decode cX6_weakest 115 = .ok (.iload 8, 2) := by decide +kernel
theorem dX6_weakest_117 : decode cX6_weakest 117 = .ok (.istore 6, 2) := by decide +kernel
theorem dX6_weakest_119 : decode cX6_weakest 119 = .ok (.iinc 8 1, 3) := by decide +kernel
theorem dX6_weakest_122 : decode cX6_weakest 122 = .ok (.goto (-56), 3) := by decide +kernel
theorem dX6_weakest_125 : decode cX6_weakest 125 = .ok (.aload_n 0, 1) := by decide +kernel
theorem dX6_weakest_126 : decode cX6_weakest 126 = .ok (.iload 6, 2) := by decide +kernel
theorem dX6_weakest_128 : decode cX6_weakest 128 = .ok (.invokevirtual 176, 3) := by decide +kernel
theorem dX6_weakest_131 : decode cX6_weakest 131 = .ok (.ireturn, 1) := by decide +kernel
theorem dX6_stand_0 : decode cX6_stand 0 = .ok (.aload_n 0, 1) := by decide +kernel
theorem dX6_stand_1 : decode cX6_stand 1 = .ok (.iload_n 1, 1) := by decide +kernel
theorem dX6_stand_2 : decode cX6_stand 2 = .ok (.invokevirtual 154, 3) := by decide +kernel
theorem dX6_stand_5 : decode cX6_stand 5 = .ok (.ifCond .ne 10, 3) := by decide +kernel
theorem dX6_stand_8 : decode cX6_stand 8 = .ok (.aload_n 0, 1) := by decide +kernel
theorem dX6_stand_9 : decode cX6_stand 9 = .ok (.bipush 6, 2) := by decide +kernel
theorem dX6_stand_11 : decode cX6_stand 11 = .ok (.invokevirtual 66, 3) := by decide +kernel
theorem dX6_stand_14 : decode cX6_stand 14 = .ok (.ireturn, 1) := by decide +kernel
theorem dX6_stand_15 : decode cX6_stand 15 = .ok (.aload_n 0, 1) := by decide +kernel
theorem dX6_stand_16 : decode cX6_stand 16 = .ok (.getfield 35, 3) := by decide +kernel
theorem dX6_stand_19 : decode cX6_stand 19 = .ok (.iload_n 1, 1) := by decide +kernel
theorem dX6_stand_20 : decode cX6_stand 20 = .ok (.invokevirtual 157, 3) := by decide +kernel
theorem dX6_stand_23 : decode cX6_stand 23 = .ok (.aload_n 0, 1) := by decide +kernel
theorem dX6_stand_24 : decode cX6_stand 24 = .ok (.aload_n 0, 1) := by decide +kernel
theorem dX6_stand_25 : decode cX6_stand 25 = .ok (.getfield 35, 3) := by decide +kernel
theorem dX6_stand_28 : decode cX6_stand 28 = .ok (.getfield 214, 3) := by decide +kernel
theorem dX6_stand_31 : decode cX6_stand 31 = .ok (.invokevirtual 77, 3) := by decide +kernel
theorem dX6_stand_34 : decode cX6_stand 34 = .ok (.ireturn, 1) := by decide +kernel
theorem dX6_answer_0 : decode cX6_answer 0 = .ok (.aload_n 0, 1) := by decide +kernel
theorem dX6_answer_1 : decode cX6_answer 1 = .ok (.iconst 0, 1) := by decide +kernel
theorem dX6_answer_2 : decode cX6_answer 2 = .ok (.putfield 59, 3) := by decide +kernel
theorem dX6_answer_5 : decode cX6_answer 5 = .ok (.iload_n 1, 1) := by decide +kernel
theorem dX6_answer_6 : decode cX6_answer 6 = .ok (.ireturn, 1) := by decide +kernel
theorem dX6_refuse_0 : decode cX6_refuse 0 = .ok (.aload_n 0, 1) := by decide +kernel
theorem dX6_refuse_1 : decode cX6_refuse 1 = .ok (.iload_n 1, 1) := by decide +kernel
theorem dX6_refuse_2 : decode cX6_refuse 2 = .ok (.putfield 59, 3) := by decide +kernel
theorem dX6_refuse_5 : decode cX6_refuse 5 = .ok (.iconst (-1), 1) := by decide +kernel
theorem dX6_refuse_6 : decode cX6_refuse 6 = .ok (.ireturn, 1) := by decide +kernel
theorem dX6_answerOfWay_0 : decode cX6_answerOfWay 0 = .ok (.iload_n 1, 1) := by decide +kernel
theorem dX6_answerOfWay_1 : decode cX6_answerOfWay 1 = .ok (.iconst (-1), 1) := by decide +kernel
theorem dX6_answerOfWay_2 : decode cX6_answerOfWay 2 = .ok (.if_icmp .ne 11, 3) := by decide +kernel
theorem dX6_answerOfWay_5 : decode cX6_answerOfWay 5 = .ok (.aload_n 0, 1) := by decide +kernel
theorem dX6_answerOfWay_6 : decode cX6_answerOfWay 6 = .ok (.iconst 5, 1) := by decide +kernel
theorem dX6_answerOfWay_7 : decode cX6_answerOfWay 7 = .ok (.invokevirtual 66, 3) := by decide +kernel
theorem dX6_answerOfWay_10 : decode cX6_answerOfWay 10 = .ok (.goto 8, 3) := by decide +kernel
theorem dX6_answerOfWay_13 : decode cX6_answerOfWay 13 = .ok (.aload_n 0, 1) := by decide +kernel
theorem dX6_answerOfWay_14 : decode cX6_answerOfWay 14 = .ok (.iload_n 1, 1) := by decide +kernel
theorem dX6_answerOfWay_15 : decode cX6_answerOfWay 15 = .ok (.invokevirtual 77, 3) := by decide +kernel
theorem dX6_answerOfWay_18 : decode cX6_answerOfWay 18 = .ok (.ireturn, 1) := by decide +kernel
theorem dX6_agree_0 : decode cX6_agree 0 = .ok (.aload_n 0, 1) := by decide +kernel
theorem dX6_agree_1 : decode cX6_agree 1 = .ok (.iconst 0, 1) := by decide +kernel
theorem dX6_agree_2 : decode cX6_agree 2 = .ok (.putfield 59, 3) := by decide +kernel
theorem dX6_agree_5 : decode cX6_agree 5 = .ok (.iconst 1, 1) := by decide +kernel
theorem dX6_agree_6 : decode cX6_agree 6 = .ok (.ireturn, 1) := by decide +kernel
theorem dX6_deny_0 : decode cX6_deny 0 = .ok (.aload_n 0, 1) := by decide +kernel
theorem dX6_deny_1 : decode cX6_deny 1 = .ok (.iload_n 1, 1) := by decide +kernel
theorem dX6_deny_2 : decode cX6_deny 2 = .ok (.putfield 59, 3) := by decide +kernel
theorem dX6_deny_5 : decode cX6_deny 5 = .ok (.iconst 0, 1) := by decide +kernel
theorem dX6_deny_6 : decode cX6_deny 6 = .ok (.ireturn, 1) := by decide +kernel
theorem dX6_explore_0 : decode cX6_explore 0 = .ok (.aload_n 0, 1) := by decide +kernel
theorem dX6_explore_1 : decode cX6_explore 1 = .ok (.getfield 35, 3) := by decide +kernel
theorem dX6_explore_4 : decode cX6_explore 4 = .ok (.iload_n 3, 1) := by decide +kernel
theorem dX6_explore_5 : decode cX6_explore 5 = .ok (.invokevirtual 157, 3) := by decide +kernel
theorem dX6_explore_8 : decode cX6_explore 8 = .ok (.aload_n 0, 1) := by decide +kernel
theorem dX6_explore_9 : decode cX6_explore 9 = .ok (.getfield 44, 3) := by decide +kernel
theorem dX6_explore_12 : decode cX6_explore 12 = .ok (.iload_n 1, 1) := by decide +kernel
theorem dX6_explore_13 : decode cX6_explore 13 = .ok (.iload_n 2, 1) := by decide +kernel
theorem dX6_explore_14 : decode cX6_explore 14 = .ok (.iconst (-1), 1) := by decide +kernel
theorem dX6_explore_15 : decode cX6_explore 15 = .ok (.iload 4, 2) := by decide +kernel
theorem dX6_explore_17 : decode cX6_explore 17 = .ok (.invokevirtual 215, 3) := by decide +kernel
theorem dX6_explore_20 : decode cX6_explore 20 = .ok (.return_, 1) := by decide +kernel
theorem dX6_isFound_0 : decode cX6_isFound 0 = .ok (.iload_n 1, 1) := by decide +kernel
theorem dX6_isFound_1 : decode cX6_isFound 1 = .ok (.iload_n 2, 1) := by decide +kernel
theorem dX6_isFound_2 : decode cX6_isFound 2 = .ok (.if_icmp .eq 15, 3) := by decide +kernel
theorem dX6_isFound_5 : decode cX6_isFound 5 = .ok (.aload_n 0, 1) := by decide +kernel
theorem dX6_isFound_6 : decode cX6_isFound 6 = .ok (.getfield 44, 3) := by decide +kernel
theorem dX6_isFound_9 : decode cX6_isFound 9 = .ok (.iload_n 2, 1) := by decide +kernel
theorem dX6_isFound_10 : decode cX6_isFound 10 = .ok (.iload_n 3, 1) := by decide +kernel
theorem dX6_isFound_11 : decode cX6_isFound 11 = .ok (.invokevirtual 218, 3) := by decide +kernel
theorem dX6_isFound_14 : decode cX6_isFound 14 = .ok (.ifCond .eq 7, 3) := by decide +kernel
theorem dX6_isFound_17 : decode cX6_isFound 17 = .ok (.iconst 1, 1) := by decide +kernel
theorem dX6_isFound_18 : decode cX6_isFound 18 = .ok (.goto 4, 3) := by decide +kernel
theorem dX6_isFound_21 : decode cX6_isFound 21 = .ok (.iconst 0, 1) := by decide +kernel
theorem dX6_isFound_22 : decode cX6_isFound 22 = .ok (.ireturn, 1) := by decide +kernel
theorem dX6_comingWithout_0 : decode cX6_comingWithout 0 = .ok (.aload_n 0, 1) := by decide +kernel
theorem dX6_comingWithout_1 : decode cX6_comingWithout 1 = .ok (.getfield 35, 3) := by decide +kernel
theorem dX6_comingWithout_4 : decode cX6_comingWithout 4 = .ok (.aload_n 0, 1) := by decide +kernel
theorem dX6_comingWithout_5 : decode cX6_comingWithout 5 = .ok (.getfield 26, 3) := by decide +kernel
theorem dX6_comingWithout_8 : decode cX6_comingWithout 8 = .ok (.getfield 137, 3) := by decide +kernel
theorem dX6_comingWithout_11 : decode cX6_comingWithout 11 = .ok (.invokevirtual 157, 3) := by decide +kernel
theorem dX6_comingWithout_14 : decode cX6_comingWithout 14 = .ok (.aload_n 0, 1) := by decide +kernel
theorem dX6_comingWithout_15 : decode cX6_comingWithout 15 = .ok (.getfield 44, 3) := by decide +kernel
theorem dX6_comingWithout_18 : decode cX6_comingWithout 18 = .ok (.iload_n 1, 1) := by decide +kernel
theorem dX6_comingWithout_19 : decode cX6_comingWithout 19 = .ok (.iload_n 3, 1) := by decide +kernel
theorem dX6_comingWithout_20 : decode cX6_comingWithout 20 = .ok (.iload 4, 2) := by decide +kernel
theorem dX6_comingWithout_22 : decode cX6_comingWithout 22 = .ok (.iconst 0, 1) := by decide +kernel
theorem dX6_comingWithout_23 : decode cX6_comingWithout 23 = .ok (.invokevirtual 215, 3) := by decide +kernel
theorem dX6_comingWithout_26 : decode cX6_comingWithout 26 = .ok (.aload_n 0, 1) := by decide +kernel
theorem dX6_comingWithout_27 : decode cX6_comingWithout 27 = .ok (.getfield 44, 3) := by decide +kernel
theorem dX6_comingWithout_30 : decode cX6_comingWithout 30 = .ok (.iload_n 2, 1) := by decide +kernel
theorem dX6_comingWithout_31 : decode cX6_comingWithout 31 = .ok (.invokevirtual 173, 3) := by decide +kernel
theorem dX6_comingWithout_34 : decode cX6_comingWithout 34 = .ok (.istore 5, 2) := by decide +kernel
theorem dX6_comingWithout_36 : decode cX6_comingWithout 36 = .ok (.iload 5, 2) := by decide +kernel
theorem dX6_comingWithout_38 : decode cX6_comingWithout 38 = .ok (.iconst (-1), 1) := by decide +kernel
theorem dX6_comingWithout_39 : decode cX6_comingWithout 39 = .ok (.if_icmp .ne 9, 3) := by decide +kernel
theorem dX6_comingWithout_42 : decode cX6_comingWithout 42 = .ok (.sipush 5001, 3) := by decide +kernel
theorem dX6_comingWithout_45 : decode cX6_comingWithout 45 = .ok (.goto 5, 3) := by decide +kernel
theorem dX6_comingWithout_48 : decode cX6_comingWithout 48 = .ok (.iload 5, 2) := by decide +kernel
theorem dX6_comingWithout_50 : decode cX6_comingWithout 50 = .ok (.ireturn, 1) := by decide +kernel
theorem dX6_isInSpareRow_0 : decode cX6_isInSpareRow 0 = .ok (.iconst 0, 1) := by decide +kernel
theorem dX6_isInSpareRow_1 : decode cX6_isInSpareRow 1 = .ok (.istore_n 3, 1) := by decide +kernel
theorem dX6_isInSpareRow_2 : decode cX6_isInSpareRow 2 = .ok (.iload_n 3, 1) := by decide +kernel
theorem dX6_isInSpareRow_3 : decode cX6_isInSpareRow 3 = .ok (.iload_n 2, 1) := by decide +kernel
theorem dX6_isInSpareRow_4 : decode cX6_isInSpareRow 4 = .ok (.if_icmp .ge 23, 3) := by decide +kernel
theorem dX6_isInSpareRow_7 : decode cX6_isInSpareRow 7 = .ok (.aload_n 0, 1) := by decide +kernel
theorem dX6_isInSpareRow_8 : decode cX6_isInSpareRow 8 = .ok (.getfield 52, 3) := by decide +kernel
theorem dX6_isInSpareRow_11 : decode cX6_isInSpareRow 11 = .ok (.iconst 2, 1) := by decide +kernel
theorem dX6_isInSpareRow_12 : decode cX6_isInSpareRow 12 = .ok (.iload_n 3, 1) := by decide +kernel
theorem dX6_isInSpareRow_13 : decode cX6_isInSpareRow 13 = .ok (.imul, 1) := by decide +kernel
theorem dX6_isInSpareRow_14 : decode cX6_isInSpareRow 14 = .ok (.iaload, 1) := by decide +kernel
theorem dX6_isInSpareRow_15 : decode cX6_isInSpareRow 15 = .ok (.iload_n 1, 1) := by decide +kernel
theorem dX6_isInSpareRow_16 : decode cX6_isInSpareRow 16 = .ok (.if_icmp .ne 5, 3) := by decide +kernel
theorem dX6_isInSpareRow_19 : decode cX6_isInSpareRow 19 = .ok (.iconst 1, 1) := by decide +kernel
theorem dX6_isInSpareRow_20 : decode cX6_isInSpareRow 20 = .ok (.ireturn, 1) := by decide +kernel
theorem dX6_isInSpareRow_21 : decode cX6_isInSpareRow 21 = .ok (.iinc 3 1, 3) := by decide +kernel
theorem dX6_isInSpareRow_24 : decode cX6_isInSpareRow 24 = .ok (.goto (-22), 3) := by decide +kernel
theorem dX6_isInSpareRow_27 : decode cX6_isInSpareRow 27 = .ok (.iconst 0, 1) := by decide +kernel
theorem dX6_isInSpareRow_28 : decode cX6_isInSpareRow 28 = .ok (.ireturn, 1) := by decide +kernel
theorem dX6_wayFault_0 : decode cX6_wayFault 0 = .ok (.aload_n 0, 1) := by decide +kernel
theorem dX6_wayFault_1 : decode cX6_wayFault 1 = .ok (.iload_n 1, 1) := by decide +kernel
theorem dX6_wayFault_2 : decode cX6_wayFault 2 = .ok (.iload_n 2, 1) := by decide +kernel
theorem dX6_wayFault_3 : decode cX6_wayFault 3 = .ok (.invokevirtual 95, 3) := by decide +kernel
theorem dX6_wayFault_6 : decode cX6_wayFault 6 = .ok (.ifCond .eq 17, 3) := by decide +kernel
theorem dX6_wayFault_9 : decode cX6_wayFault 9 = .ok (.aload_n 0, 1) := by decide +kernel
theorem dX6_wayFault_10 : decode cX6_wayFault 10 = .ok (.iload_n 1, 1) := by decide +kernel
theorem dX6_wayFault_11 : decode cX6_wayFault 11 = .ok (.iload_n 2, 1) := by decide +kernel
theorem dX6_wayFault_12 : decode cX6_wayFault 12 = .ok (.iload_n 3, 1) := by decide +kernel
theorem dX6_wayFault_13 : decode cX6_wayFault 13 = .ok (.iload 4, 2) := by decide +kernel
theorem dX6_wayFault_15 : decode cX6_wayFault 15 = .ok (.iload 5, 2) := by decide +kernel
theorem dX6_wayFault_17 : decode cX6_wayFault 17 = .ok (.invokevirtual 201, 3) := by decide +kernel
theorem dX6_wayFault_20 : decode cX6_wayFault 20 = .ok (.goto 4, 3) := by decide +kernel
theorem dX6_wayFault_23 : decode cX6_wayFault 23 = .ok (.iconst 1, 1) := by decide +kernel
theorem dX6_wayFault_24 : decode cX6_wayFault 24 = .ok (.ireturn, 1) := by decide +kernel
theorem dX6_reachFault_0 : decode cX6_reachFault 0 = .ok (.aload_n 0, 1) := by decide +kernel
theorem dX6_reachFault_1 : decode cX6_reachFault 1 = .ok (.iload_n 1, 1) := by decide +kernel
theorem dX6_reachFault_2 : decode cX6_reachFault 2 = .ok (.invokevirtual 80, 3) := by decide +kernel
theorem dX6_reachFault_5 : decode cX6_reachFault 5 = .ok (.ifCond .eq 11, 3) := by decide +kernel
theorem dX6_reachFault_8 : decode cX6_reachFault 8 = .ok (.aload_n 0, 1) := by decide +kernel
theorem dX6_reachFault_9 : decode cX6_reachFault 9 = .ok (.iload_n 2, 1) := by decide +kernel
theorem dX6_reachFault_10 : decode cX6_reachFault 10 = .ok (.invokevirtual 80, 3) := by decide +kernel
theorem dX6_reachFault_13 : decode cX6_reachFault 13 = .ok (.ifCond .ne 5, 3) := by decide +kernel
theorem dX6_reachFault_16 : decode cX6_reachFault 16 = .ok (.iconst 1, 1) := by decide +kernel
theorem dX6_reachFault_17 : decode cX6_reachFault 17 = .ok (.ireturn, 1) := by decide +kernel
theorem dX6_reachFault_18 : decode cX6_reachFault 18 = .ok (.iload_n 3, 1) := by decide +kernel
theorem dX6_reachFault_19 : decode cX6_reachFault 19 = .ok (.invokestatic 131, 3) := by decide +kernel
theorem dX6_reachFault_22 : decode cX6_reachFault 22 = .ok (.ifCond .eq 11, 3) := by decide +kernel
theorem dX6_reachFault_25 : decode cX6_reachFault 25 = .ok (.iload 4, 2) := by decide +kernel
theorem dX6_reachFault_27 : decode cX6_reachFault 27 = .ok (.invokestatic 131, 3) := by decide +kernel
theorem dX6_reachFault_30 : decode cX6_reachFault 30 = .ok (.ifCond .ne 5, 3) := by decide +kernel
theorem dX6_reachFault_33 : decode cX6_reachFault 33 = .ok (.iconst 2, 1) := by decide +kernel
theorem dX6_reachFault_34 : decode cX6_reachFault 34 = .ok (.ireturn, 1) := by decide +kernel
theorem dX6_reachFault_35 : decode cX6_reachFault 35 = .ok (.aload_n 0, 1) := by decide +kernel
theorem dX6_reachFault_36 : decode cX6_reachFault 36 = .ok (.iload 5, 2) := by decide +kernel
theorem dX6_reachFault_38 : decode cX6_reachFault 38 = .ok (.invokevirtual 154, 3) := by decide +kernel
theorem dX6_reachFault_41 : decode cX6_reachFault 41 = .ok (.ifCond .eq 7, 3) := by decide +kernel
theorem dX6_reachFault_44 : decode cX6_reachFault 44 = .ok (.iconst 0, 1) := by decide +kernel
theorem dX6_reachFault_45 : decode cX6_reachFault 45 = .ok (.goto 5, 3) := by decide +kernel
theorem dX6_reachFault_48 : decode cX6_reachFault 48 = .ok (.bipush 6, 2) := by decide +kernel
theorem dX6_reachFault_50 : decode cX6_reachFault 50 = .ok (.ireturn, 1) := by decide +kernel
theorem dX6_isNode_0 : decode cX6_isNode 0 = .ok (.iload_n 1, 1) := by decide +kernel
theorem dX6_isNode_1 : decode cX6_isNode 1 = .ok (.iconst 0, 1) := by decide +kernel
theorem dX6_isNode_2 : decode cX6_isNode 2 = .ok (.aload_n 0, 1) := by decide +kernel
theorem dX6_isNode_3 : decode cX6_isNode 3 = .ok (.getfield 12, 3) := by decide +kernel
theorem dX6_isNode_6 : decode cX6_isNode 6 = .ok (.getfield 70, 3) := by decide +kernel
theorem dX6_isNode_9 : decode cX6_isNode 9 = .ok (.iconst 1, 1) := by decide +kernel
theorem dX6_isNode_10 : decode cX6_isNode 10 = .ok (.isub, 1) := by decide +kernel
theorem dX6_isNode_11 : decode cX6_isNode 11 = .ok (.invokestatic 98, 3) := by decide +kernel
theorem dX6_isNode_14 : decode cX6_isNode 14 = .ok (.ireturn, 1) := by decide +kernel
theorem dX6_areEnds_0 : decode cX6_areEnds 0 = .ok (.aload_n 0, 1) := by decide +kernel
theorem dX6_areEnds_1 : decode cX6_areEnds 1 = .ok (.iload_n 1, 1) := by decide +kernel
theorem dX6_areEnds_2 : decode cX6_areEnds 2 = .ok (.invokevirtual 80, 3) := by decide +kernel
theorem dX6_areEnds_5 : decode cX6_areEnds 5 = .ok (.ifCond .eq 20, 3) := by decide +kernel
theorem dX6_areEnds_8 : decode cX6_areEnds 8 = .ok (.aload_n 0, 1) := by decide +kernel
theorem dX6_areEnds_9 : decode cX6_areEnds 9 = .ok (.iload_n 2, 1) := by decide +kernel
theorem dX6_areEnds_10 : decode cX6_areEnds 10 = .ok (.invokevirtual 80, 3) := by decide +kernel
theorem dX6_areEnds_13 : decode cX6_areEnds 13 = .ok (.ifCond .eq 12, 3) := by decide +kernel
theorem dX6_areEnds_16 : decode cX6_areEnds 16 = .ok (.iload_n 1, 1) := by decide +kernel
theorem dX6_areEnds_17 : decode cX6_areEnds 17 = .ok (.iload_n 2, 1) := by decide +kernel
theorem dX6_areEnds_18 : decode cX6_areEnds 18 = .ok (.if_icmp .eq 7, 3) := by decide +kernel
theorem dX6_areEnds_21 : decode cX6_areEnds 21 = .ok (.iconst 1, 1) := by decide +kernel
theorem dX6_areEnds_22 : decode cX6_areEnds 22 = .ok (.goto 4, 3) := by decide +kernel
theorem dX6_areEnds_25 : decode cX6_areEnds 25 = .ok (.iconst 0, 1) := by decide +kernel
theorem dX6_areEnds_26 : decode cX6_areEnds 26 = .ok (.ireturn, 1) := by decide +kernel
theorem dX6_isLine_0 : decode cX6_isLine 0 = .ok (.iload_n 1, 1) := by decide +kernel
theorem dX6_isLine_1 : decode cX6_isLine 1 = .ok (.iconst 0, 1) := by decide +kernel
theorem dX6_isLine_2 : decode cX6_isLine 2 = .ok (.aload_n 0, 1) := by decide +kernel
theorem dX6_isLine_3 : decode cX6_isLine 3 = .ok (.getfield 19, 3) := by decide +kernel
theorem dX6_isLine_6 : decode cX6_isLine 6 = .ok (.getfield 105, 3) := by decide +kernel
theorem dX6_isLine_9 : decode cX6_isLine 9 = .ok (.iconst 1, 1) := by decide +kernel
theorem dX6_isLine_10 : decode cX6_isLine 10 = .ok (.isub, 1) := by decide +kernel
theorem dX6_isLine_11 : decode cX6_isLine 11 = .ok (.invokestatic 98, 3) := by decide +kernel
theorem dX6_isLine_14 : decode cX6_isLine 14 = .ok (.ireturn, 1) := by decide +kernel
theorem dX6_isChange_0 : decode cX6_isChange 0 = .ok (.iload_n 1, 1) := by decide +kernel
theorem dX6_isChange_1 : decode cX6_isChange 1 = .ok (.iconst 0, 1) := by decide +kernel
theorem dX6_isChange_2 : decode cX6_isChange 2 = .ok (.aload_n 0, 1) := by decide +kernel
theorem dX6_isChange_3 : decode cX6_isChange 3 = .ok (.getfield 26, 3) := by decide +kernel
theorem dX6_isChange_6 : decode cX6_isChange 6 = .ok (.getfield 137, 3) := by decide +kernel
theorem dX6_isChange_9 : decode cX6_isChange 9 = .ok (.invokestatic 98, 3) := by decide +kernel
theorem dX6_isChange_12 : decode cX6_isChange 12 = .ok (.ireturn, 1) := by decide +kernel
theorem dX6_isBetween_0 : decode cX6_isBetween 0 = .ok (.iload_n 0, 1) := by decide +kernel
theorem dX6_isBetween_1 : decode cX6_isBetween 1 = .ok (.iload_n 1, 1) := by decide +kernel
theorem dX6_isBetween_2 : decode cX6_isBetween 2 = .ok (.if_icmp .lt 12, 3) := by decide +kernel
theorem dX6_isBetween_5 : decode cX6_isBetween 5 = .ok (.iload_n 0, 1) := by decide +kernel
theorem dX6_isBetween_6 : decode cX6_isBetween 6 = .ok (.iload_n 2, 1) := by decide +kernel
theorem dX6_isBetween_7 : decode cX6_isBetween 7 = .ok (.if_icmp .gt 7, 3) := by decide +kernel
theorem dX6_isBetween_10 : decode cX6_isBetween 10 = .ok (.iconst 1, 1) := by decide +kernel
theorem dX6_isBetween_11 : decode cX6_isBetween 11 = .ok (.goto 4, 3) := by decide +kernel
theorem dX6_isBetween_14 : decode cX6_isBetween 14 = .ok (.iconst 0, 1) := by decide +kernel
theorem dX6_isBetween_15 : decode cX6_isBetween 15 = .ok (.ireturn, 1) := by decide +kernel
theorem dX6_isTick_0 : decode cX6_isTick 0 = .ok (.iload_n 0, 1) := by decide +kernel
theorem dX6_isTick_1 : decode cX6_isTick 1 = .ok (.iconst 0, 1) := by decide +kernel
theorem dX6_isTick_2 : decode cX6_isTick 2 = .ok (.sipush 5000, 3) := by decide +kernel
theorem dX6_isTick_5 : decode cX6_isTick 5 = .ok (.invokestatic 98, 3) := by decide +kernel
theorem dX6_isTick_8 : decode cX6_isTick 8 = .ok (.ireturn, 1) := by decide +kernel
theorem dX6_areWaits_0 : decode cX6_areWaits 0 = .ok (.iload_n 0, 1) := by decide +kernel
theorem dX6_areWaits_1 : decode cX6_areWaits 1 = .ok (.iconst 0, 1) := by decide +kernel
theorem dX6_areWaits_2 : decode cX6_areWaits 2 = .ok (.sipush 200, 3) := by decide +kernel
theorem dX6_areWaits_5 : decode cX6_areWaits 5 = .ok (.invokestatic 98, 3) := by decide +kernel
theorem dX6_areWaits_8 : decode cX6_areWaits 8 = .ok (.ifCond .eq 23, 3) := by decide +kernel
theorem dX6_areWaits_11 : decode cX6_areWaits 11 = .ok (.iload_n 1, 1) := by decide +kernel
theorem dX6_areWaits_12 : decode cX6_areWaits 12 = .ok (.iconst (-1), 1) := by decide +kernel
theorem dX6_areWaits_13 : decode cX6_areWaits 13 = .ok (.if_icmp .eq 14, 3) := by decide +kernel
theorem dX6_areWaits_16 : decode cX6_areWaits 16 = .ok (.iload_n 1, 1) := by decide +kernel
theorem dX6_areWaits_17 : decode cX6_areWaits 17 = .ok (.iload_n 0, 1) := by decide +kernel
theorem dX6_areWaits_18 : decode cX6_areWaits 18 = .ok (.sipush 5000, 3) := by decide +kernel
theorem dX6_areWaits_21 : decode cX6_areWaits 21 = .ok (.invokestatic 98, 3) := by decide +kernel
theorem dX6_areWaits_24 : decode cX6_areWaits 24 = .ok (.ifCond .eq 7, 3) := by decide +kernel
theorem dX6_areWaits_27 : decode cX6_areWaits 27 = .ok (.iconst 1, 1) := by decide +kernel
theorem dX6_areWaits_28 : decode cX6_areWaits 28 = .ok (.goto 4, 3) := by decide +kernel
theorem dX6_areWaits_31 : decode cX6_areWaits 31 = .ok (.iconst 0, 1) := by decide +kernel
theorem dX6_areWaits_32 : decode cX6_areWaits 32 = .ok (.ireturn, 1) := by decide +kernel
theorem dX6_isPlan_0 : decode cX6_isPlan 0 = .ok (.iload_n 0, 1) := by decide +kernel
theorem dX6_isPlan_1 : decode cX6_isPlan 1 = .ok (.ifCond .ne 5, 3) := by decide +kernel
theorem dX6_isPlan_4 : decode cX6_isPlan 4 = .ok (.iconst 1, 1) := by decide +kernel
theorem dX6_isPlan_5 : decode cX6_isPlan 5 = .ok (.ireturn, 1) := by decide +kernel
theorem dX6_isPlan_6 : decode cX6_isPlan 6 = .ok (.iload_n 0, 1) := by decide +kernel
theorem dX6_isPlan_7 : decode cX6_isPlan 7 = .ok (.iconst 1, 1) := by decide +kernel
theorem dX6_isPlan_8 : decode cX6_isPlan 8 = .ok (.if_icmp .eq 10, 3) := by decide +kernel
theorem dX6_isPlan_11 : decode cX6_isPlan 11 = .ok (.iload_n 0, 1) := by decide +kernel
theorem dX6_isPlan_12 : decode cX6_isPlan 12 = .ok (.iconst 2, 1) := by decide +kernel
theorem dX6_isPlan_13 : decode cX6_isPlan 13 = .ok (.if_icmp .eq 5, 3) := by decide +kernel
theorem dX6_isPlan_16 : decode cX6_isPlan 16 = .ok (.iconst 0, 1) := by decide +kernel
theorem dX6_isPlan_17 : decode cX6_isPlan 17 = .ok (.ireturn, 1) := by decide +kernel
theorem dX6_isPlan_18 : decode cX6_isPlan 18 = .ok (.iload_n 1, 1) := by decide +kernel
theorem dX6_isPlan_19 : decode cX6_isPlan 19 = .ok (.iconst 2, 1) := by decide +kernel
theorem dX6_isPlan_20 : decode cX6_isPlan 20 = .ok (.bipush 60, 2) := by decide +kernel
theorem dX6_isPlan_22 : decode cX6_isPlan 22 = .ok (.invokestatic 98, 3) := by decide +kernel
theorem dX6_isPlan_25 : decode cX6_isPlan 25 = .ok (.ifCond .eq 23, 3) := by decide +kernel
theorem dX6_isPlan_28 : decode cX6_isPlan 28 = .ok (.iload_n 0, 1) := by decide +kernel
theorem dX6_isPlan_29 : decode cX6_isPlan 29 = .ok (.iconst 2, 1) := by decide +kernel
theorem dX6_isPlan_30 : decode cX6_isPlan 30 = .ok (.if_icmp .eq 14, 3) := by decide +kernel
theorem dX6_isPlan_33 : decode cX6_isPlan 33 = .ok (.iload_n 2, 1) := by decide +kernel
theorem dX6_isPlan_34 : decode cX6_isPlan 34 = .ok (.iconst 1, 1) := by decide +kernel
theorem dX6_isPlan_35 : decode cX6_isPlan 35 = .ok (.sipush 500, 3) := by decide +kernel
theorem dX6_isPlan_38 : decode cX6_isPlan 38 = .ok (.invokestatic 98, 3) := by decide +kernel
theorem dX6_isPlan_41 : decode cX6_isPlan 41 = .ok (.ifCond .eq 7, 3) := by decide +kernel
theorem dX6_isPlan_44 : decode cX6_isPlan 44 = .ok (.iconst 1, 1) := by decide +kernel
theorem dX6_isPlan_45 : decode cX6_isPlan 45 = .ok (.goto 4, 3) := by decide +kernel
theorem dX6_isPlan_48 : decode cX6_isPlan 48 = .ok (.iconst 0, 1) := by decide +kernel
theorem dX6_isPlan_49 : decode cX6_isPlan 49 = .ok (.ireturn, 1) := by decide +kernel
end
section
theorem dX7_init_0 : decode cX7_init 0 = .ok (.aload_n 0, 1) := by decide +kernel
theorem dX7_init_1 : decode cX7_init 1 = .ok (.invokespecial 1, 3) := by decide +kernel
theorem dX7_init_4 : decode cX7_init 4 = .ok (.aload_n 0, 1) := by decide +kernel
theorem dX7_init_5 : decode cX7_init 5 = .ok (.bipush 24, 2) := by decide +kernel
theorem dX7_init_7 : decode cX7_init 7 = .ok (.newarray .int, 2) := by decide +kernel
theorem dX7_init_9 : decode cX7_init 9 = .ok (.putfield 7, 3) := by decide +kernel
theorem dX7_init_12 : decode cX7_init 12 = .ok (.aload_n 0, 1) := by decide +kernel
theorem dX7_init_13 : decode cX7_init 13 = .ok (.bipush 24, 2) := by decide +kernel
theorem dX7_init_15 : decode cX7_init 15 = .ok (.newarray .int, 2) := by decide +kernel
theorem dX7_init_17 : decode cX7_init 17 = .ok (.putfield 13, 3) := by decide +kernel
theorem dX7_init_20 : decode cX7_init 20 = .ok (.aload_n 0, 1) := by decide +kernel
theorem dX7_init_21 : decode cX7_init 21 = .ok (.bipush 100, 2) := by decide +kernel
theorem dX7_init_23 : decode cX7_init 23 = .ok (.newarray .int, 2) := by decide +kernel
theorem dX7_init_25 : decode cX7_init 25 = .ok (.putfield 16, 3) := by decide +kernel
theorem dX7_init_28 : decode cX7_init 28 = .ok (.aload_n 0, 1) := by decide +kernel
theorem dX7_init_29 : decode cX7_init 29 = .ok (.bipush 100, 2) := by decide +kernel
theorem dX7_init_31 : decode cX7_init 31 = .ok (.newarray .int, 2) := by decide +kernel
theorem dX7_init_33 : decode cX7_init 33 = .ok (.putfield 19, 3) := by decide +kernel
theorem dX7_init_36 : decode cX7_init 36 = .ok (.aload_n 0, 1) := by decide +kernel
theorem dX7_init_37 : decode cX7_init 37 = .ok (.bipush 100, 2) := by decide +kernel
theorem dX7_init_39 : decode cX7_init 39 = .ok (.newarray .int, 2) := by decide +kernel
theorem dX7_init_41 : decode cX7_init 41 = .ok (.putfield 22, 3) := by decide +kernel
theorem dX7_init_44 : decode cX7_init 44 = .ok (.aload_n 0, 1) := by decide +kernel
theorem dX7_init_45 : decode cX7_init 45 = .ok (.bipush 100, 2) := by decide +kernel
theorem dX7_init_47 : decode cX7_init 47 = .ok (.newarray .int, 2) := by decide +kernel
theorem dX7_init_49 : decode cX7_init 49 = .ok (.putfield 25, 3) := by decide +kernel
theorem dX7_init_52 : decode cX7_init 52 = .ok (.aload_n 0, 1) := by decide +kernel
theorem dX7_init_53 : decode cX7_init 53 = .ok (.bipush 100, 2) := by decide +kernel
theorem dX7_init_55 : decode cX7_init 55 = .ok (.newarray .int, 2) := by decide +kernel
theorem dX7_init_57 : decode cX7_init 57 = .ok (.putfield 28, 3) := by decide +kernel
theorem dX7_init_60 : decode cX7_init 60 = .ok (.aload_n 0, 1) := by decide +kernel
theorem dX7_init_61 : decode cX7_init 61 = .ok (.bipush 100, 2) := by decide +kernel
theorem dX7_init_63 : decode cX7_init 63 = .ok (.newarray .int, 2) := by decide +kernel
theorem dX7_init_65 : decode cX7_init 65 = .ok (.putfield 31, 3) := by decide +kernel
theorem dX7_init_68 : decode cX7_init 68 = .ok (.aload_n 0, 1) := by decide +kernel
theorem dX7_init_69 : decode cX7_init 69 = .ok (.bipush 100, 2) := by decide +kernel
theorem dX7_init_71 : decode cX7_init 71 = .ok (.newarray .int, 2) := by decide +kernel
theorem dX7_init_73 : decode cX7_init 73 = .ok (.putfield 34, 3) := by decide +kernel
theorem dX7_init_76 : decode cX7_init 76 = .ok (.aload_n 0, 1) := by decide +kernel
theorem dX7_init_77 : decode cX7_init 77 = .ok (.sipush 400, 3) := by decide +kernel
theorem dX7_init_80 : decode cX7_init 80 = .ok (.newarray .int, 2) := by decide +kernel
theorem dX7_init_82 : decode cX7_init 82 = .ok (.putfield 37, 3) := by decide +kernel
theorem dX7_init_85 : decode cX7_init 85 = .ok (.aload_n 0, 1) := by decide +kernel
theorem dX7_init_86 : decode cX7_init 86 = .ok (.sipush 400, 3) := by decide +kernel
theorem dX7_init_89 : decode cX7_init 89 = .ok (.newarray .int, 2) := by decide +kernel
theorem dX7_init_91 : decode cX7_init 91 = .ok (.putfield 40, 3) := by decide +kernel
theorem dX7_init_94 : decode cX7_init 94 = .ok (.aload_n 0, 1) := by decide +kernel
theorem dX7_init_95 : decode cX7_init 95 = .ok (.sipush 400, 3) := by decide +kernel
theorem dX7_init_98 : decode cX7_init 98 = .ok (.newarray .int, 2) := by decide +kernel
theorem dX7_init_100 : decode cX7_init 100 = .ok (.putfield 43, 3) := by decide +kernel
theorem dX7_init_103 : decode cX7_init 103 = .ok (.aload_n 0, 1) := by decide +kernel
theorem dX7_init_104 : decode cX7_init 104 = .ok (.sipush 400, 3) := by decide +kernel
theorem dX7_init_107 : decode cX7_init 107 = .ok (.newarray .int, 2) := by decide +kernel
theorem dX7_init_109 : decode cX7_init 109 = .ok (.putfield 46, 3) := by decide +kernel
theorem dX7_init_112 : decode cX7_init 112 = .ok (.aload_n 0, 1) := by decide +kernel
theorem dX7_init_113 : decode cX7_init 113 = .ok (.bipush 100, 2) := by decide +kernel
theorem dX7_init_115 : decode cX7_init 115 = .ok (.newarray .boolean, 2) := by decide +kernel
theorem dX7_init_117 : decode cX7_init 117 = .ok (.putfield 49, 3) := by decide +kernel
theorem dX7_init_120 : decode cX7_init 120 = .ok (.aload_n 0, 1) := by decide +kernel
theorem dX7_init_121 : decode cX7_init 121 = .ok (.bipush 100, 2) := by decide +kernel
theorem dX7_init_123 : decode cX7_init 123 = .ok (.newarray .boolean, 2) := by decide +kernel
theorem dX7_init_125 : decode cX7_init 125 = .ok (.putfield 53, 3) := by decide +kernel
theorem dX7_init_128 : decode cX7_init 128 = .ok (.aload_n 0, 1) := by decide +kernel
theorem dX7_init_129 : decode cX7_init 129 = .ok (.sipush 1200, 3) := by decide +kernel
theorem dX7_init_132 : decode cX7_init 132 = .ok (.newarray .int, 2) := by decide +kernel
theorem dX7_init_134 : decode cX7_init 134 = .ok (.putfield 56, 3) := by decide +kernel
theorem dX7_init_137 : decode cX7_init 137 = .ok (.aload_n 0, 1) := by decide +kernel
theorem dX7_init_138 : decode cX7_init 138 = .ok (.sipush 1200, 3) := by decide +kernel
theorem dX7_init_141 : decode cX7_init 141 = .ok (.newarray .int, 2) := by decide +kernel
theorem dX7_init_143 : decode cX7_init 143 = .ok (.putfield 59, 3) := by decide +kernel
theorem dX7_init_146 : decode cX7_init 146 = .ok (.aload_n 0, 1) := by decide +kernel
theorem dX7_init_147 : decode cX7_init 147 = .ok (.sipush 1200, 3) := by decide +kernel
theorem dX7_init_150 : decode cX7_init 150 = .ok (.newarray .int, 2) := by decide +kernel
theorem dX7_init_152 : decode cX7_init 152 = .ok (.putfield 62, 3) := by decide +kernel
theorem dX7_init_155 : decode cX7_init 155 = .ok (.aload_n 0, 1) := by decide +kernel
theorem dX7_init_156 : decode cX7_init 156 = .ok (.sipush 1200, 3) := by decide +kernel
theorem dX7_init_159 : decode cX7_init 159 = .ok (.newarray .int, 2) := by decide +kernel
theorem dX7_init_161 : decode cX7_init 161 = .ok (.putfield 65, 3) := by decide +kernel
theorem dX7_init_164 : decode cX7_init 164 = .ok (.aload_n 0, 1) := by decide +kernel
theorem dX7_init_165 : decode cX7_init 165 = .ok (.sipush 1200, 3) := by decide +kernel
theorem dX7_init_168 : decode cX7_init 168 = .ok (.newarray .int, 2) := by decide +kernel
theorem dX7_init_170 : decode cX7_init 170 = .ok (.putfield 68, 3) := by decide +kernel
theorem dX7_init_173 : decode cX7_init 173 = .ok (.aload_n 0, 1) := by decide +kernel
theorem dX7_init_174 : decode cX7_init 174 = .ok (.sipush 1200, 3) := by decide +kernel
theorem dX7_init_177 : decode cX7_init 177 = .ok (.newarray .int, 2) := by decide +kernel
theorem dX7_init_179 : decode cX7_init 179 = .ok (.putfield 71, 3) := by decide +kernel
theorem dX7_init_182 : decode cX7_init 182 = .ok (.aload_n 0, 1) := by decide +kernel
theorem dX7_init_183 : decode cX7_init 183 = .ok (.sipush 1200, 3) := by decide +kernel
theorem dX7_init_186 : decode cX7_init 186 = .ok (.newarray .boolean, 2) := by decide +kernel
theorem dX7_init_188 : decode cX7_init 188 = .ok (.putfield 74, 3) := by decide +kernel
theorem dX7_init_191 : decode cX7_init 191 = .ok (.aload_n 0, 1) := by decide +kernel
theorem dX7_init_192 : decode cX7_init 192 = .ok (.sipush 2400, 3) := by decide +kernel
theorem dX7_init_195 : decode cX7_init 195 = .ok (.newarray .int, 2) := by decide +kernel
theorem dX7_init_197 : decode cX7_init 197 = .ok (.putfield 77, 3) := by decide +kernel
theorem dX7_init_200 : decode cX7_init 200 = .ok (.aload_n 0, 1) := by decide +kernel
theorem dX7_init_201 : decode cX7_init 201 = .ok (.sipush 1200, 3) := by decide +kernel
theorem dX7_init_204 : decode cX7_init 204 = .ok (.newarray .int, 2) := by decide +kernel
theorem dX7_init_206 : decode cX7_init 206 = .ok (.putfield 80, 3) := by decide +kernel
theorem dX7_init_209 : decode cX7_init 209 = .ok (.aload_n 0, 1) := by decide +kernel
theorem dX7_init_210 : decode cX7_init 210 = .ok (.sipush 1200, 3) := by decide +kernel
theorem dX7_init_213 : decode cX7_init 213 = .ok (.newarray .int, 2) := by decide +kernel
theorem dX7_init_215 : decode cX7_init 215 = .ok (.putfield 83, 3) := by decide +kernel
theorem dX7_init_218 : decode cX7_init 218 = .ok (.aload_n 0, 1) := by decide +kernel
theorem dX7_init_219 : decode cX7_init 219 = .ok (.sipush 1200, 3) := by decide +kernel
theorem dX7_init_222 : decode cX7_init 222 = .ok (.newarray .int, 2) := by decide +kernel
theorem dX7_init_224 : decode cX7_init 224 = .ok (.putfield 86, 3) := by decide +kernel
theorem dX7_init_227 : decode cX7_init 227 = .ok (.aload_n 0, 1) := by decide +kernel
theorem dX7_init_228 : decode cX7_init 228 = .ok (.sipush 2400, 3) := by decide +kernel
theorem dX7_init_231 : decode cX7_init 231 = .ok (.newarray .int, 2) := by decide +kernel
theorem dX7_init_233 : decode cX7_init 233 = .ok (.putfield 89, 3) := by decide +kernel
theorem dX7_init_236 : decode cX7_init 236 = .ok (.return_, 1) := by decide +kernel
theorem dX7_status_0 : decode cX7_status 0 = .ok (.aload_n 0, 1) := by decide +kernel
theorem dX7_status_1 : decode cX7_status 1 = .ok (.iconst 0, 1) := by decide +kernel
theorem dX7_status_2 : decode cX7_status 2 = .ok (.putfield 92, 3) := by decide +kernel
theorem dX7_status_5 : decode cX7_status 5 = .ok (.aload_n 0, 1) := by decide +kernel
theorem dX7_status_6 : decode cX7_status 6 = .ok (.getfield 96, 3) := by decide +kernel
theorem dX7_status_9 : decode cX7_status 9 = .ok (.ireturn, 1) := by decide +kernel
theorem dX7_refuse_0 : decode cX7_refuse 0 = .ok (.aload_n 0, 1) := by decide +kernel
theorem dX7_refuse_1 : decode cX7_refuse 1 = .ok (.iload_n 1, 1) := by decide +kernel
theorem dX7_refuse_2 : decode cX7_refuse 2 = .ok (.putfield 96, 3) := by decide +kernel
theorem dX7_refuse_5 : decode cX7_refuse 5 = .ok (.iconst (-1), 1) := by decide +kernel
theorem dX7_refuse_6 : decode cX7_refuse 6 = .ok (.ireturn, 1) := by decide +kernel
theorem dX7_no_0 : decode cX7_no 0 = .ok (.aload_n 0, 1) := by decide +kernel
theorem dX7_no_1 : decode cX7_no 1 = .ok (.iload_n 1, 1) := by decide +kernel
theorem dX7_no_2 : decode cX7_no 2 = .ok (.putfield 96, 3) := by decide +kernel
theorem dX7_no_5 : decode cX7_no 5 = .ok (.iconst 0, 1) := by decide +kernel
theorem dX7_no_6 : decode cX7_no 6 = .ok (.ireturn, 1) := by decide +kernel
theorem dX7_isNode_0 : decode cX7_isNode 0 = .ok (.iload_n 1, 1) := by decide +kernel
theorem dX7_isNode_1 : decode cX7_isNode 1 = .ok (.ifCond .lt 15, 3) := by decide +kernel
theorem dX7_isNode_4 : decode cX7_isNode 4 = .ok (.iload_n 1, 1) := by decide +kernel
theorem dX7_isNode_5 : decode cX7_isNode 5 = .ok (.aload_n 0, 1) := by decide +kernel
theorem dX7_isNode_6 : decode cX7_isNode 6 = .ok (.getfield 99, 3) := by decide +kernel
theorem dX7_isNode_9 : decode cX7_isNode 9 = .ok (.if_icmp .ge 7, 3) := by decide +kernel
theorem dX7_isNode_12 : decode cX7_isNode 12 = .ok (.iconst 1, 1) := by decide +kernel
theorem dX7_isNode_13 : decode cX7_isNode 13 = .ok (.goto 4, 3) := by decide +kernel
theorem dX7_isNode_16 : decode cX7_isNode 16 = .ok (.iconst 0, 1) := by decide +kernel
theorem dX7_isNode_17 : decode cX7_isNode 17 = .ok (.ireturn, 1) := by decide +kernel
theorem dX7_isLine_0 : decode cX7_isLine 0 = .ok (.iload_n 1, 1) := by decide +kernel
theorem dX7_isLine_1 : decode cX7_isLine 1 = .ok (.ifCond .lt 15, 3) := by decide +kernel
theorem dX7_isLine_4 : decode cX7_isLine 4 = .ok (.iload_n 1, 1) := by decide +kernel
theorem dX7_isLine_5 : decode cX7_isLine 5 = .ok (.aload_n 0, 1) := by decide +kernel
theorem dX7_isLine_6 : decode cX7_isLine 6 = .ok (.getfield 102, 3) := by decide +kernel
theorem dX7_isLine_9 : decode cX7_isLine 9 = .ok (.if_icmp .ge 7, 3) := by decide +kernel
theorem dX7_isLine_12 : decode cX7_isLine 12 = .ok (.iconst 1, 1) := by decide +kernel
theorem dX7_isLine_13 : decode cX7_isLine 13 = .ok (.goto 4, 3) := by decide +kernel
theorem dX7_isLine_16 : decode cX7_isLine 16 = .ok (.iconst 0, 1) := by decide +kernel
theorem dX7_isLine_17 : decode cX7_isLine 17 = .ok (.ireturn, 1) := by decide +kernel
theorem dX7_isTick_0 : decode cX7_isTick 0 = .ok (.iload_n 0, 1) := by decide +kernel
theorem dX7_isTick_1 : decode cX7_isTick 1 = .ok (.ifCond .lt 14, 3) := by decide +kernel
theorem dX7_isTick_4 : decode cX7_isTick 4 = .ok (.iload_n 0, 1) := by decide +kernel
theorem dX7_isTick_5 : decode cX7_isTick 5 = .ok (.sipush 5000, 3) := by decide +kernel
theorem dX7_isTick_8 : decode cX7_isTick 8 = .ok (.if_icmp .gt 7, 3) := by decide +kernel
theorem dX7_isTick_11 : decode cX7_isTick 11 = .ok (.iconst 1, 1) := by decide +kernel
theorem dX7_isTick_12 : decode cX7_isTick 12 = .ok (.goto 4, 3) := by decide +kernel
theorem dX7_isTick_15 : decode cX7_isTick 15 = .ok (.iconst 0, 1) := by decide +kernel
theorem dX7_isTick_16 : decode cX7_isTick 16 = .ok (.ireturn, 1) := by decide +kernel
theorem dX7_areWaits_0 : decode cX7_areWaits 0 = .ok (.iload_n 0, 1) := by decide +kernel
theorem dX7_areWaits_1 : decode cX7_areWaits 1 = .ok (.ifCond .lt 31, 3) := by decide +kernel
theorem dX7_areWaits_4 : decode cX7_areWaits 4 = .ok (.iload_n 0, 1) := by decide +kernel
theorem dX7_areWaits_5 : decode cX7_areWaits 5 = .ok (.sipush 200, 3) := by decide +kernel
theorem dX7_areWaits_8 : decode cX7_areWaits 8 = .ok (.if_icmp .gt 24, 3) := by decide +kernel
theorem dX7_areWaits_11 : decode cX7_areWaits 11 = .ok (.iload_n 1, 1) := by decide +kernel
theorem dX7_areWaits_12 : decode cX7_areWaits 12 = .ok (.iconst (-1), 1) := by decide +kernel
theorem dX7_areWaits_13 : decode cX7_areWaits 13 = .ok (.if_icmp .eq 15, 3) := by decide +kernel
theorem dX7_areWaits_16 : decode cX7_areWaits 16 = .ok (.iload_n 1, 1) := by decide +kernel
theorem dX7_areWaits_17 : decode cX7_areWaits 17 = .ok (.iload_n 0, 1) := by decide +kernel
theorem dX7_areWaits_18 : decode cX7_areWaits 18 = .ok (.if_icmp .lt 14, 3) := by decide +kernel
theorem dX7_areWaits_21 : decode cX7_areWaits 21 = .ok (.iload_n 1, 1) := by decide +kernel
theorem dX7_areWaits_22 : decode cX7_areWaits 22 = .ok (.sipush 5000, 3) := by decide +kernel
theorem dX7_areWaits_25 : decode cX7_areWaits 25 = .ok (.if_icmp .gt 7, 3) := by decide +kernel
theorem dX7_areWaits_28 : decode cX7_areWaits 28 = .ok (.iconst 1, 1) := by decide +kernel
theorem dX7_areWaits_29 : decode cX7_areWaits 29 = .ok (.goto 4, 3) := by decide +kernel
theorem dX7_areWaits_32 : decode cX7_areWaits 32 = .ok (.iconst 0, 1) := by decide +kernel
theorem dX7_areWaits_33 : decode cX7_areWaits 33 = .ok (.ireturn, 1) := by decide +kernel
theorem dX7_node_0 : decode cX7_node 0 = .ok (.aload_n 0, 1) := by decide +kernel
theorem dX7_node_1 : decode cX7_node 1 = .ok (.iconst 0, 1) := by decide +kernel
theorem dX7_node_2 : decode cX7_node 2 = .ok (.putfield 92, 3) := by decide +kernel
theorem dX7_node_5 : decode cX7_node 5 = .ok (.aload_n 0, 1) := by decide +kernel
theorem dX7_node_6 : decode cX7_node 6 = .ok (.iconst 0, 1) := by decide +kernel
theorem dX7_node_7 : decode cX7_node 7 = .ok (.putfield 96, 3) := by decide +kernel
theorem dX7_node_10 : decode cX7_node 10 = .ok (.iload_n 1, 1) := by decide +kernel
theorem dX7_node_11 : decode cX7_node 11 = .ok (.iload_n 2, 1) := by decide +kernel
theorem dX7_node_12 : decode cX7_node 12 = .ok (.invokestatic 105, 3) := by decide +kernel
theorem dX7_node_15 : decode cX7_node 15 = .ok (.ifCond .ne 9, 3) := by decide +kernel
theorem dX7_node_18 : decode cX7_node 18 = .ok (.aload_n 0, 1) := by decide +kernel
theorem dX7_node_19 : decode cX7_node 19 = .ok (.iconst 2, 1) := by decide +kernel
theorem dX7_node_20 : decode cX7_node 20 = .ok (.invokevirtual 109, 3) := by decide +kernel
theorem dX7_node_23 : decode cX7_node 23 = .ok (.ireturn, 1) := by decide +kernel
theorem dX7_node_24 : decode cX7_node 24 = .ok (.aload_n 0, 1) := by decide +kernel
theorem dX7_node_25 : decode cX7_node 25 = .ok (.getfield 99, 3) := by decide +kernel
theorem dX7_node_28 : decode cX7_node 28 = .ok (.bipush 24, 2) := by decide +kernel
theorem dX7_node_30 : decode cX7_node 30 = .ok (.if_icmp .ne 9, 3) := by decide +kernel
theorem dX7_node_33 : decode cX7_node 33 = .ok (.aload_n 0, 1) := by decide +kernel
theorem dX7_node_34 : decode cX7_node 34 = .ok (.iconst 3, 1) := by decide +kernel
theorem dX7_node_35 : decode cX7_node 35 = .ok (.invokevirtual 109, 3) := by decide +kernel
theorem dX7_node_38 : decode cX7_node 38 = .ok (.ireturn, 1) := by decide +kernel
theorem dX7_node_39 : decode cX7_node 39 = .ok (.aload_n 0, 1) := by decide +kernel
theorem dX7_node_40 : decode cX7_node 40 = .ok (.getfield 7, 3) := by decide +kernel
theorem dX7_node_43 : decode cX7_node 43 = .ok (.aload_n 0, 1) := by decide +kernel
theorem dX7_node_44 : decode cX7_node 44 = .ok (.getfield 99, 3) := by decide +kernel
theorem dX7_node_47 : decode cX7_node 47 = .ok (.iload_n 1, 1) := by decide +kernel
theorem dX7_node_48 : decode cX7_node 48 = .ok (.iastore, 1) := by decide +kernel
theorem dX7_node_49 : decode cX7_node 49 = .ok (.aload_n 0, 1) := by decide +kernel
theorem dX7_node_50 : decode cX7_node 50 = .ok (.getfield 13, 3) := by decide +kernel
theorem dX7_node_53 : decode cX7_node 53 = .ok (.aload_n 0, 1) := by decide +kernel
theorem dX7_node_54 : decode cX7_node 54 = .ok (.getfield 99, 3) := by decide +kernel
theorem dX7_node_57 : decode cX7_node 57 = .ok (.iload_n 2, 1) := by decide +kernel
theorem dX7_node_58 : decode cX7_node 58 = .ok (.iastore, 1) := by decide +kernel
theorem dX7_node_59 : decode cX7_node 59 = .ok (.aload_n 0, 1) := by decide +kernel
theorem dX7_node_60 : decode cX7_node 60 = .ok (.dup, 1) := by decide +kernel
theorem dX7_node_61 : decode cX7_node 61 = .ok (.getfield 99, 3) := by decide +kernel
theorem dX7_node_64 : decode cX7_node 64 = .ok (.iconst 1, 1) := by decide +kernel
theorem dX7_node_65 : decode cX7_node 65 = .ok (.iadd, 1) := by decide +kernel
theorem dX7_node_66 : decode cX7_node 66 = .ok (.putfield 99, 3) := by decide +kernel
theorem dX7_node_69 : decode cX7_node 69 = .ok (.aload_n 0, 1) := by decide +kernel
theorem dX7_node_70 : decode cX7_node 70 = .ok (.getfield 99, 3) := by decide +kernel
theorem dX7_node_73 : decode cX7_node 73 = .ok (.iconst 1, 1) := by decide +kernel
theorem dX7_node_74 : decode cX7_node 74 = .ok (.isub, 1) := by decide +kernel
theorem dX7_node_75 : decode cX7_node 75 = .ok (.ireturn, 1) := by decide +kernel
theorem dX7_waits_0 : decode cX7_waits 0 = .ok (.aload_n 0, 1) := by decide +kernel
theorem dX7_waits_1 : decode cX7_waits 1 = .ok (.iconst 0, 1) := by decide +kernel
theorem dX7_waits_2 : decode cX7_waits 2 = .ok (.putfield 92, 3) := by decide +kernel
theorem dX7_waits_5 : decode cX7_waits 5 = .ok (.aload_n 0, 1) := by decide +kernel
theorem dX7_waits_6 : decode cX7_waits 6 = .ok (.iconst 0, 1) := by decide +kernel
theorem dX7_waits_7 : decode cX7_waits 7 = .ok (.putfield 96, 3) := by decide +kernel
theorem dX7_waits_10 : decode cX7_waits 10 = .ok (.aload_n 0, 1) := by decide +kernel
theorem dX7_waits_11 : decode cX7_waits 11 = .ok (.iload_n 1, 1) := by decide +kernel
theorem dX7_waits_12 : decode cX7_waits 12 = .ok (.invokevirtual 113, 3) := by decide +kernel
theorem dX7_waits_15 : decode cX7_waits 15 = .ok (.ifCond .ne 9, 3) := by decide +kernel
theorem dX7_waits_18 : decode cX7_waits 18 = .ok (.aload_n 0, 1) := by decide +kernel
theorem dX7_waits_19 : decode cX7_waits 19 = .ok (.iconst 1, 1) := by decide +kernel
theorem dX7_waits_20 : decode cX7_waits 20 = .ok (.invokevirtual 117, 3) := by decide +kernel
theorem dX7_waits_23 : decode cX7_waits 23 = .ok (.ireturn, 1) := by decide +kernel
theorem dX7_waits_24 : decode cX7_waits 24 = .ok (.iload_n 2, 1) := by decide +kernel
theorem dX7_waits_25 : decode cX7_waits 25 = .ok (.iload_n 3, 1) := by decide +kernel
theorem dX7_waits_26 : decode cX7_waits 26 = .ok (.invokestatic 105, 3) := by decide +kernel
theorem dX7_waits_29 : decode cX7_waits 29 = .ok (.ifCond .ne 9, 3) := by decide +kernel
theorem dX7_waits_32 : decode cX7_waits 32 = .ok (.aload_n 0, 1) := by decide +kernel
theorem dX7_waits_33 : decode cX7_waits 33 = .ok (.iconst 2, 1) := by decide +kernel
theorem dX7_waits_34 : decode cX7_waits 34 = .ok (.invokevirtual 117, 3) := by decide +kernel
theorem dX7_waits_37 : decode cX7_waits 37 = .ok (.ireturn, 1) := by decide +kernel
theorem dX7_waits_38 : decode cX7_waits 38 = .ok (.aload_n 0, 1) := by decide +kernel
theorem dX7_waits_39 : decode cX7_waits 39 = .ok (.getfield 7, 3) := by decide +kernel
theorem dX7_waits_42 : decode cX7_waits 42 = .ok (.iload_n 1, 1) := by decide +kernel
theorem dX7_waits_43 : decode cX7_waits 43 = .ok (.iload_n 2, 1) := by decide +kernel
theorem dX7_waits_44 : decode cX7_waits 44 = .ok (.iastore, 1) := by decide +kernel
theorem dX7_waits_45 : decode cX7_waits 45 = .ok (.aload_n 0, 1) := by decide +kernel
theorem dX7_waits_46 : decode cX7_waits 46 = .ok (.getfield 13, 3) := by decide +kernel
theorem dX7_waits_49 : decode cX7_waits 49 = .ok (.iload_n 1, 1) := by decide +kernel
theorem dX7_waits_50 : decode cX7_waits 50 = .ok (.iload_n 3, 1) := by decide +kernel
theorem dX7_waits_51 : decode cX7_waits 51 = .ok (.iastore, 1) := by decide +kernel
theorem dX7_waits_52 : decode cX7_waits 52 = .ok (.iconst 1, 1) := by decide +kernel
theorem dX7_waits_53 : decode cX7_waits 53 = .ok (.ireturn, 1) := by decide +kernel
theorem dX7_logs_0 : decode cX7_logs 0 = .ok (.aload_n 0, 1) := by decide +kernel
theorem dX7_logs_1 : decode cX7_logs 1 = .ok (.getfield 37, 3) := by decide +kernel
theorem dX7_logs_4 : decode cX7_logs 4 = .ok (.aload_n 0, 1) := by decide +kernel
theorem dX7_logs_5 : decode cX7_logs 5 = .ok (.getfield 120, 3) := by decide +kernel
theorem dX7_logs_8 : decode cX7_logs 8 = .ok (.iload_n 1, 1) := by decide +kernel
theorem dX7_logs_9 : decode cX7_logs 9 = .ok (.iastore, 1) := by decide +kernel
theorem dX7_logs_10 : decode cX7_logs 10 = .ok (.aload_n 0, 1) := by decide +kernel
theorem dX7_logs_11 : decode cX7_logs 11 = .ok (.getfield 40, 3) := by decide +kernel
theorem dX7_logs_14 : decode cX7_logs 14 = .ok (.aload_n 0, 1) := by decide +kernel
theorem dX7_logs_15 : decode cX7_logs 15 = .ok (.getfield 120, 3) := by decide +kernel
theorem dX7_logs_18 : decode cX7_logs 18 = .ok (.iload_n 2, 1) := by decide +kernel
theorem dX7_logs_19 : decode cX7_logs 19 = .ok (.iastore, 1) := by decide +kernel
theorem dX7_logs_20 : decode cX7_logs 20 = .ok (.aload_n 0, 1) := by decide +kernel
theorem dX7_logs_21 : decode cX7_logs 21 = .ok (.getfield 43, 3) := by decide +kernel
theorem dX7_logs_24 : decode cX7_logs 24 = .ok (.aload_n 0, 1) := by decide +kernel
theorem dX7_logs_25 : decode cX7_logs 25 = .ok (.getfield 120, 3) := by decide +kernel
theorem dX7_logs_28 : decode cX7_logs 28 = .ok (.iload_n 3, 1) := by decide +kernel
theorem dX7_logs_29 : decode cX7_logs 29 = .ok (.iastore, 1) := by decide +kernel
theorem dX7_logs_30 : decode cX7_logs 30 = .ok (.aload_n 0, 1) := by decide +kernel
theorem dX7_logs_31 : decode cX7_logs 31 = .ok (.getfield 46, 3) := by decide +kernel
theorem dX7_logs_34 : decode cX7_logs 34 = .ok (.aload_n 0, 1) := by decide +kernel
theorem dX7_logs_35 : decode cX7_logs 35 = .ok (.getfield 120, 3) := by decide +kernel
theorem dX7_logs_38 : decode cX7_logs 38 = .ok (.iload 4, 2) := by decide +kernel
theorem dX7_logs_40 : decode cX7_logs 40 = .ok (.iastore, 1) := by decide +kernel
theorem dX7_logs_41 : decode cX7_logs 41 = .ok (.aload_n 0, 1) := by decide +kernel
theorem dX7_logs_42 : decode cX7_logs 42 = .ok (.dup, 1) := by decide +kernel
theorem dX7_logs_43 : decode cX7_logs 43 = .ok (.getfield 120, 3) := by decide +kernel
theorem dX7_logs_46 : decode cX7_logs 46 = .ok (.iconst 1, 1) := by decide +kernel
theorem dX7_logs_47 : decode cX7_logs 47 = .ok (.iadd, 1) := by decide +kernel
theorem dX7_logs_48 : decode cX7_logs 48 = .ok (.putfield 120, 3) := by decide +kernel
theorem dX7_logs_51 : decode cX7_logs 51 = .ok (.return_, 1) := by decide +kernel
theorem dX7_line_0 : decode cX7_line 0 = .ok (.aload_n 0, 1) := by decide +kernel
theorem dX7_line_1 : decode cX7_line 1 = .ok (.iconst 0, 1) := by decide +kernel
theorem dX7_line_2 : decode cX7_line 2 = .ok (.putfield 92, 3) := by decide +kernel
theorem dX7_line_5 : decode cX7_line 5 = .ok (.aload_n 0, 1) := by decide +kernel
theorem dX7_line_6 : decode cX7_line 6 = .ok (.iconst 0, 1) := by decide +kernel
theorem dX7_line_7 : decode cX7_line 7 = .ok (.putfield 96, 3) := by decide +kernel
theorem dX7_line_10 : decode cX7_line 10 = .ok (.aload_n 0, 1) := by decide +kernel
theorem dX7_line_11 : decode cX7_line 11 = .ok (.iload_n 1, 1) := by decide +kernel
theorem dX7_line_12 : decode cX7_line 12 = .ok (.invokevirtual 113, 3) := by decide +kernel
theorem dX7_line_15 : decode cX7_line 15 = .ok (.ifCond .eq 16, 3) := by decide +kernel
theorem dX7_line_18 : decode cX7_line 18 = .ok (.aload_n 0, 1) := by decide +kernel
theorem dX7_line_19 : decode cX7_line 19 = .ok (.iload_n 2, 1) := by decide +kernel
theorem dX7_line_20 : decode cX7_line 20 = .ok (.invokevirtual 113, 3) := by decide +kernel
theorem dX7_line_23 : decode cX7_line 23 = .ok (.ifCond .eq 8, 3) := by decide +kernel
theorem dX7_line_26 : decode cX7_line 26 = .ok (.iload_n 1, 1) := by decide +kernel
theorem dX7_line_27 : decode cX7_line 27 = .ok (.iload_n 2, 1) := by decide +kernel
theorem dX7_line_28 : decode cX7_line 28 = .ok (.if_icmp .ne 9, 3) := by decide +kernel
theorem dX7_line_31 : decode cX7_line 31 = .ok (.aload_n 0, 1) := by decide +kernel
theorem dX7_line_32 : decode cX7_line 32 = .ok (.iconst 1, 1) := by decide +kernel
theorem dX7_line_33 : decode cX7_line 33 = .ok (.invokevirtual 109, 3) := by decide +kernel
theorem dX7_line_36 : decode cX7_line 36 = .ok (.ireturn, 1) := by decide +kernel
theorem dX7_line_37 : decode cX7_line 37 = .ok (.iload_n 3, 1) := by decide +kernel
theorem dX7_line_38 : decode cX7_line 38 = .ok (.ifCond .lt 30, 3) := by decide +kernel
theorem dX7_line_41 : decode cX7_line 41 = .ok (.iload_n 3, 1) := by decide +kernel
theorem dX7_line_42 : decode cX7_line 42 = .ok (.iconst 2, 1) := by decide +kernel
theorem dX7_line_43 : decode cX7_line 43 = .ok (.if_icmp .gt 25, 3) := by decide +kernel
theorem dX7_line_46 : decode cX7_line 46 = .ok (.iload 4, 2) := by decide +kernel
theorem dX7_line_48 : decode cX7_line 48 = .ok (.invokestatic 123, 3) := by decide +kernel
theorem dX7_line_51 : decode cX7_line 51 = .ok (.ifCond .eq 17, 3) := by decide +kernel
theorem dX7_line_54 : decode cX7_line 54 = .ok (.iload 5, 2) := by decide +kernel
theorem dX7_line_56 : decode cX7_line 56 = .ok (.iconst 1, 1) := by decide +kernel
theorem dX7_line_57 : decode cX7_line 57 = .ok (.if_icmp .lt 11, 3) := by decide +kernel
theorem dX7_line_60 : decode cX7_line 60 = .ok (.iload 5, 2) := by decide +kernel
theorem dX7_line_62 : decode cX7_line 62 = .ok (.sipush 500, 3) := by decide +kernel
theorem dX7_line_65 : decode cX7_line 65 = .ok (.if_icmp .le 9, 3) := by decide +kernel
theorem dX7_line_68 : decode cX7_line 68 = .ok (.aload_n 0, 1) := by decide +kernel
theorem dX7_line_69 : decode cX7_line 69 = .ok (.iconst 2, 1) := by decide +kernel
theorem dX7_line_70 : decode cX7_line 70 = .ok (.invokevirtual 109, 3) := by decide +kernel
theorem dX7_line_73 : decode cX7_line 73 = .ok (.ireturn, 1) := by decide +kernel
theorem dX7_line_74 : decode cX7_line 74 = .ok (.iload_n 3, 1) := by decide +kernel
theorem dX7_line_75 : decode cX7_line 75 = .ok (.ifCond .le 16, 3) := by decide +kernel
theorem dX7_line_78 : decode cX7_line 78 = .ok (.iload 6, 2) := by decide +kernel
theorem dX7_line_80 : decode cX7_line 80 = .ok (.iconst 2, 1) := by decide +kernel
theorem dX7_line_81 : decode cX7_line 81 = .ok (.if_icmp .lt 29, 3) := by decide +kernel
theorem dX7_line_84 : decode cX7_line 84 = .ok (.iload 6, 2) := by decide +kernel
theorem dX7_line_86 : decode cX7_line 86 = .ok (.bipush 60, 2) := by decide +kernel
theorem dX7_line_88 : decode cX7_line 88 = .ok (.if_icmp .gt 22, 3) := by decide +kernel
theorem dX7_line_91 : decode cX7_line 91 = .ok (.iload_n 3, 1) := by decide +kernel
theorem dX7_line_92 : decode cX7_line 92 = .ok (.iconst 1, 1) := by decide +kernel
theorem dX7_line_93 : decode cX7_line 93 = .ok (.if_icmp .ne 23, 3) := by decide +kernel
theorem dX7_line_96 : decode cX7_line 96 = .ok (.iload 7, 2) := by decide +kernel
theorem dX7_line_98 : decode cX7_line 98 = .ok (.iconst 1, 1) := by decide +kernel
theorem dX7_line_99 : decode cX7_line 99 = .ok (.if_icmp .lt 11, 3) := by decide +kernel
theorem dX7_line_102 : decode cX7_line 102 = .ok (.iload 7, 2) := by decide +kernel
theorem dX7_line_104 : decode cX7_line 104 = .ok (.sipush 500, 3) := by decide +kernel
theorem dX7_line_107 : decode cX7_line 107 = .ok (.if_icmp .le 9, 3) := by decide +kernel
theorem dX7_line_110 : decode cX7_line 110 = .ok (.aload_n 0, 1) := by decide +kernel
theorem dX7_line_111 : decode cX7_line 111 = .ok (.iconst 2, 1) := by decide +kernel
theorem dX7_line_112 : decode cX7_line 112 = .ok (.invokevirtual 109, 3) := by decide +kernel
theorem dX7_line_115 : decode cX7_line 115 = .ok (.ireturn, 1) := by decide +kernel
theorem dX7_line_116 : decode cX7_line 116 = .ok (.iload_n 3, 1) := by decide +kernel
theorem dX7_line_117 : decode cX7_line 117 = .ok (.ifCond .ne 7, 3) := by decide +kernel
theorem dX7_line_120 : decode cX7_line 120 = .ok (.iconst 1, 1) := by decide +kernel
theorem dX7_line_121 : decode cX7_line 121 = .ok (.goto 5, 3) := by decide +kernel
theorem dX7_line_124 : decode cX7_line 124 = .ok (.iload 6, 2) := by decide +kernel
theorem dX7_line_126 : decode cX7_line 126 = .ok (.istore 8, 2) := by decide +kernel
theorem dX7_line_128 : decode cX7_line 128 = .ok (.aload_n 0, 1) := by decide +kernel
theorem dX7_line_129 : decode cX7_line 129 = .ok (.getfield 102, 3) := by decide +kernel
theorem dX7_line_132 : decode cX7_line 132 = .ok (.bipush 100, 2) := by decide +kernel
theorem dX7_line_134 : decode cX7_line 134 = .ok (.if_icmp .eq 26, 3) := by decide +kernel
theorem dX7_line_137 : decode cX7_line 137 = .ok (.aload_n 0, 1) := by decide +kernel
theorem dX7_line_138 : decode cX7_line 138 = .ok (.getfield 126, 3) := by decide +kernel
theorem dX7_line_141 : decode cX7_line 141 = .ok (.iload 8, 2) := by decide +kernel
theorem dX7_line_143 : decode cX7_line 143 = .ok (.iadd, 1) := by decide +kernel
theorem dX7_line_144 : decode cX7_line 144 = .ok (.sipush 1200, 3) := by decide +kernel
theorem dX7_line_147 : decode cX7_line 147 = .ok (.if_icmp .gt 13, 3) := by decide +kernel
theorem dX7_line_150 : decode cX7_line 150 = .ok (.aload_n 0, 1) := by decide +kernel
theorem dX7_line_151 : decode cX7_line 151 = .ok (.getfield 120, 3) := by decide +kernel
theorem dX7_line_154 : decode cX7_line 154 = .ok (.sipush 400, 3) := by decide +kernel
theorem dX7_line_157 : decode cX7_line 157 = .ok (.if_icmp .ne 9, 3) := by decide +kernel
theorem dX7_line_160 : decode cX7_line 160 = .ok (.aload_n 0, 1) := by decide +kernel
theorem dX7_line_161 : decode cX7_line 161 = .ok (.iconst 3, 1) := by decide +kernel
theorem dX7_line_162 : decode cX7_line 162 = .ok (.invokevirtual 109, 3) := by decide +kernel
theorem dX7_line_165 : decode cX7_line 165 = .ok (.ireturn, 1) := by decide +kernel
theorem dX7_line_166 : decode cX7_line 166 = .ok (.aload_n 0, 1) := by decide +kernel
theorem dX7_line_167 : decode cX7_line 167 = .ok (.getfield 16, 3) := by decide +kernel
theorem dX7_line_170 : decode cX7_line 170 = .ok (.aload_n 0, 1) := by decide +kernel
theorem dX7_line_171 : decode cX7_line 171 = .ok (.getfield 102, 3) := by decide +kernel
theorem dX7_line_174 : decode cX7_line 174 = .ok (.iload_n 1, 1) := by decide +kernel
theorem dX7_line_175 : decode cX7_line 175 = .ok (.iastore, 1) := by decide +kernel
theorem dX7_line_176 : decode cX7_line 176 = .ok (.aload_n 0, 1) := by decide +kernel
theorem dX7_line_177 : decode cX7_line 177 = .ok (.getfield 19, 3) := by decide +kernel
theorem dX7_line_180 : decode cX7_line 180 = .ok (.aload_n 0, 1) := by decide +kernel
theorem dX7_line_181 : decode cX7_line 181 = .ok (.getfield 102, 3) := by decide +kernel
theorem dX7_line_184 : decode cX7_line 184 = .ok (.iload_n 2, 1) := by decide +kernel
theorem dX7_line_185 : decode cX7_line 185 = .ok (.iastore, 1) := by decide +kernel
theorem dX7_line_186 : decode cX7_line 186 = .ok (.aload_n 0, 1) := by decide +kernel
theorem dX7_line_187 : decode cX7_line 187 = .ok (.getfield 22, 3) := by decide +kernel
theorem dX7_line_190 : decode cX7_line 190 = .ok (.aload_n 0, 1) := by decide +kernel
theorem dX7_line_191 : decode cX7_line 191 = .ok (.getfield 102, 3) := by decide +kernel
theorem dX7_line_194 : decode cX7_line 194 = .ok (.iload_n 3, 1) := by decide +kernel
theorem dX7_line_195 : decode cX7_line 195 = .ok (.iastore, 1) := by decide +kernel
theorem dX7_line_196 : decode cX7_line 196 = .ok (.aload_n 0, 1) := by decide +kernel
theorem dX7_line_197 : decode cX7_line 197 = .ok (.getfield 25, 3) := by decide +kernel
theorem dX7_line_200 : decode cX7_line 200 = .ok (.aload_n 0, 1) := by decide +kernel
theorem dX7_line_201 : decode cX7_line 201 = .ok (.getfield 102, 3) := by decide +kernel
theorem dX7_line_204 : decode cX7_line 204 = .ok (.iload 4, 2) := by decide +kernel
theorem dX7_line_206 : decode cX7_line 206 = .ok (.iastore, 1) := by decide +kernel
theorem dX7_line_207 : decode cX7_line 207 = .ok (.aload_n 0, 1) := by decide +kernel
theorem dX7_line_208 : decode cX7_line 208 = .ok (.getfield 28, 3) := by decide +kernel
theorem dX7_line_211 : decode cX7_line 211 = .ok (.aload_n 0, 1) := by decide +kernel
theorem dX7_line_212 : decode cX7_line 212 = .ok (.getfield 102, 3) := by decide +kernel
theorem dX7_line_215 : decode cX7_line 215 = .ok (.iload 5, 2) := by decide +kernel
theorem dX7_line_217 : decode cX7_line 217 = .ok (.iastore, 1) := by decide +kernel
theorem dX7_line_218 : decode cX7_line 218 = .ok (.aload_n 0, 1) := by decide +kernel
theorem dX7_line_219 : decode cX7_line 219 = .ok (.getfield 31, 3) := by decide +kernel
theorem dX7_line_222 : decode cX7_line 222 = .ok (.aload_n 0, 1) := by decide +kernel
theorem dX7_line_223 : decode cX7_line 223 = .ok (.getfield 102, 3) := by decide +kernel
theorem dX7_line_226 : decode cX7_line 226 = .ok (.iload 8, 2) := by decide +kernel
theorem dX7_line_228 : decode cX7_line 228 = .ok (.iastore, 1) := by decide +kernel
theorem dX7_line_229 : decode cX7_line 229 = .ok (.aload_n 0, 1) := by decide +kernel
theorem dX7_line_230 : decode cX7_line 230 = .ok (.getfield 34, 3) := by decide +kernel
theorem dX7_line_233 : decode cX7_line 233 = .ok (.aload_n 0, 1) := by decide +kernel
theorem dX7_line_234 : decode cX7_line 234 = .ok (.getfield 102, 3) := by decide +kernel
theorem dX7_line_237 : decode cX7_line 237 = .ok (.iload_n 3, 1) := by decide +kernel
theorem dX7_line_238 : decode cX7_line 238 = .ok (.iconst 1, 1) := by decide +kernel
theorem dX7_line_239 : decode cX7_line 239 = .ok (.if_icmp .ne 8, 3) := by decide +kernel
theorem dX7_line_242 : decode cX7_line 242 = .ok (.iload 7, 2) := by decide +kernel
theorem dX7_line_244 : decode cX7_line 244 = .ok (.goto 4, 3) := by decide +kernel
theorem dX7_line_247 : decode cX7_line 247 = .ok (.iconst 0, 1) := by decide +kernel
theorem dX7_line_248 : decode cX7_line 248 = .ok (.iastore, 1) := by decide +kernel
theorem dX7_line_249 : decode cX7_line 249 = .ok (.aload_n 0, 1) := by decide +kernel
theorem dX7_line_250 : decode cX7_line 250 = .ok (.iconst 0, 1) := by decide +kernel
theorem dX7_line_251 : decode cX7_line 251 = .ok (.aload_n 0, 1) := by decide +kernel
theorem dX7_line_252 : decode cX7_line 252 = .ok (.getfield 102, 3) := by decide +kernel
theorem dX7_line_255 : decode cX7_line 255 = .ok (.iconst 0, 1) := by decide +kernel
theorem dX7_line_256 : decode cX7_line 256 = .ok (.iconst 0, 1) := by decide +kernel
theorem dX7_line_257 : decode cX7_line 257 = .ok (.invokevirtual 129, 3) := by decide +kernel
theorem dX7_line_260 : decode cX7_line 260 = .ok (.aload_n 0, 1) := by decide +kernel
theorem dX7_line_261 : decode cX7_line 261 = .ok (.dup, 1) := by decide +kernel
theorem dX7_line_262 : decode cX7_line 262 = .ok (.getfield 102, 3) := by decide +kernel
theorem dX7_line_265 : decode cX7_line 265 = .ok (.iconst 1, 1) := by decide +kernel
theorem dX7_line_266 : decode cX7_line 266 = .ok (.iadd, 1) := by decide +kernel
theorem dX7_line_267 : decode cX7_line 267 = .ok (.putfield 102, 3) := by decide +kernel
theorem dX7_line_270 : decode cX7_line 270 = .ok (.aload_n 0, 1) := by decide +kernel
theorem dX7_line_271 : decode cX7_line 271 = .ok (.dup, 1) := by decide +kernel
theorem dX7_line_272 : decode cX7_line 272 = .ok (.getfield 126, 3) := by decide +kernel
theorem dX7_line_275 : decode cX7_line 275 = .ok (.iload 8, 2) := by decide +kernel
theorem dX7_line_277 : decode cX7_line 277 = .ok (.iadd, 1) := by decide +kernel
theorem dX7_line_278 : decode cX7_line 278 = .ok (.putfield 126, 3) := by decide +kernel
theorem dX7_line_281 : decode cX7_line 281 = .ok (.aload_n 0, 1) := by decide +kernel
theorem dX7_line_282 : decode cX7_line 282 = .ok (.getfield 102, 3) := by decide +kernel
theorem dX7_line_285 : decode cX7_line 285 = .ok (.iconst 1, 1) := by decide +kernel
theorem dX7_line_286 : decode cX7_line 286 = .ok (.isub, 1) := by decide +kernel
theorem dX7_line_287 : decode cX7_line 287 = .ok (.ireturn, 1) := by decide +kernel
theorem dX7_isStruckNow_0 : decode cX7_isStruckNow 0 = .ok (.iconst 0, 1) := by decide +kernel
theorem dX7_isStruckNow_1 : decode cX7_isStruckNow 1 = .ok (.istore_n 2, 1) := by decide +kernel
theorem dX7_isStruckNow_2 : decode cX7_isStruckNow 2 = .ok (.iload_n 2, 1) := by decide +kernel
theorem dX7_isStruckNow_3 : decode cX7_isStruckNow 3 = .ok (.aload_n 0, 1) := by decide +kernel
theorem dX7_isStruckNow_4 : decode cX7_isStruckNow 4 = .ok (.getfield 120, 3) := by decide +kernel
theorem dX7_isStruckNow_7 : decode cX7_isStruckNow 7 = .ok (.if_icmp .ge 31, 3) := by decide +kernel
theorem dX7_isStruckNow_10 : decode cX7_isStruckNow 10 = .ok (.aload_n 0, 1) := by decide +kernel
theorem dX7_isStruckNow_11 : decode cX7_isStruckNow 11 = .ok (.getfield 37, 3) := by decide +kernel
theorem dX7_isStruckNow_14 : decode cX7_isStruckNow 14 = .ok (.iload_n 2, 1) := by decide +kernel
theorem dX7_isStruckNow_15 : decode cX7_isStruckNow 15 = .ok (.iaload, 1) := by decide +kernel
theorem dX7_isStruckNow_16 : decode cX7_isStruckNow 16 = .ok (.iconst 1, 1) := by decide +kernel
theorem dX7_isStruckNow_17 : decode cX7_isStruckNow 17 = .ok (.if_icmp .ne 15, 3) := by decide +kernel
theorem dX7_isStruckNow_20 : decode cX7_isStruckNow 20 = .ok (.aload_n 0, 1) := by decide +kernel
theorem dX7_isStruckNow_21 : decode cX7_isStruckNow 21 = .ok (.getfield 40, 3) := by decide +kernel
theorem dX7_isStruckNow_24 : decode cX7_isStruckNow 24 = .ok (.iload_n 2, 1) := by decide +kernel
theorem dX7_isStruckNow_25 : decode cX7_isStruckNow 25 = .ok (.iaload, 1) := by decide +kernel
theorem dX7_isStruckNow_26 : decode cX7_isStruckNow 26 = .ok (.iload_n 1, 1) := by decide +kernel
theorem dX7_isStruckNow_27 : decode cX7_isStruckNow 27 = .ok (.if_icmp .ne 5, 3) := by decide +kernel
theorem dX7_isStruckNow_30 : decode cX7_isStruckNow 30 = .ok (.iconst 1, 1) := by decide +kernel
theorem dX7_isStruckNow_31 : decode cX7_isStruckNow 31 = .ok (.ireturn, 1) := by decide +kernel
theorem dX7_isStruckNow_32 : decode cX7_isStruckNow 32 = .ok (.iinc 2 1, 3) := by decide +kernel
theorem dX7_isStruckNow_35 : decode cX7_isStruckNow 35 = .ok (.goto (-33), 3) := by decide +kernel
theorem dX7_isStruckNow_38 : decode cX7_isStruckNow 38 = .ok (.iconst 0, 1) := by decide +kernel
theorem dX7_isStruckNow_39 : decode cX7_isStruckNow 39 = .ok (.ireturn, 1) := by decide +kernel
theorem dX7_strike_0 : decode cX7_strike 0 = .ok (.aload_n 0, 1) := by decide +kernel
theorem dX7_strike_1 : decode cX7_strike 1 = .ok (.iconst 0, 1) := by decide +kernel
theorem dX7_strike_2 : decode cX7_strike 2 = .ok (.putfield 92, 3) := by decide +kernel
theorem dX7_strike_5 : decode cX7_strike 5 = .ok (.aload_n 0, 1) := by decide +kernel
theorem dX7_strike_6 : decode cX7_strike 6 = .ok (.iconst 0, 1) := by decide +kernel
theorem dX7_strike_7 : decode cX7_strike 7 = .ok (.putfield 96, 3) := by decide +kernel
theorem dX7_strike_10 : decode cX7_strike 10 = .ok (.aload_n 0, 1) := by decide +kernel
theorem dX7_strike_11 : decode cX7_strike 11 = .ok (.iload_n 1, 1) := by decide +kernel
theorem dX7_strike_12 : decode cX7_strike 12 = .ok (.invokevirtual 133, 3) := by decide +kernel
theorem dX7_strike_15 : decode cX7_strike 15 = .ok (.ifCond .ne 9, 3) := by decide +kernel
theorem dX7_strike_18 : decode cX7_strike 18 = .ok (.aload_n 0, 1) := by decide +kernel
theorem dX7_strike_19 : decode cX7_strike 19 = .ok (.iconst 1, 1) := by decide +kernel
theorem dX7_strike_20 : decode cX7_strike 20 = .ok (.invokevirtual 117, 3) := by decide +kernel
theorem dX7_strike_23 : decode cX7_strike 23 = .ok (.ireturn, 1) := by decide +kernel
theorem dX7_strike_24 : decode cX7_strike 24 = .ok (.aload_n 0, 1) := by decide +kernel
theorem dX7_strike_25 : decode cX7_strike 25 = .ok (.getfield 120, 3) := by decide +kernel
theorem dX7_strike_28 : decode cX7_strike 28 = .ok (.sipush 400, 3) := by decide +kernel
theorem dX7_strike_31 : decode cX7_strike 31 = .ok (.if_icmp .ne 9, 3) := by decide +kernel
theorem dX7_strike_34 : decode cX7_strike 34 = .ok (.aload_n 0, 1) := by decide +kernel
theorem dX7_strike_35 : decode cX7_strike 35 = .ok (.iconst 3, 1) := by decide +kernel
theorem dX7_strike_36 : decode cX7_strike 36 = .ok (.invokevirtual 117, 3) := by decide +kernel
theorem dX7_strike_39 : decode cX7_strike 39 = .ok (.ireturn, 1) := by decide +kernel
theorem dX7_strike_40 : decode cX7_strike 40 = .ok (.aload_n 0, 1) := by decide +kernel
theorem dX7_strike_41 : decode cX7_strike 41 = .ok (.iload_n 1, 1) := by decide +kernel
theorem dX7_strike_42 : decode cX7_strike 42 = .ok (.invokevirtual 136, 3) := by decide +kernel
theorem dX7_strike_45 : decode cX7_strike 45 = .ok (.ifCond .eq 9, 3) := by decide +kernel
theorem dX7_strike_48 : decode cX7_strike 48 = .ok (.aload_n 0, 1) := by decide +kernel
theorem dX7_strike_49 : decode cX7_strike 49 = .ok (.iconst 4, 1) := by decide +kernel
theorem dX7_strike_50 : decode cX7_strike 50 = .ok (.invokevirtual 117, 3) := by decide +kernel
theorem dX7_strike_53 : decode cX7_strike 53 = .ok (.ireturn, 1) := by decide +kernel
theorem dX7_strike_54 : decode cX7_strike 54 = .ok (.aload_n 0, 1) := by decide +kernel
theorem dX7_strike_55 : decode cX7_strike 55 = .ok (.iconst 1, 1) := by decide +kernel
theorem dX7_strike_56 : decode cX7_strike 56 = .ok (.iload_n 1, 1) := by decide +kernel
theorem dX7_strike_57 : decode cX7_strike 57 = .ok (.iconst 0, 1) := by decide +kernel
theorem dX7_strike_58 : decode cX7_strike 58 = .ok (.iconst 0, 1) := by decide +kernel
theorem dX7_strike_59 : decode cX7_strike 59 = .ok (.invokevirtual 129, 3) := by decide +kernel
theorem dX7_strike_62 : decode cX7_strike 62 = .ok (.iconst 1, 1) := by decide +kernel
theorem dX7_strike_63 : decode cX7_strike 63 = .ok (.ireturn, 1) := by decide +kernel
theorem dX7_delay_0 : decode cX7_delay 0 = .ok (.aload_n 0, 1) := by decide +kernel
theorem dX7_delay_1 : decode cX7_delay 1 = .ok (.iconst 0, 1) := by decide +kernel
theorem dX7_delay_2 : decode cX7_delay 2 = .ok (.putfield 92, 3) := by decide +kernel
theorem dX7_delay_5 : decode cX7_delay 5 = .ok (.aload_n 0, 1) := by decide +kernel
theorem dX7_delay_6 : decode cX7_delay 6 = .ok (.iconst 0, 1) := by decide +kernel
theorem dX7_delay_7 : decode cX7_delay 7 = .ok (.putfield 96, 3) := by decide +kernel
theorem dX7_delay_10 : decode cX7_delay 10 = .ok (.aload_n 0, 1) := by decide +kernel
theorem dX7_delay_11 : decode cX7_delay 11 = .ok (.iload_n 1, 1) := by decide +kernel
theorem dX7_delay_12 : decode cX7_delay 12 = .ok (.invokevirtual 133, 3) := by decide +kernel
theorem dX7_delay_15 : decode cX7_delay 15 = .ok (.ifCond .eq 17, 3) := by decide +kernel
theorem dX7_delay_18 : decode cX7_delay 18 = .ok (.iload_n 2, 1) := by decide +kernel
theorem dX7_delay_19 : decode cX7_delay 19 = .ok (.ifCond .lt 13, 3) := by decide +kernel
theorem dX7_delay_22 : decode cX7_delay 22 = .ok (.iload_n 2, 1) := by decide +kernel
theorem dX7_delay_23 : decode cX7_delay 23 = .ok (.aload_n 0, 1) := by decide +kernel
theorem dX7_delay_24 : decode cX7_delay 24 = .ok (.getfield 31, 3) := by decide +kernel
theorem dX7_delay_27 : decode cX7_delay 27 = .ok (.iload_n 1, 1) := by decide +kernel
theorem dX7_delay_28 : decode cX7_delay 28 = .ok (.iaload, 1) := by decide +kernel
theorem dX7_delay_29 : decode cX7_delay 29 = .ok (.if_icmp .lt 9, 3) := by decide +kernel
theorem dX7_delay_32 : decode cX7_delay 32 = .ok (.aload_n 0, 1) := by decide +kernel
theorem dX7_delay_33 : decode cX7_delay 33 = .ok (.iconst 1, 1) := by decide +kernel
theorem dX7_delay_34 : decode cX7_delay 34 = .ok (.invokevirtual 117, 3) := by decide +kernel
theorem dX7_delay_37 : decode cX7_delay 37 = .ok (.ireturn, 1) := by decide +kernel
theorem dX7_delay_38 : decode cX7_delay 38 = .ok (.iload_n 3, 1) := by decide +kernel
theorem dX7_delay_39 : decode cX7_delay 39 = .ok (.ifCond .lt 10, 3) := by decide +kernel
theorem dX7_delay_42 : decode cX7_delay 42 = .ok (.iload_n 3, 1) := by decide +kernel
theorem dX7_delay_43 : decode cX7_delay 43 = .ok (.sipush 500, 3) := by decide +kernel
theorem dX7_delay_46 : decode cX7_delay 46 = .ok (.if_icmp .le 9, 3) := by decide +kernel
theorem dX7_delay_49 : decode cX7_delay 49 = .ok (.aload_n 0, 1) := by decide +kernel
theorem dX7_delay_50 : decode cX7_delay 50 = .ok (.iconst 2, 1) := by decide +kernel
theorem dX7_delay_51 : decode cX7_delay 51 = .ok (.invokevirtual 117, 3) := by decide +kernel
theorem dX7_delay_54 : decode cX7_delay 54 = .ok (.ireturn, 1) := by decide +kernel
theorem dX7_delay_55 : decode cX7_delay 55 = .ok (.aload_n 0, 1) := by decide +kernel
theorem dX7_delay_56 : decode cX7_delay 56 = .ok (.getfield 120, 3) := by decide +kernel
theorem dX7_delay_59 : decode cX7_delay 59 = .ok (.sipush 400, 3) := by decide +kernel
theorem dX7_delay_62 : decode cX7_delay 62 = .ok (.if_icmp .ne 9, 3) := by decide +kernel
theorem dX7_delay_65 : decode cX7_delay 65 = .ok (.aload_n 0, 1) := by decide +kernel
theorem dX7_delay_66 : decode cX7_delay 66 = .ok (.iconst 3, 1) := by decide +kernel
theorem dX7_delay_67 : decode cX7_delay 67 = .ok (.invokevirtual 117, 3) := by decide +kernel
theorem dX7_delay_70 : decode cX7_delay 70 = .ok (.ireturn, 1) := by decide +kernel
theorem dX7_delay_71 : decode cX7_delay 71 = .ok (.aload_n 0, 1) := by decide +kernel
theorem dX7_delay_72 : decode cX7_delay 72 = .ok (.iload_n 1, 1) := by decide +kernel
theorem dX7_delay_73 : decode cX7_delay 73 = .ok (.invokevirtual 136, 3) := by decide +kernel
theorem dX7_delay_76 : decode cX7_delay 76 = .ok (.ifCond .eq 9, 3) := by decide +kernel
theorem dX7_delay_79 : decode cX7_delay 79 = .ok (.aload_n 0, 1) := by decide +kernel
theorem dX7_delay_80 : decode cX7_delay 80 = .ok (.iconst 4, 1) := by decide +kernel
theorem dX7_delay_81 : decode cX7_delay 81 = .ok (.invokevirtual 117, 3) := by decide +kernel
theorem dX7_delay_84 : decode cX7_delay 84 = .ok (.ireturn, 1) := by decide +kernel
theorem dX7_delay_85 : decode cX7_delay 85 = .ok (.aload_n 0, 1) := by decide +kernel
theorem dX7_delay_86 : decode cX7_delay 86 = .ok (.iconst 2, 1) := by decide +kernel
theorem dX7_delay_87 : decode cX7_delay 87 = .ok (.iload_n 1, 1) := by decide +kernel
theorem dX7_delay_88 : decode cX7_delay 88 = .ok (.iload_n 2, 1) := by decide +kernel
theorem dX7_delay_89 : decode cX7_delay 89 = .ok (.iload_n 3, 1) := by decide +kernel
theorem dX7_delay_90 : decode cX7_delay 90 = .ok (.invokevirtual 129, 3) := by decide +kernel
theorem dX7_delay_93 : decode cX7_delay 93 = .ok (.iconst 1, 1) := by decide +kernel
theorem dX7_delay_94 : decode cX7_delay 94 = .ok (.ireturn, 1) := by decide +kernel
theorem dX7_close_0 : decode cX7_close 0 = .ok (.aload_n 0, 1) := by decide +kernel
theorem dX7_close_1 : decode cX7_close 1 = .ok (.iconst 0, 1) := by decide +kernel
theorem dX7_close_2 : decode cX7_close 2 = .ok (.putfield 92, 3) := by decide +kernel
theorem dX7_close_5 : decode cX7_close 5 = .ok (.aload_n 0, 1) := by decide +kernel
theorem dX7_close_6 : decode cX7_close 6 = .ok (.iconst 0, 1) := by decide +kernel
theorem dX7_close_7 : decode cX7_close 7 = .ok (.putfield 96, 3) := by decide +kernel
theorem dX7_close_10 : decode cX7_close 10 = .ok (.aload_n 0, 1) := by decide +kernel
theorem dX7_close_11 : decode cX7_close 11 = .ok (.iload_n 1, 1) := by decide +kernel
theorem dX7_close_12 : decode cX7_close 12 = .ok (.invokevirtual 113, 3) := by decide +kernel
theorem dX7_close_15 : decode cX7_close 15 = .ok (.ifCond .ne 9, 3) := by decide +kernel
theorem dX7_close_18 : decode cX7_close 18 = .ok (.aload_n 0, 1) := by decide +kernel
theorem dX7_close_19 : decode cX7_close 19 = .ok (.iconst 1, 1) := by decide +kernel
theorem dX7_close_20 : decode cX7_close 20 = .ok (.invokevirtual 117, 3) := by decide +kernel
theorem dX7_close_23 : decode cX7_close 23 = .ok (.ireturn, 1) := by decide +kernel
theorem dX7_close_24 : decode cX7_close 24 = .ok (.iload_n 2, 1) := by decide +kernel
theorem dX7_close_25 : decode cX7_close 25 = .ok (.invokestatic 123, 3) := by decide +kernel
theorem dX7_close_28 : decode cX7_close 28 = .ok (.ifCond .eq 15, 3) := by decide +kernel
theorem dX7_close_31 : decode cX7_close 31 = .ok (.iload_n 3, 1) := by decide +kernel
theorem dX7_close_32 : decode cX7_close 32 = .ok (.invokestatic 123, 3) := by decide +kernel
theorem dX7_close_35 : decode cX7_close 35 = .ok (.ifCond .eq 8, 3) := by decide +kernel
theorem dX7_close_38 : decode cX7_close 38 = .ok (.iload_n 2, 1) := by decide +kernel
theorem dX7_close_39 : decode cX7_close 39 = .ok (.iload_n 3, 1) := by decide +kernel
theorem dX7_close_40 : decode cX7_close 40 = .ok (.if_icmp .le 9, 3) := by decide +kernel
theorem dX7_close_43 : decode cX7_close 43 = .ok (.aload_n 0, 1) := by decide +kernel
theorem dX7_close_44 : decode cX7_close 44 = .ok (.iconst 2, 1) := by decide +kernel
theorem dX7_close_45 : decode cX7_close 45 = .ok (.invokevirtual 117, 3) := by decide +kernel
theorem dX7_close_48 : decode cX7_close 48 = .ok (.ireturn, 1) := by decide +kernel
theorem dX7_close_49 : decode cX7_close 49 = .ok (.aload_n 0, 1) := by decide +kernel
theorem dX7_close_50 : decode cX7_close 50 = .ok (.getfield 139, 3) := by decide +kernel
theorem dX7_close_53 : decode cX7_close 53 = .ok (.bipush 60, 2) := by decide +kernel
theorem dX7_close_55 : decode cX7_close 55 = .ok (.if_icmp .eq 13, 3) := by decide +kernel
theorem dX7_close_58 : decode cX7_close 58 = .ok (.aload_n 0, 1) := by decide +kernel
theorem dX7_close_59 : decode cX7_close 59 = .ok (.getfield 120, 3) := by decide +kernel
theorem dX7_close_62 : decode cX7_close 62 = .ok (.sipush 400, 3) := by decide +kernel
theorem dX7_close_65 : decode cX7_close 65 = .ok (.if_icmp .ne 9, 3) := by decide +kernel
theorem dX7_close_68 : decode cX7_close 68 = .ok (.aload_n 0, 1) := by decide +kernel
theorem dX7_close_69 : decode cX7_close 69 = .ok (.iconst 3, 1) := by decide +kernel
theorem dX7_close_70 : decode cX7_close 70 = .ok (.invokevirtual 117, 3) := by decide +kernel
theorem dX7_close_73 : decode cX7_close 73 = .ok (.ireturn, 1) := by decide +kernel
theorem dX7_close_74 : decode cX7_close 74 = .ok (.aload_n 0, 1) := by decide +kernel
theorem dX7_close_75 : decode cX7_close 75 = .ok (.iconst 3, 1) := by decide +kernel
theorem dX7_close_76 : decode cX7_close 76 = .ok (.iload_n 1, 1) := by decide +kernel
theorem dX7_close_77 : decode cX7_close 77 = .ok (.iload_n 2, 1) := by decide +kernel
theorem dX7_close_78 : decode cX7_close 78 = .ok (.iload_n 3, 1) := by decide +kernel
theorem dX7_close_79 : decode cX7_close 79 = .ok (.invokevirtual 129, 3) := by decide +kernel
theorem dX7_close_82 : decode cX7_close 82 = .ok (.aload_n 0, 1) := by decide +kernel
theorem dX7_close_83 : decode cX7_close 83 = .ok (.dup, 1) := by decide +kernel
theorem dX7_close_84 : decode cX7_close 84 = .ok (.getfield 139, 3) := by decide +kernel
theorem dX7_close_87 : decode cX7_close 87 = .ok (.iconst 1, 1) := by decide +kernel
theorem dX7_close_88 : decode cX7_close 88 = .ok (.iadd, 1) := by decide +kernel
theorem dX7_close_89 : decode cX7_close 89 = .ok (.putfield 139, 3) := by decide +kernel
theorem dX7_close_92 : decode cX7_close 92 = .ok (.iconst 1, 1) := by decide +kernel
theorem dX7_close_93 : decode cX7_close 93 = .ok (.ireturn, 1) := by decide +kernel
theorem dX7_changes_0 : decode cX7_changes 0 = .ok (.aload_n 0, 1) := by decide +kernel
theorem dX7_changes_1 : decode cX7_changes 1 = .ok (.iconst 0, 1) := by decide +kernel
theorem dX7_changes_2 : decode cX7_changes 2 = .ok (.putfield 92, 3) := by decide +kernel
theorem dX7_changes_5 : decode cX7_changes 5 = .ok (.aload_n 0, 1) := by decide +kernel
theorem dX7_changes_6 : decode cX7_changes 6 = .ok (.iconst 0, 1) := by decide +kernel
theorem dX7_changes_7 : decode cX7_changes 7 = .ok (.putfield 96, 3) := by decide +kernel
theorem dX7_changes_10 : decode cX7_changes 10 = .ok (.aload_n 0, 1) := by decide +kernel
theorem dX7_changes_11 : decode cX7_changes 11 = .ok (.getfield 120, 3) := by decide +kernel
theorem dX7_changes_14 : decode cX7_changes 14 = .ok (.ireturn, 1) := by decide +kernel
theorem dX7_undo_0 : decode cX7_undo 0 = .ok (.aload_n 0, 1) := by decide +kernel
theorem dX7_undo_1 : decode cX7_undo 1 = .ok (.iconst 0, 1) := by decide +kernel
theorem dX7_undo_2 : decode cX7_undo 2 = .ok (.putfield 92, 3) := by decide +kernel
theorem dX7_undo_5 : decode cX7_undo 5 = .ok (.aload_n 0, 1) := by decide +kernel
theorem dX7_undo_6 : decode cX7_undo 6 = .ok (.iconst 0, 1) := by decide +kernel
theorem dX7_undo_7 : decode cX7_undo 7 = .ok (.putfield 96, 3) := by decide +kernel
theorem dX7_undo_10 : decode cX7_undo 10 = .ok (.aload_n 0, 1) := by decide +kernel
theorem dX7_undo_11 : decode cX7_undo 11 = .ok (.getfield 120, 3) := by decide +kernel
theorem dX7_undo_14 : decode cX7_undo 14 = .ok (.ifCond .ne 10, 3) := by decide +kernel
theorem dX7_undo_17 : decode cX7_undo 17 = .ok (.aload_n 0, 1) := by decide +kernel
theorem dX7_undo_18 : decode cX7_undo 18 = .ok (.bipush 6, 2) := by decide +kernel
theorem dX7_undo_20 : decode cX7_undo 20 = .ok (.invokevirtual 117, 3) := by decide +kernel
theorem dX7_undo_23 : decode cX7_undo 23 = .ok (.ireturn, 1) := by decide +kernel
theorem dX7_undo_24 : decode cX7_undo 24 = .ok (.aload_n 0, 1) := by decide +kernel
theorem dX7_undo_25 : decode cX7_undo 25 = .ok (.dup, 1) := by decide +kernel
theorem dX7_undo_26 : decode cX7_undo 26 = .ok (.getfield 120, 3) := by decide +kernel
theorem dX7_undo_29 : decode cX7_undo 29 = .ok (.iconst 1, 1) := by decide +kernel
theorem dX7_undo_30 : decode cX7_undo 30 = .ok (.isub, 1) := by decide +kernel
theorem dX7_undo_31 : decode cX7_undo 31 = .ok (.putfield 120, 3) := by decide +kernel
theorem dX7_undo_34 : decode cX7_undo 34 = .ok (.aload_n 0, 1) := by decide +kernel
theorem dX7_undo_35 : decode cX7_undo 35 = .ok (.getfield 37, 3) := by decide +kernel
theorem dX7_undo_38 : decode cX7_undo 38 = .ok (.aload_n 0, 1) := by decide +kernel
theorem dX7_undo_39 : decode cX7_undo 39 = .ok (.getfield 120, 3) := by decide +kernel
theorem dX7_undo_42 : decode cX7_undo 42 = .ok (.iaload, 1) := by decide +kernel
theorem dX7_undo_43 : decode cX7_undo 43 = .ok (.iconst 3, 1) := by decide +kernel
theorem dX7_undo_44 : decode cX7_undo 44 = .ok (.if_icmp .ne 13, 3) := by decide +kernel
theorem dX7_undo_47 : decode cX7_undo 47 = .ok (.aload_n 0, 1) := by decide +kernel
theorem dX7_undo_48 : decode cX7_undo 48 = .ok (.dup, 1) := by decide +kernel
theorem dX7_undo_49 : decode cX7_undo 49 = .ok (.getfield 139, 3) := by decide +kernel
theorem dX7_undo_52 : decode cX7_undo 52 = .ok (.iconst 1, 1) := by decide +kernel
theorem dX7_undo_53 : decode cX7_undo 53 = .ok (.isub, 1) := by decide +kernel
theorem dX7_undo_54 : decode cX7_undo 54 = .ok (.putfield 139, 3) := by decide +kernel
theorem dX7_undo_57 : decode cX7_undo 57 = .ok (.aload_n 0, 1) := by decide +kernel
theorem dX7_undo_58 : decode cX7_undo 58 = .ok (.getfield 37, 3) := by decide +kernel
theorem dX7_undo_61 : decode cX7_undo 61 = .ok (.aload_n 0, 1) := by decide +kernel
theorem dX7_undo_62 : decode cX7_undo 62 = .ok (.getfield 120, 3) := by decide +kernel
theorem dX7_undo_65 : decode cX7_undo 65 = .ok (.iaload, 1) := by decide +kernel
theorem dX7_undo_66 : decode cX7_undo 66 = .ok (.ifCond .ne 31, 3) := by decide +kernel
theorem dX7_undo_69 : decode cX7_undo 69 = .ok (.aload_n 0, 1) := by decide +kernel
theorem dX7_undo_70 : decode cX7_undo 70 = .ok (.dup, 1) := by decide +kernel
theorem dX7_undo_71 : decode cX7_undo 71 = .ok (.getfield 102, 3) := by decide +kernel
theorem dX7_undo_74 : decode cX7_undo 74 = .ok (.iconst 1, 1) := by decide +kernel
theorem dX7_undo_75 : decode cX7_undo 75 = .ok (.isub, 1) := by decide +kernel
theorem dX7_undo_76 : decode cX7_undo 76 = .ok (.putfield 102, 3) := by decide +kernel
theorem dX7_undo_79 : decode cX7_undo 79 = .ok (.aload_n 0, 1) := by decide +kernel
theorem dX7_undo_80 : decode cX7_undo 80 = .ok (.dup, 1) := by decide +kernel
theorem dX7_undo_81 : decode cX7_undo 81 = .ok (.getfield 126, 3) := by decide +kernel
theorem dX7_undo_84 : decode cX7_undo 84 = .ok (.aload_n 0, 1) := by decide +kernel
theorem dX7_undo_85 : decode cX7_undo 85 = .ok (.getfield 31, 3) := by decide +kernel
theorem dX7_undo_88 : decode cX7_undo 88 = .ok (.aload_n 0, 1) := by decide +kernel
theorem dX7_undo_89 : decode cX7_undo 89 = .ok (.getfield 102, 3) := by decide +kernel
theorem dX7_undo_92 : decode cX7_undo 92 = .ok (.iaload, 1) := by decide +kernel
theorem dX7_undo_93 : decode cX7_undo 93 = .ok (.isub, 1) := by decide +kernel
theorem dX7_undo_94 : decode cX7_undo 94 = .ok (.putfield 126, 3) := by decide +kernel
theorem dX7_undo_97 : decode cX7_undo 97 = .ok (.iconst 1, 1) := by decide +kernel
theorem dX7_undo_98 : decode cX7_undo 98 = .ok (.ireturn, 1) := by decide +kernel
theorem dX7_told_0 : decode cX7_told 0 = .ok (.aload_n 0, 1) := by decide +kernel
theorem dX7_told_1 : decode cX7_told 1 = .ok (.iconst 0, 1) := by decide +kernel
theorem dX7_told_2 : decode cX7_told 2 = .ok (.putfield 92, 3) := by decide +kernel
theorem dX7_told_5 : decode cX7_told 5 = .ok (.aload_n 0, 1) := by decide +kernel
theorem dX7_told_6 : decode cX7_told 6 = .ok (.iconst 0, 1) := by decide +kernel
theorem dX7_told_7 : decode cX7_told 7 = .ok (.putfield 96, 3) := by decide +kernel
theorem dX7_told_10 : decode cX7_told 10 = .ok (.aload_n 0, 1) := by decide +kernel
theorem dX7_told_11 : decode cX7_told 11 = .ok (.iload_n 1, 1) := by decide +kernel
theorem dX7_told_12 : decode cX7_told 12 = .ok (.invokevirtual 133, 3) := by decide +kernel
theorem dX7_told_15 : decode cX7_told 15 = .ok (.ifCond .ne 9, 3) := by decide +kernel
theorem dX7_told_18 : decode cX7_told 18 = .ok (.aload_n 0, 1) := by decide +kernel
theorem dX7_told_19 : decode cX7_told 19 = .ok (.iconst 1, 1) := by decide +kernel
theorem dX7_told_20 : decode cX7_told 20 = .ok (.invokevirtual 109, 3) := by decide +kernel
theorem dX7_told_23 : decode cX7_told 23 = .ok (.ireturn, 1) := by decide +kernel
theorem dX7_told_24 : decode cX7_told 24 = .ok (.iload_n 2, 1) := by decide +kernel
theorem dX7_told_25 : decode cX7_told 25 = .ok (.tableswitch 110 0 7 #[47, 54, 61, 68, 75, 82, 89, 96], 47) := by decide +kernel
theorem dX7_told_72 : decode cX7_told 72 = .ok (.aload_n 0, 1) := by decide +kernel
theorem dX7_told_73 : decode cX7_told 73 = .ok (.getfield 16, 3) := by decide +kernel
theorem dX7_told_76 : decode cX7_told 76 = .ok (.iload_n 1, 1) := by decide +kernel
theorem dX7_told_77 : decode cX7_told 77 = .ok (.iaload, 1) := by decide +kernel
theorem dX7_told_78 : decode cX7_told 78 = .ok (.ireturn, 1) := by decide +kernel
theorem dX7_told_79 : decode cX7_told 79 = .ok (.aload_n 0, 1) := by decide +kernel
theorem dX7_told_80 : decode cX7_told 80 = .ok (.getfield 19, 3) := by decide +kernel
theorem dX7_told_83 : decode cX7_told 83 = .ok (.iload_n 1, 1) := by decide +kernel
theorem dX7_told_84 : decode cX7_told 84 = .ok (.iaload, 1) := by decide +kernel
theorem dX7_told_85 : decode cX7_told 85 = .ok (.ireturn, 1) := by decide +kernel
theorem dX7_told_86 : decode cX7_told 86 = .ok (.aload_n 0, 1) := by decide +kernel
theorem dX7_told_87 : decode cX7_told 87 = .ok (.getfield 22, 3) := by decide +kernel
theorem dX7_told_90 : decode cX7_told 90 = .ok (.iload_n 1, 1) := by decide +kernel
theorem dX7_told_91 : decode cX7_told 91 = .ok (.iaload, 1) := by decide +kernel
theorem dX7_told_92 : decode cX7_told 92 = .ok (.ireturn, 1) := by decide +kernel
theorem dX7_told_93 : decode cX7_told 93 = .ok (.aload_n 0, 1) := by decide +kernel
theorem dX7_told_94 : decode cX7_told 94 = .ok (.getfield 25, 3) := by decide +kernel
theorem dX7_told_97 : decode cX7_told 97 = .ok (.iload_n 1, 1) := by decide +kernel
theorem dX7_told_98 : decode cX7_told 98 = .ok (.iaload, 1) := by decide +kernel
theorem dX7_told_99 : decode cX7_told 99 = .ok (.ireturn, 1) := by decide +kernel
theorem dX7_told_100 : decode cX7_told 100 = .ok (.aload_n 0, 1) := by decide +kernel
theorem dX7_told_101 : decode cX7_told 101 = .ok (.getfield 28, 3) := by decide +kernel
theorem dX7_told_104 : decode cX7_told 104 = .ok (.iload_n 1, 1) := by decide +kernel
theorem dX7_told_105 : decode cX7_told 105 = .ok (.iaload, 1) := by decide +kernel
theorem dX7_told_106 : decode cX7_told 106 = .ok (.ireturn, 1) := by decide +kernel
theorem dX7_told_107 : decode cX7_told 107 = .ok (.aload_n 0, 1) := by decide +kernel
theorem dX7_told_108 : decode cX7_told 108 = .ok (.getfield 31, 3) := by decide +kernel
theorem dX7_told_111 : decode cX7_told 111 = .ok (.iload_n 1, 1) := by decide +kernel
theorem dX7_told_112 : decode cX7_told 112 = .ok (.iaload, 1) := by decide +kernel
theorem dX7_told_113 : decode cX7_told 113 = .ok (.ireturn, 1) := by decide +kernel
theorem dX7_told_114 : decode cX7_told 114 = .ok (.aload_n 0, 1) := by decide +kernel
theorem dX7_told_115 : decode cX7_told 115 = .ok (.getfield 34, 3) := by decide +kernel
theorem dX7_told_118 : decode cX7_told 118 = .ok (.iload_n 1, 1) := by decide +kernel
theorem dX7_told_119 : decode cX7_told 119 = .ok (.iaload, 1) := by decide +kernel
theorem dX7_told_120 : decode cX7_told 120 = .ok (.ireturn, 1) := by decide +kernel
theorem dX7_told_121 : decode cX7_told 121 = .ok (.aload_n 0, 1) := by decide +kernel
theorem dX7_told_122 : decode cX7_told 122 = .ok (.iload_n 1, 1) := by decide +kernel
theorem dX7_told_123 : decode cX7_told 123 = .ok (.invokevirtual 136, 3) := by decide +kernel
theorem dX7_told_126 : decode cX7_told 126 = .ok (.ifCond .eq 7, 3) := by decide +kernel
theorem dX7_told_129 : decode cX7_told 129 = .ok (.iconst 1, 1) := by decide +kernel
theorem dX7_told_130 : decode cX7_told 130 = .ok (.goto 4, 3) := by decide +kernel
theorem dX7_told_133 : decode cX7_told 133 = .ok (.iconst 0, 1) := by decide +kernel
theorem dX7_told_134 : decode cX7_told 134 = .ok (.ireturn, 1) := by decide +kernel
theorem dX7_told_135 : decode cX7_told 135 = .ok (.aload_n 0, 1) := by decide +kernel
theorem dX7_told_136 : decode cX7_told 136 = .ok (.iconst 2, 1) := by decide +kernel
theorem dX7_told_137 : decode cX7_told 137 = .ok (.invokevirtual 109, 3) := by decide +kernel
theorem dX7_told_140 : decode cX7_told 140 = .ok (.ireturn, 1) := by decide +kernel
theorem dX7_known_0 : decode cX7_known 0 = .ok (.iconst 0, 1) := by decide +kernel
theorem dX7_known_1 : decode cX7_known 1 = .ok (.istore_n 2, 1) := by decide +kernel
theorem dX7_known_2 : decode cX7_known 2 = .ok (.iload_n 2, 1) := by decide +kernel
theorem dX7_known_3 : decode cX7_known 3 = .ok (.aload_n 0, 1) := by decide +kernel
theorem dX7_known_4 : decode cX7_known 4 = .ok (.getfield 102, 3) := by decide +kernel
theorem dX7_known_7 : decode cX7_known 7 = .ok (.if_icmp .ge 23, 3) := by decide +kernel
theorem dX7_known_10 : decode cX7_known 10 = .ok (.aload_n 0, 1) := by decide +kernel
theorem dX7_known_11 : decode cX7_known 11 = .ok (.getfield 49, 3) := by decide +kernel
theorem dX7_known_14 : decode cX7_known 14 = .ok (.iload_n 2, 1) := by decide +kernel
theorem dX7_known_15 : decode cX7_known 15 = .ok (.iconst 0, 1) := by decide +kernel
theorem dX7_known_16 : decode cX7_known 16 = .ok (.bastore, 1) := by decide +kernel
theorem dX7_known_17 : decode cX7_known 17 = .ok (.aload_n 0, 1) := by decide +kernel
theorem dX7_known_18 : decode cX7_known 18 = .ok (.getfield 53, 3) := by decide +kernel
theorem dX7_known_21 : decode cX7_known 21 = .ok (.iload_n 2, 1) := by decide +kernel
theorem dX7_known_22 : decode cX7_known 22 = .ok (.iconst 0, 1) := by decide +kernel
theorem dX7_known_23 : decode cX7_known 23 = .ok (.bastore, 1) := by decide +kernel
theorem dX7_known_24 : decode cX7_known 24 = .ok (.iinc 2 1, 3) := by decide +kernel
theorem dX7_known_27 : decode cX7_known 27 = .ok (.goto (-25), 3) := by decide +kernel
theorem dX7_known_30 : decode cX7_known 30 = .ok (.iconst 0, 1) := by decide +kernel
theorem dX7_known_31 : decode cX7_known 31 = .ok (.istore_n 2, 1) := by decide +kernel
theorem dX7_known_32 : decode cX7_known 32 = .ok (.iload_n 2, 1) := by decide +kernel
theorem dX7_known_33 : decode cX7_known 33 = .ok (.iload_n 1, 1) := by decide +kernel
theorem dX7_known_34 : decode cX7_known 34 = .ok (.if_icmp .ge 52, 3) := by decide +kernel
theorem dX7_known_37 : decode cX7_known 37 = .ok (.aload_n 0, 1) := by decide +kernel
theorem dX7_known_38 : decode cX7_known 38 = .ok (.getfield 37, 3) := by decide +kernel
theorem dX7_known_41 : decode cX7_known 41 = .ok (.iload_n 2, 1) := by decide +kernel
theorem dX7_known_42 : decode cX7_known 42 = .ok (.iaload, 1) := by decide +kernel
theorem dX7_known_43 : decode cX7_known 43 = .ok (.ifCond .ne 15, 3) := by decide +kernel
theorem dX7_known_46 : decode cX7_known 46 = .ok (.aload_n 0, 1) := by decide +kernel
theorem dX7_known_47 : decode cX7_known 47 = .ok (.getfield 49, 3) := by decide +kernel
theorem dX7_known_50 : decode cX7_known 50 = .ok (.aload_n 0, 1) := by decide +kernel
theorem dX7_known_51 : decode cX7_known 51 = .ok (.getfield 40, 3) := by decide +kernel
theorem dX7_known_54 : decode cX7_known 54 = .ok (.iload_n 2, 1) := by decide +kernel
theorem dX7_known_55 : decode cX7_known 55 = .ok (.iaload, 1) := by decide +kernel
theorem dX7_known_56 : decode cX7_known 56 = .ok (.iconst 1, 1) := by decide +kernel
theorem dX7_known_57 : decode cX7_known 57 = .ok (.bastore, 1) := by decide +kernel
theorem dX7_known_58 : decode cX7_known 58 = .ok (.aload_n 0, 1) := by decide +kernel
theorem dX7_known_59 : decode cX7_known 59 = .ok (.getfield 37, 3) := by decide +kernel
theorem dX7_known_62 : decode cX7_known 62 = .ok (.iload_n 2, 1) := by decide +kernel
theorem dX7_known_63 : decode cX7_known 63 = .ok (.iaload, 1) := by decide +kernel
theorem dX7_known_64 : decode cX7_known 64 = .ok (.iconst 1, 1) := by decide +kernel
theorem dX7_known_65 : decode cX7_known 65 = .ok (.if_icmp .ne 15, 3) := by decide +kernel
theorem dX7_known_68 : decode cX7_known 68 = .ok (.aload_n 0, 1) := by decide +kernel
theorem dX7_known_69 : decode cX7_known 69 = .ok (.getfield 53, 3) := by decide +kernel
theorem dX7_known_72 : decode cX7_known 72 = .ok (.aload_n 0, 1) := by decide +kernel
theorem dX7_known_73 : decode cX7_known 73 = .ok (.getfield 40, 3) := by decide +kernel
theorem dX7_known_76 : decode cX7_known 76 = .ok (.iload_n 2, 1) := by decide +kernel
theorem dX7_known_77 : decode cX7_known 77 = .ok (.iaload, 1) := by decide +kernel
theorem dX7_known_78 : decode cX7_known 78 = .ok (.iconst 1, 1) := by decide +kernel
theorem dX7_known_79 : decode cX7_known 79 = .ok (.bastore, 1) := by decide +kernel
theorem dX7_known_80 : decode cX7_known 80 = .ok (.iinc 2 1, 3) := by decide +kernel
theorem dX7_known_83 : decode cX7_known 83 = .ok (.goto (-51), 3) := by decide +kernel
theorem dX7_known_86 : decode cX7_known 86 = .ok (.return_, 1) := by decide +kernel
theorem dX7_leavesAt_0 : decode cX7_leavesAt 0 = .ok (.iconst 0, 1) := by decide +kernel
theorem dX7_leavesAt_1 : decode cX7_leavesAt 1 = .ok (.istore 4, 2) := by decide +kernel
theorem dX7_leavesAt_3 : decode cX7_leavesAt 3 = .ok (.iconst 0, 1) := by decide +kernel
theorem dX7_leavesAt_4 : decode cX7_leavesAt 4 = .ok (.istore 5, 2) := by decide +kernel
theorem dX7_leavesAt_6 : decode cX7_leavesAt 6 = .ok (.iload 5, 2) := by decide +kernel
theorem dX7_leavesAt_8 : decode cX7_leavesAt 8 = .ok (.iload_n 3, 1) := by decide +kernel
theorem dX7_leavesAt_9 : decode cX7_leavesAt 9 = .ok (.if_icmp .ge 51, 3) := by decide +kernel
theorem dX7_leavesAt_12 : decode cX7_leavesAt 12 = .ok (.aload_n 0, 1) := by decide +kernel
theorem dX7_leavesAt_13 : decode cX7_leavesAt 13 = .ok (.getfield 37, 3) := by decide +kernel
theorem dX7_leavesAt_16 : decode cX7_leavesAt 16 = .ok (.iload 5, 2) := by decide +kernel
theorem dX7_leavesAt_18 : decode cX7_leavesAt 18 = .ok (.iaload, 1) := by decide +kernel
theorem dX7_leavesAt_19 : decode cX7_leavesAt 19 = .ok (.iconst 2, 1) := by decide +kernel
theorem dX7_leavesAt_20 : decode cX7_leavesAt 20 = .ok (.if_icmp .ne 34, 3) := by decide +kernel
theorem dX7_leavesAt_23 : decode cX7_leavesAt 23 = .ok (.aload_n 0, 1) := by decide +kernel
theorem dX7_leavesAt_24 : decode cX7_leavesAt 24 = .ok (.getfield 40, 3) := by decide +kernel
theorem dX7_leavesAt_27 : decode cX7_leavesAt 27 = .ok (.iload 5, 2) := by decide +kernel
theorem dX7_leavesAt_29 : decode cX7_leavesAt 29 = .ok (.iaload, 1) := by decide +kernel
theorem dX7_leavesAt_30 : decode cX7_leavesAt 30 = .ok (.iload_n 1, 1) := by decide +kernel
theorem dX7_leavesAt_31 : decode cX7_leavesAt 31 = .ok (.if_icmp .ne 23, 3) := by decide +kernel
theorem dX7_leavesAt_34 : decode cX7_leavesAt 34 = .ok (.aload_n 0, 1) := by decide +kernel
theorem dX7_leavesAt_35 : decode cX7_leavesAt 35 = .ok (.getfield 43, 3) := by decide +kernel
theorem dX7_leavesAt_38 : decode cX7_leavesAt 38 = .ok (.iload 5, 2) := by decide +kernel
theorem dX7_leavesAt_40 : decode cX7_leavesAt 40 = .ok (.iaload, 1) := by decide +kernel
theorem dX7_leavesAt_41 : decode cX7_leavesAt 41 = .ok (.iload_n 2, 1) := by decide +kernel
theorem dX7_leavesAt_42 : decode cX7_leavesAt 42 = .ok (.if_icmp .ne 12, 3) := by decide +kernel
theorem dX7_leavesAt_45 : decode cX7_leavesAt 45 = .ok (.aload_n 0, 1) := by decide +kernel
theorem dX7_leavesAt_46 : decode cX7_leavesAt 46 = .ok (.getfield 46, 3) := by decide +kernel
theorem dX7_leavesAt_49 : decode cX7_leavesAt 49 = .ok (.iload 5, 2) := by decide +kernel
theorem dX7_leavesAt_51 : decode cX7_leavesAt 51 = .ok (.iaload, 1) := by decide +kernel
theorem dX7_leavesAt_52 : decode cX7_leavesAt 52 = .ok (.istore 4, 2) := by decide +kernel
theorem dX7_leavesAt_54 : decode cX7_leavesAt 54 = .ok (.iinc 5 1, 3) := by decide +kernel
theorem dX7_leavesAt_57 : decode cX7_leavesAt 57 = .ok (.goto (-51), 3) := by decide +kernel
theorem dX7_leavesAt_60 : decode cX7_leavesAt 60 = .ok (.aload_n 0, 1) := by decide +kernel
theorem dX7_leavesAt_61 : decode cX7_leavesAt 61 = .ok (.getfield 25, 3) := by decide +kernel
theorem dX7_leavesAt_64 : decode cX7_leavesAt 64 = .ok (.iload_n 1, 1) := by decide +kernel
theorem dX7_leavesAt_65 : decode cX7_leavesAt 65 = .ok (.iaload, 1) := by decide +kernel
theorem dX7_leavesAt_66 : decode cX7_leavesAt 66 = .ok (.aload_n 0, 1) := by decide +kernel
theorem dX7_leavesAt_67 : decode cX7_leavesAt 67 = .ok (.getfield 22, 3) := by decide +kernel
theorem dX7_leavesAt_70 : decode cX7_leavesAt 70 = .ok (.iload_n 1, 1) := by decide +kernel
theorem dX7_leavesAt_71 : decode cX7_leavesAt 71 = .ok (.iaload, 1) := by decide +kernel
theorem dX7_leavesAt_72 : decode cX7_leavesAt 72 = .ok (.iconst 1, 1) := by decide +kernel
theorem dX7_leavesAt_73 : decode cX7_leavesAt 73 = .ok (.if_icmp .ne 14, 3) := by decide +kernel
theorem dX7_leavesAt_76 : decode cX7_leavesAt 76 = .ok (.iload_n 2, 1) := by decide +kernel
theorem dX7_leavesAt_77 : decode cX7_leavesAt 77 = .ok (.aload_n 0, 1) := by decide +kernel
theorem dX7_leavesAt_78 : decode cX7_leavesAt 78 = .ok (.getfield 34, 3) := by decide +kernel
theorem dX7_leavesAt_81 : decode cX7_leavesAt 81 = .ok (.iload_n 1, 1) := by decide +kernel
theorem dX7_leavesAt_82 : decode cX7_leavesAt 82 = .ok (.iaload, 1) := by decide +kernel
theorem dX7_leavesAt_83 : decode cX7_leavesAt 83 = .ok (.imul, 1) := by decide +kernel
theorem dX7_leavesAt_84 : decode cX7_leavesAt 84 = .ok (.goto 4, 3) := by decide +kernel
theorem dX7_leavesAt_87 : decode cX7_leavesAt 87 = .ok (.iload_n 2, 1) := by decide +kernel
theorem dX7_leavesAt_88 : decode cX7_leavesAt 88 = .ok (.iadd, 1) := by decide +kernel
theorem dX7_leavesAt_89 : decode cX7_leavesAt 89 = .ok (.iload 4, 2) := by decide +kernel
theorem dX7_leavesAt_91 : decode cX7_leavesAt 91 = .ok (.iadd, 1) := by decide +kernel
theorem dX7_leavesAt_92 : decode cX7_leavesAt 92 = .ok (.ireturn, 1) := by decide +kernel
theorem dX7_isClosed_0 : decode cX7_isClosed 0 = .ok (.iconst 0, 1) := by decide +kernel
theorem dX7_isClosed_1 : decode cX7_isClosed 1 = .ok (.istore 4, 2) := by decide +kernel
theorem dX7_isClosed_3 : decode cX7_isClosed 3 = .ok (.iload 4, 2) := by decide +kernel
theorem dX7_isClosed_5 : decode cX7_isClosed 5 = .ok (.iload_n 3, 1) := by decide +kernel
theorem dX7_isClosed_6 : decode cX7_isClosed 6 = .ok (.if_icmp .ge 55, 3) := by decide +kernel
theorem dX7_isClosed_9 : decode cX7_isClosed 9 = .ok (.aload_n 0, 1) := by decide +kernel
theorem dX7_isClosed_10 : decode cX7_isClosed 10 = .ok (.getfield 37, 3) := by decide +kernel
theorem dX7_isClosed_13 : decode cX7_isClosed 13 = .ok (.iload 4, 2) := by decide +kernel
theorem dX7_isClosed_15 : decode cX7_isClosed 15 = .ok (.iaload, 1) := by decide +kernel
theorem dX7_isClosed_16 : decode cX7_isClosed 16 = .ok (.iconst 3, 1) := by decide +kernel
theorem dX7_isClosed_17 : decode cX7_isClosed 17 = .ok (.if_icmp .ne 38, 3) := by decide +kernel
theorem dX7_isClosed_20 : decode cX7_isClosed 20 = .ok (.aload_n 0, 1) := by decide +kernel
theorem dX7_isClosed_21 : decode cX7_isClosed 21 = .ok (.getfield 40, 3) := by decide +kernel
theorem dX7_isClosed_24 : decode cX7_isClosed 24 = .ok (.iload 4, 2) := by decide +kernel
theorem dX7_isClosed_26 : decode cX7_isClosed 26 = .ok (.iaload, 1) := by decide +kernel
theorem dX7_isClosed_27 : decode cX7_isClosed 27 = .ok (.iload_n 1, 1) := by decide +kernel
theorem dX7_isClosed_28 : decode cX7_isClosed 28 = .ok (.if_icmp .ne 27, 3) := by decide +kernel
theorem dX7_isClosed_31 : decode cX7_isClosed 31 = .ok (.aload_n 0, 1) := by decide +kernel
theorem dX7_isClosed_32 : decode cX7_isClosed 32 = .ok (.getfield 43, 3) := by decide +kernel
theorem dX7_isClosed_35 : decode cX7_isClosed 35 = .ok (.iload 4, 2) := by decide +kernel
theorem dX7_isClosed_37 : decode cX7_isClosed 37 = .ok (.iaload, 1) := by decide +kernel
theorem dX7_isClosed_38 : decode cX7_isClosed 38 = .ok (.iload_n 2, 1) := by decide +kernel
theorem dX7_isClosed_39 : decode cX7_isClosed 39 = .ok (.if_icmp .gt 16, 3) := by decide +kernel
theorem dX7_isClosed_42 : decode cX7_isClosed 42 = .ok (.iload_n 2, 1) := by decide +kernel
theorem dX7_isClosed_43 : decode cX7_isClosed 43 = .ok (.aload_n 0, 1) := by decide +kernel
theorem dX7_isClosed_44 : decode cX7_isClosed 44 = .ok (.getfield 46, 3) := by decide +kernel
theorem dX7_isClosed_47 : decode cX7_isClosed 47 = .ok (.iload 4, 2) := by decide +kernel
theorem dX7_isClosed_49 : decode cX7_isClosed 49 = .ok (.iaload, 1) := by decide +kernel
theorem dX7_isClosed_50 : decode cX7_isClosed 50 = .ok (.if_icmp .gt 5, 3) := by decide +kernel
theorem dX7_isClosed_53 : decode cX7_isClosed 53 = .ok (.iconst 1, 1) := by decide +kernel
theorem dX7_isClosed_54 : decode cX7_isClosed 54 = .ok (.ireturn, 1) := by decide +kernel
theorem dX7_isClosed_55 : decode cX7_isClosed 55 = .ok (.iinc 4 1, 3) := by decide +kernel
theorem dX7_isClosed_58 : decode cX7_isClosed 58 = .ok (.goto (-55), 3) := by decide +kernel
theorem dX7_isClosed_61 : decode cX7_isClosed 61 = .ok (.iconst 0, 1) := by decide +kernel
theorem dX7_isClosed_62 : decode cX7_isClosed 62 = .ok (.ireturn, 1) := by decide +kernel
theorem dX7_stands_0 : decode cX7_stands 0 = .ok (.iload_n 2, 1) := by decide +kernel
theorem dX7_stands_1 : decode cX7_stands 1 = .ok (.aload_n 0, 1) := by decide +kernel
theorem dX7_stands_2 : decode cX7_stands 2 = .ok (.getfield 28, 3) := by decide +kernel
theorem dX7_stands_5 : decode cX7_stands 5 = .ok (.iload_n 1, 1) := by decide +kernel
theorem dX7_stands_6 : decode cX7_stands 6 = .ok (.iaload, 1) := by decide +kernel
theorem dX7_stands_7 : decode cX7_stands 7 = .ok (.iadd, 1) := by decide +kernel
theorem dX7_stands_8 : decode cX7_stands 8 = .ok (.istore 4, 2) := by decide +kernel
theorem dX7_stands_10 : decode cX7_stands 10 = .ok (.aload_n 0, 1) := by decide +kernel
theorem dX7_stands_11 : decode cX7_stands 11 = .ok (.getfield 49, 3) := by decide +kernel
theorem dX7_stands_14 : decode cX7_stands 14 = .ok (.iload_n 1, 1) := by decide +kernel
theorem dX7_stands_15 : decode cX7_stands 15 = .ok (.baload, 1) := by decide +kernel
theorem dX7_stands_16 : decode cX7_stands 16 = .ok (.ifCond .eq 62, 3) := by decide +kernel
theorem dX7_stands_19 : decode cX7_stands 19 = .ok (.aload_n 0, 1) := by decide +kernel
theorem dX7_stands_20 : decode cX7_stands 20 = .ok (.getfield 53, 3) := by decide +kernel
theorem dX7_stands_23 : decode cX7_stands 23 = .ok (.iload_n 1, 1) := by decide +kernel
theorem dX7_stands_24 : decode cX7_stands 24 = .ok (.baload, 1) := by decide +kernel
theorem dX7_stands_25 : decode cX7_stands 25 = .ok (.ifCond .ne 53, 3) := by decide +kernel
theorem dX7_stands_28 : decode cX7_stands 28 = .ok (.iload_n 2, 1) := by decide +kernel
theorem dX7_stands_29 : decode cX7_stands 29 = .ok (.sipush 5000, 3) := by decide +kernel
theorem dX7_stands_32 : decode cX7_stands 32 = .ok (.if_icmp .gt 46, 3) := by decide +kernel
theorem dX7_stands_35 : decode cX7_stands 35 = .ok (.iload 4, 2) := by decide +kernel
theorem dX7_stands_37 : decode cX7_stands 37 = .ok (.sipush 5000, 3) := by decide +kernel
theorem dX7_stands_40 : decode cX7_stands 40 = .ok (.if_icmp .gt 38, 3) := by decide +kernel
theorem dX7_stands_43 : decode cX7_stands 43 = .ok (.aload_n 0, 1) := by decide +kernel
theorem dX7_stands_44 : decode cX7_stands 44 = .ok (.aload_n 0, 1) := by decide +kernel
theorem dX7_stands_45 : decode cX7_stands 45 = .ok (.getfield 16, 3) := by decide +kernel
theorem dX7_stands_48 : decode cX7_stands 48 = .ok (.iload_n 1, 1) := by decide +kernel
theorem dX7_stands_49 : decode cX7_stands 49 = .ok (.iaload, 1) := by decide +kernel
theorem dX7_stands_50 : decode cX7_stands 50 = .ok (.iload_n 2, 1) := by decide +kernel
theorem dX7_stands_51 : decode cX7_stands 51 = .ok (.iload_n 3, 1) := by decide +kernel
theorem dX7_stands_52 : decode cX7_stands 52 = .ok (.invokevirtual 142, 3) := by decide +kernel
theorem dX7_stands_55 : decode cX7_stands 55 = .ok (.ifCond .ne 23, 3) := by decide +kernel
theorem dX7_stands_58 : decode cX7_stands 58 = .ok (.aload_n 0, 1) := by decide +kernel
theorem dX7_stands_59 : decode cX7_stands 59 = .ok (.aload_n 0, 1) := by decide +kernel
theorem dX7_stands_60 : decode cX7_stands 60 = .ok (.getfield 19, 3) := by decide +kernel
theorem dX7_stands_63 : decode cX7_stands 63 = .ok (.iload_n 1, 1) := by decide +kernel
theorem dX7_stands_64 : decode cX7_stands 64 = .ok (.iaload, 1) := by decide +kernel
theorem dX7_stands_65 : decode cX7_stands 65 = .ok (.iload 4, 2) := by decide +kernel
theorem dX7_stands_67 : decode cX7_stands 67 = .ok (.iload_n 3, 1) := by decide +kernel
theorem dX7_stands_68 : decode cX7_stands 68 = .ok (.invokevirtual 142, 3) := by decide +kernel
theorem dX7_stands_71 : decode cX7_stands 71 = .ok (.ifCond .ne 7, 3) := by decide +kernel
theorem dX7_stands_74 : decode cX7_stands 74 = .ok (.iconst 1, 1) := by decide +kernel
theorem dX7_stands_75 : decode cX7_stands 75 = .ok (.goto 4, 3) := by decide +kernel
theorem dX7_stands_78 : decode cX7_stands 78 = .ok (.iconst 0, 1) := by decide +kernel
theorem dX7_stands_79 : decode cX7_stands 79 = .ok (.ireturn, 1) := by decide +kernel
theorem dX7_lay_0 : decode cX7_lay 0 = .ok (.aload_n 0, 1) := by decide +kernel
theorem dX7_lay_1 : decode cX7_lay 1 = .ok (.iload_n 1, 1) := by decide +kernel
theorem dX7_lay_2 : decode cX7_lay 2 = .ok (.invokevirtual 146, 3) := by decide +kernel
theorem dX7_lay_5 : decode cX7_lay 5 = .ok (.aload_n 0, 1) := by decide +kernel
theorem dX7_lay_6 : decode cX7_lay 6 = .ok (.iconst 0, 1) := by decide +kernel
theorem dX7_lay_7 : decode cX7_lay 7 = .ok (.putfield 150, 3) := by decide +kernel
theorem dX7_lay_10 : decode cX7_lay 10 = .ok (.iconst 0, 1) := by decide +kernel
theorem dX7_lay_11 : decode cX7_lay 11 = .ok (.istore_n 3, 1) := by decide +kernel
theorem dX7_lay_12 : decode cX7_lay 12 = .ok (.iload_n 3, 1) := by decide +kernel
theorem dX7_lay_13 : decode cX7_lay 13 = .ok (.aload_n 0, 1) := by decide +kernel
theorem dX7_lay_14 : decode cX7_lay 14 = .ok (.getfield 102, 3) := by decide +kernel
theorem dX7_lay_17 : decode cX7_lay 17 = .ok (.if_icmp .ge 217, 3) := by decide +kernel
theorem dX7_lay_20 : decode cX7_lay 20 = .ok (.aload_n 0, 1) := by decide +kernel
theorem dX7_lay_21 : decode cX7_lay 21 = .ok (.getfield 49, 3) := by decide +kernel
theorem dX7_lay_24 : decode cX7_lay 24 = .ok (.iload_n 3, 1) := by decide +kernel
theorem dX7_lay_25 : decode cX7_lay 25 = .ok (.baload, 1) := by decide +kernel
theorem dX7_lay_26 : decode cX7_lay 26 = .ok (.ifCond .eq 202, 3) := by decide +kernel
theorem dX7_lay_29 : decode cX7_lay 29 = .ok (.iload_n 3, 1) := by decide +kernel
theorem dX7_lay_30 : decode cX7_lay 30 = .ok (.iload_n 2, 1) := by decide +kernel
theorem dX7_lay_31 : decode cX7_lay 31 = .ok (.if_icmp .ne 6, 3) := by decide +kernel
theorem dX7_lay_34 : decode cX7_lay 34 = .ok (.goto 194, 3) := by decide +kernel
theorem dX7_lay_37 : decode cX7_lay 37 = .ok (.iconst 0, 1) := by decide +kernel
theorem dX7_lay_38 : decode cX7_lay 38 = .ok (.istore 4, 2) := by decide +kernel
theorem dX7_lay_40 : decode cX7_lay 40 = .ok (.iload 4, 2) := by decide +kernel
theorem dX7_lay_42 : decode cX7_lay 42 = .ok (.aload_n 0, 1) := by decide +kernel
theorem dX7_lay_43 : decode cX7_lay 43 = .ok (.getfield 31, 3) := by decide +kernel
theorem dX7_lay_46 : decode cX7_lay 46 = .ok (.iload_n 3, 1) := by decide +kernel
theorem dX7_lay_47 : decode cX7_lay 47 = .ok (.iaload, 1) := by decide +kernel
theorem dX7_lay_48 : decode cX7_lay 48 = .ok (.if_icmp .ge 180, 3) := by decide +kernel
theorem dX7_lay_51 : decode cX7_lay 51 = .ok (.aload_n 0, 1) := by decide +kernel
theorem dX7_lay_52 : decode cX7_lay 52 = .ok (.iload_n 3, 1) := by decide +kernel
theorem dX7_lay_53 : decode cX7_lay 53 = .ok (.iload 4, 2) := by decide +kernel
theorem dX7_lay_55 : decode cX7_lay 55 = .ok (.iload_n 1, 1) := by decide +kernel
theorem dX7_lay_56 : decode cX7_lay 56 = .ok (.invokevirtual 153, 3) := by decide +kernel
theorem dX7_lay_59 : decode cX7_lay 59 = .ok (.istore 5, 2) := by decide +kernel
theorem dX7_lay_61 : decode cX7_lay 61 = .ok (.aload_n 0, 1) := by decide +kernel
theorem dX7_lay_62 : decode cX7_lay 62 = .ok (.iload_n 3, 1) := by decide +kernel
theorem dX7_lay_63 : decode cX7_lay 63 = .ok (.iload 5, 2) := by decide +kernel
theorem dX7_lay_65 : decode cX7_lay 65 = .ok (.iload_n 1, 1) := by decide +kernel
theorem dX7_lay_66 : decode cX7_lay 66 = .ok (.invokevirtual 157, 3) := by decide +kernel
theorem dX7_lay_69 : decode cX7_lay 69 = .ok (.ifCond .ne 6, 3) := by decide +kernel
theorem dX7_lay_72 : decode cX7_lay 72 = .ok (.goto 150, 3) := by decide +kernel
theorem dX7_lay_75 : decode cX7_lay 75 = .ok (.aload_n 0, 1) := by decide +kernel
theorem dX7_lay_76 : decode cX7_lay 76 = .ok (.getfield 150, 3) := by decide +kernel
theorem dX7_lay_79 : decode cX7_lay 79 = .ok (.istore 6, 2) := by decide +kernel
theorem dX7_lay_81 : decode cX7_lay 81 = .ok (.iload 6, 2) := by decide +kernel
theorem dX7_lay_83 : decode cX7_lay 83 = .ok (.ifCond .le 87, 3) := by decide +kernel
theorem dX7_lay_86 : decode cX7_lay 86 = .ok (.aload_n 0, 1) := by decide +kernel
theorem dX7_lay_87 : decode cX7_lay 87 = .ok (.getfield 62, 3) := by decide +kernel
theorem dX7_lay_90 : decode cX7_lay 90 = .ok (.iload 6, 2) := by decide +kernel
theorem dX7_lay_92 : decode cX7_lay 92 = .ok (.iconst 1, 1) := by decide +kernel
theorem dX7_lay_93 : decode cX7_lay 93 = .ok (.isub, 1) := by decide +kernel
theorem dX7_lay_94 : decode cX7_lay 94 = .ok (.iaload, 1) := by decide +kernel
theorem dX7_lay_95 : decode cX7_lay 95 = .ok (.iload 5, 2) := by decide +kernel
theorem dX7_lay_97 : decode cX7_lay 97 = .ok (.if_icmp .le 73, 3) := by decide +kernel
theorem dX7_lay_100 : decode cX7_lay 100 = .ok (.aload_n 0, 1) := by decide +kernel
theorem dX7_lay_101 : decode cX7_lay 101 = .ok (.getfield 56, 3) := by decide +kernel
theorem dX7_lay_104 : decode cX7_lay 104 = .ok (.iload 6, 2) := by decide +kernel
theorem dX7_lay_106 : decode cX7_lay 106 = .ok (.aload_n 0, 1) := by decide +kernel
theorem dX7_lay_107 : decode cX7_lay 107 = .ok (.getfield 56, 3) := by decide +kernel
theorem dX7_lay_110 : decode cX7_lay 110 = .ok (.iload 6, 2) := by decide +kernel
theorem dX7_lay_112 : decode cX7_lay 112 = .ok (.iconst 1, 1) := by decide +kernel
theorem dX7_lay_113 : decode cX7_lay 113 = .ok (.isub, 1) := by decide +kernel
theorem dX7_lay_114 : decode cX7_lay 114 = .ok (.iaload, 1) := by decide +kernel
theorem dX7_lay_115 : decode cX7_lay 115 = .ok (.iastore, 1) := by decide +kernel
theorem dX7_lay_116 : decode cX7_lay 116 = .ok (.aload_n 0, 1) := by decide +kernel
theorem dX7_lay_117 : decode cX7_lay 117 = .ok (.getfield 59, 3) := by decide +kernel
theorem dX7_lay_120 : decode cX7_lay 120 = .ok (.iload 6, 2) := by decide +kernel
theorem dX7_lay_122 : decode cX7_lay 122 = .ok (.aload_n 0, 1) := by decide +kernel
theorem dX7_lay_123 : decode cX7_lay 123 = .ok (.getfield 59, 3) := by decide +kernel
theorem dX7_lay_126 : decode cX7_lay 126 = .ok (.iload 6, 2) := by decide +kernel
theorem dX7_lay_128 : decode cX7_lay 128 = .ok (.iconst 1, 1) := by decide +kernel
theorem dX7_lay_129 : decode cX7_lay 129 = .ok (.isub, 1) := by decide +kernel
theorem dX7_lay_130 : decode cX7_lay 130 = .ok (.iaload, 1) := by decide +kernel
theorem dX7_lay_131 : decode cX7_lay 131 = .ok (.iastore, 1) := by decide +kernel
theorem dX7_lay_132 : decode cX7_lay 132 = .ok (.aload_n 0, 1) := by decide +kernel
theorem dX7_lay_133 : decode cX7_lay 133 = .ok (.getfield 62, 3) := by decide +kernel
theorem dX7_lay_136 : decode cX7_lay 136 = .ok (.iload 6, 2) := by decide +kernel
theorem dX7_lay_138 : decode cX7_lay 138 = .ok (.aload_n 0, 1) := by decide +kernel
theorem dX7_lay_139 : decode cX7_lay 139 = .ok (.getfield 62, 3) := by decide +kernel
theorem dX7_lay_142 : decode cX7_lay 142 = .ok (.iload 6, 2) := by decide +kernel
theorem dX7_lay_144 : decode cX7_lay 144 = .ok (.iconst 1, 1) := by decide +kernel
theorem dX7_lay_145 : decode cX7_lay 145 = .ok (.isub, 1) := by decide +kernel
theorem dX7_lay_146 : decode cX7_lay 146 = .ok (.iaload, 1) := by decide +kernel
theorem dX7_lay_147 : decode cX7_lay 147 = .ok (.iastore, 1) := by decide +kernel
theorem dX7_lay_148 : decode cX7_lay 148 = .ok (.aload_n 0, 1) := by decide +kernel
theorem dX7_lay_149 : decode cX7_lay 149 = .ok (.getfield 65, 3) := by decide +kernel
theorem dX7_lay_152 : decode cX7_lay 152 = .ok (.iload 6, 2) := by decide +kernel
theorem dX7_lay_154 : decode cX7_lay 154 = .ok (.aload_n 0, 1) := by decide +kernel
theorem dX7_lay_155 : decode cX7_lay 155 = .ok (.getfield 65, 3) := by decide +kernel
theorem dX7_lay_158 : decode cX7_lay 158 = .ok (.iload 6, 2) := by decide +kernel
theorem dX7_lay_160 : decode cX7_lay 160 = .ok (.iconst 1, 1) := by decide +kernel
theorem dX7_lay_161 : decode cX7_lay 161 = .ok (.isub, 1) := by decide +kernel
theorem dX7_lay_162 : decode cX7_lay 162 = .ok (.iaload, 1) := by decide +kernel
theorem dX7_lay_163 : decode cX7_lay 163 = .ok (.iastore, 1) := by decide +kernel
theorem dX7_lay_164 : decode cX7_lay 164 = .ok (.iinc 6 (-1), 3) := by decide +kernel
theorem dX7_lay_167 : decode cX7_lay 167 = .ok (.goto (-86), 3) := by decide +kernel
theorem dX7_lay_170 : decode cX7_lay 170 = .ok (.aload_n 0, 1) := by decide +kernel
theorem dX7_lay_171 : decode cX7_lay 171 = .ok (.getfield 56, 3) := by decide +kernel
theorem dX7_lay_174 : decode cX7_lay 174 = .ok (.iload 6, 2) := by decide +kernel
theorem dX7_lay_176 : decode cX7_lay 176 = .ok (.iload_n 3, 1) := by decide +kernel
theorem dX7_lay_177 : decode cX7_lay 177 = .ok (.iastore, 1) := by decide +kernel
theorem dX7_lay_178 : decode cX7_lay 178 = .ok (.aload_n 0, 1) := by decide +kernel
theorem dX7_lay_179 : decode cX7_lay 179 = .ok (.getfield 59, 3) := by decide +kernel
theorem dX7_lay_182 : decode cX7_lay 182 = .ok (.iload 6, 2) := by decide +kernel
theorem dX7_lay_184 : decode cX7_lay 184 = .ok (.iload 4, 2) := by decide +kernel
theorem dX7_lay_186 : decode cX7_lay 186 = .ok (.iastore, 1) := by decide +kernel
theorem dX7_lay_187 : decode cX7_lay 187 = .ok (.aload_n 0, 1) := by decide +kernel
theorem dX7_lay_188 : decode cX7_lay 188 = .ok (.getfield 62, 3) := by decide +kernel
theorem dX7_lay_191 : decode cX7_lay 191 = .ok (.iload 6, 2) := by decide +kernel
theorem dX7_lay_193 : decode cX7_lay 193 = .ok (.iload 5, 2) := by decide +kernel
theorem dX7_lay_195 : decode cX7_lay 195 = .ok (.iastore, 1) := by decide +kernel
theorem dX7_lay_196 : decode cX7_lay 196 = .ok (.aload_n 0, 1) := by decide +kernel
theorem dX7_lay_197 : decode cX7_lay 197 = .ok (.getfield 65, 3) := by decide +kernel
theorem dX7_lay_200 : decode cX7_lay 200 = .ok (.iload 6, 2) := by decide +kernel
theorem dX7_lay_202 : decode cX7_lay 202 = .ok (.iload 5, 2) := by decide +kernel
theorem dX7_lay_204 : decode cX7_lay 204 = .ok (.aload_n 0, 1) := by decide +kernel
theorem dX7_lay_205 : decode cX7_lay 205 = .ok (.getfield 28, 3) := by decide +kernel
theorem dX7_lay_208 : decode cX7_lay 208 = .ok (.iload_n 3, 1) := by decide +kernel
theorem dX7_lay_209 : decode cX7_lay 209 = .ok (.iaload, 1) := by decide +kernel
theorem dX7_lay_210 : decode cX7_lay 210 = .ok (.iadd, 1) := by decide +kernel
theorem dX7_lay_211 : decode cX7_lay 211 = .ok (.iastore, 1) := by decide +kernel
theorem dX7_lay_212 : decode cX7_lay 212 = .ok (.aload_n 0, 1) := by decide +kernel
theorem dX7_lay_213 : decode cX7_lay 213 = .ok (.dup, 1) := by decide +kernel
theorem dX7_lay_214 : decode cX7_lay 214 = .ok (.getfield 150, 3) := by decide +kernel
theorem dX7_lay_217 : decode cX7_lay 217 = .ok (.iconst 1, 1) := by decide +kernel
theorem dX7_lay_218 : decode cX7_lay 218 = .ok (.iadd, 1) := by decide +kernel
theorem dX7_lay_219 : decode cX7_lay 219 = .ok (.putfield 150, 3) := by decide +kernel
theorem dX7_lay_222 : decode cX7_lay 222 = .ok (.iinc 4 1, 3) := by decide +kernel
theorem dX7_lay_225 : decode cX7_lay 225 = .ok (.goto (-185), 3) := by decide +kernel
theorem dX7_lay_228 : decode cX7_lay 228 = .ok (.iinc 3 1, 3) := by decide +kernel
theorem dX7_lay_231 : decode cX7_lay 231 = .ok (.goto (-219), 3) := by decide +kernel
theorem dX7_lay_234 : decode cX7_lay 234 = .ok (.return_, 1) := by decide +kernel
theorem dX7_follows_0 : decode cX7_follows 0 = .ok (.aload_n 0, 1) := by decide +kernel
theorem dX7_follows_1 : decode cX7_follows 1 = .ok (.getfield 19, 3) := by decide +kernel
theorem dX7_follows_4 : decode cX7_follows 4 = .ok (.aload_n 0, 1) := by decide +kernel
theorem dX7_follows_5 : decode cX7_follows 5 = .ok (.getfield 56, 3) := by decide +kernel
theorem dX7_follows_8 : decode cX7_follows 8 = .ok (.iload_n 1, 1) := by decide +kernel
theorem dX7_follows_9 : decode cX7_follows 9 = .ok (.iaload, 1) := by decide +kernel
theorem dX7_follows_10 : decode cX7_follows 10 = .ok (.iaload, 1) := by decide +kernel
theorem dX7_follows_11 : decode cX7_follows 11 = .ok (.istore_n 3, 1) := by decide +kernel
theorem dX7_follows_12 : decode cX7_follows 12 = .ok (.aload_n 0, 1) := by decide +kernel
theorem dX7_follows_13 : decode cX7_follows 13 = .ok (.getfield 16, 3) := by decide +kernel
theorem dX7_follows_16 : decode cX7_follows 16 = .ok (.aload_n 0, 1) := by decide +kernel
theorem dX7_follows_17 : decode cX7_follows 17 = .ok (.getfield 56, 3) := by decide +kernel
theorem dX7_follows_20 : decode cX7_follows 20 = .ok (.iload_n 2, 1) := by decide +kernel
theorem dX7_follows_21 : decode cX7_follows 21 = .ok (.iaload, 1) := by decide +kernel
theorem dX7_follows_22 : decode cX7_follows 22 = .ok (.iaload, 1) := by decide +kernel
theorem dX7_follows_23 : decode cX7_follows 23 = .ok (.iload_n 3, 1) := by decide +kernel
theorem dX7_follows_24 : decode cX7_follows 24 = .ok (.if_icmp .eq 5, 3) := by decide +kernel
theorem dX7_follows_27 : decode cX7_follows 27 = .ok (.iconst 0, 1) := by decide +kernel
theorem dX7_follows_28 : decode cX7_follows 28 = .ok (.ireturn, 1) := by decide +kernel
theorem dX7_follows_29 : decode cX7_follows 29 = .ok (.aload_n 0, 1) := by decide +kernel
theorem dX7_follows_30 : decode cX7_follows 30 = .ok (.getfield 62, 3) := by decide +kernel
theorem dX7_follows_33 : decode cX7_follows 33 = .ok (.iload_n 2, 1) := by decide +kernel
theorem dX7_follows_34 : decode cX7_follows 34 = .ok (.iaload, 1) := by decide +kernel
theorem dX7_follows_35 : decode cX7_follows 35 = .ok (.aload_n 0, 1) := by decide +kernel
theorem dX7_follows_36 : decode cX7_follows 36 = .ok (.getfield 65, 3) := by decide +kernel
theorem dX7_follows_39 : decode cX7_follows 39 = .ok (.iload_n 1, 1) := by decide +kernel
theorem dX7_follows_40 : decode cX7_follows 40 = .ok (.iaload, 1) := by decide +kernel
theorem dX7_follows_41 : decode cX7_follows 41 = .ok (.isub, 1) := by decide +kernel
theorem dX7_follows_42 : decode cX7_follows 42 = .ok (.istore 4, 2) := by decide +kernel
theorem dX7_follows_44 : decode cX7_follows 44 = .ok (.iload 4, 2) := by decide +kernel
theorem dX7_follows_46 : decode cX7_follows 46 = .ok (.aload_n 0, 1) := by decide +kernel
theorem dX7_follows_47 : decode cX7_follows 47 = .ok (.getfield 7, 3) := by decide +kernel
theorem dX7_follows_50 : decode cX7_follows 50 = .ok (.iload_n 3, 1) := by decide +kernel
theorem dX7_follows_51 : decode cX7_follows 51 = .ok (.iaload, 1) := by decide +kernel
theorem dX7_follows_52 : decode cX7_follows 52 = .ok (.if_icmp .lt 27, 3) := by decide +kernel
theorem dX7_follows_55 : decode cX7_follows 55 = .ok (.aload_n 0, 1) := by decide +kernel
theorem dX7_follows_56 : decode cX7_follows 56 = .ok (.getfield 13, 3) := by decide +kernel
theorem dX7_follows_59 : decode cX7_follows 59 = .ok (.iload_n 3, 1) := by decide +kernel
theorem dX7_follows_60 : decode cX7_follows 60 = .ok (.iaload, 1) := by decide +kernel
theorem dX7_follows_61 : decode cX7_follows 61 = .ok (.ifCond .lt 14, 3) := by decide +kernel
theorem dX7_follows_64 : decode cX7_follows 64 = .ok (.iload 4, 2) := by decide +kernel
theorem dX7_follows_66 : decode cX7_follows 66 = .ok (.aload_n 0, 1) := by decide +kernel
theorem dX7_follows_67 : decode cX7_follows 67 = .ok (.getfield 13, 3) := by decide +kernel
theorem dX7_follows_70 : decode cX7_follows 70 = .ok (.iload_n 3, 1) := by decide +kernel
theorem dX7_follows_71 : decode cX7_follows 71 = .ok (.iaload, 1) := by decide +kernel
theorem dX7_follows_72 : decode cX7_follows 72 = .ok (.if_icmp .gt 7, 3) := by decide +kernel
theorem dX7_follows_75 : decode cX7_follows 75 = .ok (.iconst 1, 1) := by decide +kernel
theorem dX7_follows_76 : decode cX7_follows 76 = .ok (.goto 4, 3) := by decide +kernel
theorem dX7_follows_79 : decode cX7_follows 79 = .ok (.iconst 0, 1) := by decide +kernel
theorem dX7_follows_80 : decode cX7_follows 80 = .ok (.ireturn, 1) := by decide +kernel
theorem dX7_goes_0 : decode cX7_goes 0 = .ok (.iconst 0, 1) := by decide +kernel
theorem dX7_goes_1 : decode cX7_goes 1 = .ok (.istore_n 3, 1) := by decide +kernel
theorem dX7_goes_2 : decode cX7_goes 2 = .ok (.iload_n 3, 1) := by decide +kernel
theorem dX7_goes_3 : decode cX7_goes 3 = .ok (.aload_n 0, 1) := by decide +kernel
theorem dX7_goes_4 : decode cX7_goes 4 = .ok (.getfield 150, 3) := by decide +kernel
theorem dX7_goes_7 : decode cX7_goes 7 = .ok (.if_icmp .ge 182, 3) := by decide +kernel
theorem dX7_goes_10 : decode cX7_goes 10 = .ok (.aload_n 0, 1) := by decide +kernel
theorem dX7_goes_11 : decode cX7_goes 11 = .ok (.getfield 74, 3) := by decide +kernel
theorem dX7_goes_14 : decode cX7_goes 14 = .ok (.iload_n 3, 1) := by decide +kernel
theorem dX7_goes_15 : decode cX7_goes 15 = .ok (.aload_n 0, 1) := by decide +kernel
theorem dX7_goes_16 : decode cX7_goes 16 = .ok (.getfield 16, 3) := by decide +kernel
theorem dX7_goes_19 : decode cX7_goes 19 = .ok (.aload_n 0, 1) := by decide +kernel
theorem dX7_goes_20 : decode cX7_goes 20 = .ok (.getfield 56, 3) := by decide +kernel
theorem dX7_goes_23 : decode cX7_goes 23 = .ok (.iload_n 3, 1) := by decide +kernel
theorem dX7_goes_24 : decode cX7_goes 24 = .ok (.iaload, 1) := by decide +kernel
theorem dX7_goes_25 : decode cX7_goes 25 = .ok (.iaload, 1) := by decide +kernel
theorem dX7_goes_26 : decode cX7_goes 26 = .ok (.iload_n 1, 1) := by decide +kernel
theorem dX7_goes_27 : decode cX7_goes 27 = .ok (.if_icmp .ne 17, 3) := by decide +kernel
theorem dX7_goes_30 : decode cX7_goes 30 = .ok (.aload_n 0, 1) := by decide +kernel
theorem dX7_goes_31 : decode cX7_goes 31 = .ok (.getfield 62, 3) := by decide +kernel
theorem dX7_goes_34 : decode cX7_goes 34 = .ok (.iload_n 3, 1) := by decide +kernel
theorem dX7_goes_35 : decode cX7_goes 35 = .ok (.iaload, 1) := by decide +kernel
theorem dX7_goes_36 : decode cX7_goes 36 = .ok (.iload_n 2, 1) := by decide +kernel
theorem dX7_goes_37 : decode cX7_goes 37 = .ok (.if_icmp .lt 7, 3) := by decide +kernel
theorem dX7_goes_40 : decode cX7_goes 40 = .ok (.iconst 1, 1) := by decide +kernel
theorem dX7_goes_41 : decode cX7_goes 41 = .ok (.goto 4, 3) := by decide +kernel
theorem dX7_goes_44 : decode cX7_goes 44 = .ok (.iconst 0, 1) := by decide +kernel
theorem dX7_goes_45 : decode cX7_goes 45 = .ok (.bastore, 1) := by decide +kernel
theorem dX7_goes_46 : decode cX7_goes 46 = .ok (.aload_n 0, 1) := by decide +kernel
theorem dX7_goes_47 : decode cX7_goes 47 = .ok (.getfield 68, 3) := by decide +kernel
theorem dX7_goes_50 : decode cX7_goes 50 = .ok (.iload_n 3, 1) := by decide +kernel
theorem dX7_goes_51 : decode cX7_goes 51 = .ok (.aload_n 0, 1) := by decide +kernel
theorem dX7_goes_52 : decode cX7_goes 52 = .ok (.getfield 74, 3) := by decide +kernel
theorem dX7_goes_55 : decode cX7_goes 55 = .ok (.iload_n 3, 1) := by decide +kernel
theorem dX7_goes_56 : decode cX7_goes 56 = .ok (.baload, 1) := by decide +kernel
theorem dX7_goes_57 : decode cX7_goes 57 = .ok (.ifCond .eq 12, 3) := by decide +kernel
theorem dX7_goes_60 : decode cX7_goes 60 = .ok (.aload_n 0, 1) := by decide +kernel
theorem dX7_goes_61 : decode cX7_goes 61 = .ok (.getfield 62, 3) := by decide +kernel
theorem dX7_goes_64 : decode cX7_goes 64 = .ok (.iload_n 3, 1) := by decide +kernel
theorem dX7_goes_65 : decode cX7_goes 65 = .ok (.iaload, 1) := by decide +kernel
theorem dX7_goes_66 : decode cX7_goes 66 = .ok (.goto 4, 3) := by decide +kernel
theorem dX7_goes_69 : decode cX7_goes 69 = .ok (.iconst (-1), 1) := by decide +kernel
theorem dX7_goes_70 : decode cX7_goes 70 = .ok (.iastore, 1) := by decide +kernel
theorem dX7_goes_71 : decode cX7_goes 71 = .ok (.aload_n 0, 1) := by decide +kernel
theorem dX7_goes_72 : decode cX7_goes 72 = .ok (.getfield 71, 3) := by decide +kernel
theorem dX7_goes_75 : decode cX7_goes 75 = .ok (.iload_n 3, 1) := by decide +kernel
theorem dX7_goes_76 : decode cX7_goes 76 = .ok (.aload_n 0, 1) := by decide +kernel
theorem dX7_goes_77 : decode cX7_goes 77 = .ok (.getfield 74, 3) := by decide +kernel
theorem dX7_goes_80 : decode cX7_goes 80 = .ok (.iload_n 3, 1) := by decide +kernel
theorem dX7_goes_81 : decode cX7_goes 81 = .ok (.baload, 1) := by decide +kernel
theorem dX7_goes_82 : decode cX7_goes 82 = .ok (.ifCond .eq 7, 3) := by decide +kernel
theorem dX7_goes_85 : decode cX7_goes 85 = .ok (.iconst 1, 1) := by decide +kernel
theorem dX7_goes_86 : decode cX7_goes 86 = .ok (.goto 5, 3) := by decide +kernel
theorem dX7_goes_89 : decode cX7_goes 89 = .ok (.ldc 160, 2) := by decide +kernel
theorem dX7_goes_91 : decode cX7_goes 91 = .ok (.iastore, 1) := by decide +kernel
theorem dX7_goes_92 : decode cX7_goes 92 = .ok (.iconst 0, 1) := by decide +kernel
theorem dX7_goes_93 : decode cX7_goes 93 = .ok (.istore 4, 2) := by decide +kernel
theorem dX7_goes_95 : decode cX7_goes 95 = .ok (.iload 4, 2) := by decide +kernel
theorem dX7_goes_97 : decode cX7_goes 97 = .ok (.iload_n 3, 1) := by decide +kernel
theorem dX7_goes_98 : decode cX7_goes 98 = .ok (.if_icmp .ge 85, 3) := by decide +kernel
theorem dX7_goes_101 : decode cX7_goes 101 = .ok (.aload_n 0, 1) := by decide +kernel
theorem dX7_goes_102 : decode cX7_goes 102 = .ok (.getfield 74, 3) := by decide +kernel
theorem dX7_goes_105 : decode cX7_goes 105 = .ok (.iload 4, 2) := by decide +kernel
theorem dX7_goes_107 : decode cX7_goes 107 = .ok (.baload, 1) := by decide +kernel
theorem dX7_goes_108 : decode cX7_goes 108 = .ok (.ifCond .eq 69, 3) := by decide +kernel
theorem dX7_goes_111 : decode cX7_goes 111 = .ok (.aload_n 0, 1) := by decide +kernel
theorem dX7_goes_112 : decode cX7_goes 112 = .ok (.iload 4, 2) := by decide +kernel
theorem dX7_goes_114 : decode cX7_goes 114 = .ok (.iload_n 3, 1) := by decide +kernel
theorem dX7_goes_115 : decode cX7_goes 115 = .ok (.invokevirtual 161, 3) := by decide +kernel
theorem dX7_goes_118 : decode cX7_goes 118 = .ok (.ifCond .ne 6, 3) := by decide +kernel
theorem dX7_goes_121 : decode cX7_goes 121 = .ok (.goto 56, 3) := by decide +kernel
theorem dX7_goes_124 : decode cX7_goes 124 = .ok (.aload_n 0, 1) := by decide +kernel
theorem dX7_goes_125 : decode cX7_goes 125 = .ok (.getfield 74, 3) := by decide +kernel
theorem dX7_goes_128 : decode cX7_goes 128 = .ok (.iload_n 3, 1) := by decide +kernel
theorem dX7_goes_129 : decode cX7_goes 129 = .ok (.iconst 1, 1) := by decide +kernel
theorem dX7_goes_130 : decode cX7_goes 130 = .ok (.bastore, 1) := by decide +kernel
theorem dX7_goes_131 : decode cX7_goes 131 = .ok (.aload_n 0, 1) := by decide +kernel
theorem dX7_goes_132 : decode cX7_goes 132 = .ok (.getfield 68, 3) := by decide +kernel
theorem dX7_goes_135 : decode cX7_goes 135 = .ok (.iload_n 3, 1) := by decide +kernel
theorem dX7_goes_136 : decode cX7_goes 136 = .ok (.aload_n 0, 1) := by decide +kernel
theorem dX7_goes_137 : decode cX7_goes 137 = .ok (.getfield 68, 3) := by decide +kernel
theorem dX7_goes_140 : decode cX7_goes 140 = .ok (.iload_n 3, 1) := by decide +kernel
theorem dX7_goes_141 : decode cX7_goes 141 = .ok (.iaload, 1) := by decide +kernel
theorem dX7_goes_142 : decode cX7_goes 142 = .ok (.aload_n 0, 1) := by decide +kernel
theorem dX7_goes_143 : decode cX7_goes 143 = .ok (.getfield 68, 3) := by decide +kernel
theorem dX7_goes_146 : decode cX7_goes 146 = .ok (.iload 4, 2) := by decide +kernel
theorem dX7_goes_148 : decode cX7_goes 148 = .ok (.iaload, 1) := by decide +kernel
theorem dX7_goes_149 : decode cX7_goes 149 = .ok (.invokestatic 164, 3) := by decide +kernel
theorem dX7_goes_152 : decode cX7_goes 152 = .ok (.iastore, 1) := by decide +kernel
theorem dX7_goes_153 : decode cX7_goes 153 = .ok (.aload_n 0, 1) := by decide +kernel
theorem dX7_goes_154 : decode cX7_goes 154 = .ok (.getfield 71, 3) := by decide +kernel
theorem dX7_goes_157 : decode cX7_goes 157 = .ok (.iload_n 3, 1) := by decide +kernel
theorem dX7_goes_158 : decode cX7_goes 158 = .ok (.aload_n 0, 1) := by decide +kernel
theorem dX7_goes_159 : decode cX7_goes 159 = .ok (.getfield 71, 3) := by decide +kernel
theorem dX7_goes_162 : decode cX7_goes 162 = .ok (.iload_n 3, 1) := by decide +kernel
theorem dX7_goes_163 : decode cX7_goes 163 = .ok (.iaload, 1) := by decide +kernel
theorem dX7_goes_164 : decode cX7_goes 164 = .ok (.aload_n 0, 1) := by decide +kernel
theorem dX7_goes_165 : decode cX7_goes 165 = .ok (.getfield 71, 3) := by decide +kernel
theorem dX7_goes_168 : decode cX7_goes 168 = .ok (.iload 4, 2) := by decide +kernel
theorem dX7_goes_170 : decode cX7_goes 170 = .ok (.iaload, 1) := by decide +kernel
theorem dX7_goes_171 : decode cX7_goes 171 = .ok (.iconst 1, 1) := by decide +kernel
theorem dX7_goes_172 : decode cX7_goes 172 = .ok (.iadd, 1) := by decide +kernel
theorem dX7_goes_173 : decode cX7_goes 173 = .ok (.invokestatic 170, 3) := by decide +kernel
theorem dX7_goes_176 : decode cX7_goes 176 = .ok (.iastore, 1) := by decide +kernel
theorem dX7_goes_177 : decode cX7_goes 177 = .ok (.iinc 4 1, 3) := by decide +kernel
theorem dX7_goes_180 : decode cX7_goes 180 = .ok (.goto (-85), 3) := by decide +kernel
theorem dX7_goes_183 : decode cX7_goes 183 = .ok (.iinc 3 1, 3) := by decide +kernel
theorem dX7_goes_186 : decode cX7_goes 186 = .ok (.goto (-184), 3) := by decide +kernel
theorem dX7_goes_189 : decode cX7_goes 189 = .ok (.return_, 1) := by decide +kernel
theorem dX7_firstOf_0 : decode cX7_firstOf 0 = .ok (.ldc 160, 2) := by decide +kernel
theorem dX7_firstOf_2 : decode cX7_firstOf 2 = .ok (.istore_n 2, 1) := by decide +kernel
theorem dX7_firstOf_3 : decode cX7_firstOf 3 = .ok (.iconst 0, 1) := by decide +kernel
theorem dX7_firstOf_4 : decode cX7_firstOf 4 = .ok (.istore_n 3, 1) := by decide +kernel
theorem dX7_firstOf_5 : decode cX7_firstOf 5 = .ok (.iload_n 3, 1) := by decide +kernel
theorem dX7_firstOf_6 : decode cX7_firstOf 6 = .ok (.aload_n 0, 1) := by decide +kernel
theorem dX7_firstOf_7 : decode cX7_firstOf 7 = .ok (.getfield 150, 3) := by decide +kernel
theorem dX7_firstOf_10 : decode cX7_firstOf 10 = .ok (.if_icmp .ge 44, 3) := by decide +kernel
theorem dX7_firstOf_13 : decode cX7_firstOf 13 = .ok (.aload_n 0, 1) := by decide +kernel
theorem dX7_firstOf_14 : decode cX7_firstOf 14 = .ok (.getfield 74, 3) := by decide +kernel
theorem dX7_firstOf_17 : decode cX7_firstOf 17 = .ok (.iload_n 3, 1) := by decide +kernel
theorem dX7_firstOf_18 : decode cX7_firstOf 18 = .ok (.baload, 1) := by decide +kernel
theorem dX7_firstOf_19 : decode cX7_firstOf 19 = .ok (.ifCond .eq 29, 3) := by decide +kernel
theorem dX7_firstOf_22 : decode cX7_firstOf 22 = .ok (.aload_n 0, 1) := by decide +kernel
theorem dX7_firstOf_23 : decode cX7_firstOf 23 = .ok (.getfield 19, 3) := by decide +kernel
theorem dX7_firstOf_26 : decode cX7_firstOf 26 = .ok (.aload_n 0, 1) := by decide +kernel
theorem dX7_firstOf_27 : decode cX7_firstOf 27 = .ok (.getfield 56, 3) := by decide +kernel
theorem dX7_firstOf_30 : decode cX7_firstOf 30 = .ok (.iload_n 3, 1) := by decide +kernel
theorem dX7_firstOf_31 : decode cX7_firstOf 31 = .ok (.iaload, 1) := by decide +kernel
theorem dX7_firstOf_32 : decode cX7_firstOf 32 = .ok (.iaload, 1) := by decide +kernel
theorem dX7_firstOf_33 : decode cX7_firstOf 33 = .ok (.iload_n 1, 1) := by decide +kernel
theorem dX7_firstOf_34 : decode cX7_firstOf 34 = .ok (.if_icmp .ne 14, 3) := by decide +kernel
theorem dX7_firstOf_37 : decode cX7_firstOf 37 = .ok (.iload_n 2, 1) := by decide +kernel
theorem dX7_firstOf_38 : decode cX7_firstOf 38 = .ok (.aload_n 0, 1) := by decide +kernel
theorem dX7_firstOf_39 : decode cX7_firstOf 39 = .ok (.getfield 65, 3) := by decide +kernel
theorem dX7_firstOf_42 : decode cX7_firstOf 42 = .ok (.iload_n 3, 1) := by decide +kernel
theorem dX7_firstOf_43 : decode cX7_firstOf 43 = .ok (.iaload, 1) := by decide +kernel
theorem dX7_firstOf_44 : decode cX7_firstOf 44 = .ok (.invokestatic 170, 3) := by decide +kernel
theorem dX7_firstOf_47 : decode cX7_firstOf 47 = .ok (.istore_n 2, 1) := by decide +kernel
theorem dX7_firstOf_48 : decode cX7_firstOf 48 = .ok (.iinc 3 1, 3) := by decide +kernel
theorem dX7_firstOf_51 : decode cX7_firstOf 51 = .ok (.goto (-46), 3) := by decide +kernel
theorem dX7_firstOf_54 : decode cX7_firstOf 54 = .ok (.iload_n 2, 1) := by decide +kernel
theorem dX7_firstOf_55 : decode cX7_firstOf 55 = .ok (.ireturn, 1) := by decide +kernel
theorem dX7_asked_0 : decode cX7_asked 0 = .ok (.aload_n 0, 1) := by decide +kernel
theorem dX7_asked_1 : decode cX7_asked 1 = .ok (.iload_n 1, 1) := by decide +kernel
theorem dX7_asked_2 : decode cX7_asked 2 = .ok (.invokevirtual 113, 3) := by decide +kernel
theorem dX7_asked_5 : decode cX7_asked 5 = .ok (.ifCond .eq 16, 3) := by decide +kernel
theorem dX7_asked_8 : decode cX7_asked 8 = .ok (.aload_n 0, 1) := by decide +kernel
theorem dX7_asked_9 : decode cX7_asked 9 = .ok (.iload_n 2, 1) := by decide +kernel
theorem dX7_asked_10 : decode cX7_asked 10 = .ok (.invokevirtual 113, 3) := by decide +kernel
theorem dX7_asked_13 : decode cX7_asked 13 = .ok (.ifCond .eq 8, 3) := by decide +kernel
theorem dX7_asked_16 : decode cX7_asked 16 = .ok (.iload_n 1, 1) := by decide +kernel
theorem dX7_asked_17 : decode cX7_asked 17 = .ok (.iload_n 2, 1) := by decide +kernel
theorem dX7_asked_18 : decode cX7_asked 18 = .ok (.if_icmp .ne 5, 3) := by decide +kernel
theorem dX7_asked_21 : decode cX7_asked 21 = .ok (.iconst 1, 1) := by decide +kernel
theorem dX7_asked_22 : decode cX7_asked 22 = .ok (.ireturn, 1) := by decide +kernel
theorem dX7_asked_23 : decode cX7_asked 23 = .ok (.iload_n 3, 1) := by decide +kernel
theorem dX7_asked_24 : decode cX7_asked 24 = .ok (.invokestatic 123, 3) := by decide +kernel
theorem dX7_asked_27 : decode cX7_asked 27 = .ok (.ifCond .eq 11, 3) := by decide +kernel
theorem dX7_asked_30 : decode cX7_asked 30 = .ok (.iload 4, 2) := by decide +kernel
theorem dX7_asked_32 : decode cX7_asked 32 = .ok (.invokestatic 123, 3) := by decide +kernel
theorem dX7_asked_35 : decode cX7_asked 35 = .ok (.ifCond .ne 5, 3) := by decide +kernel
theorem dX7_asked_38 : decode cX7_asked 38 = .ok (.iconst 2, 1) := by decide +kernel
theorem dX7_asked_39 : decode cX7_asked 39 = .ok (.ireturn, 1) := by decide +kernel
theorem dX7_asked_40 : decode cX7_asked 40 = .ok (.iload 5, 2) := by decide +kernel
theorem dX7_asked_42 : decode cX7_asked 42 = .ok (.ifCond .lt 12, 3) := by decide +kernel
theorem dX7_asked_45 : decode cX7_asked 45 = .ok (.iload 5, 2) := by decide +kernel
theorem dX7_asked_47 : decode cX7_asked 47 = .ok (.aload_n 0, 1) := by decide +kernel
theorem dX7_asked_48 : decode cX7_asked 48 = .ok (.getfield 120, 3) := by decide +kernel
theorem dX7_asked_51 : decode cX7_asked 51 = .ok (.if_icmp .le 8, 3) := by decide +kernel
theorem dX7_asked_54 : decode cX7_asked 54 = .ok (.bipush 6, 2) := by decide +kernel
theorem dX7_asked_56 : decode cX7_asked 56 = .ok (.goto 4, 3) := by decide +kernel
theorem dX7_asked_59 : decode cX7_asked 59 = .ok (.iconst 0, 1) := by decide +kernel
theorem dX7_asked_60 : decode cX7_asked 60 = .ok (.ireturn, 1) := by decide +kernel
theorem dX7_best_0 : decode cX7_best 0 = .ok (.iload_n 1, 1) := by decide +kernel
theorem dX7_best_1 : decode cX7_best 1 = .ok (.ldc 160, 2) := by decide +kernel
theorem dX7_best_3 : decode cX7_best 3 = .ok (.if_icmp .eq 7, 3) := by decide +kernel
theorem dX7_best_6 : decode cX7_best 6 = .ok (.iload_n 1, 1) := by decide +kernel
theorem dX7_best_7 : decode cX7_best 7 = .ok (.ifCond .ge 11, 3) := by decide +kernel
theorem dX7_best_10 : decode cX7_best 10 = .ok (.aload_n 0, 1) := by decide +kernel
theorem dX7_best_11 : decode cX7_best 11 = .ok (.iconst 5, 1) := by decide +kernel
theorem dX7_best_12 : decode cX7_best 12 = .ok (.invokevirtual 109, 3) := by decide +kernel
theorem dX7_best_15 : decode cX7_best 15 = .ok (.goto 4, 3) := by decide +kernel
theorem dX7_best_18 : decode cX7_best 18 = .ok (.iload_n 1, 1) := by decide +kernel
theorem dX7_best_19 : decode cX7_best 19 = .ok (.ireturn, 1) := by decide +kernel
theorem dX7_first_0 : decode cX7_first 0 = .ok (.aload_n 0, 1) := by decide +kernel
theorem dX7_first_1 : decode cX7_first 1 = .ok (.iconst 0, 1) := by decide +kernel
theorem dX7_first_2 : decode cX7_first 2 = .ok (.putfield 92, 3) := by decide +kernel
theorem dX7_first_5 : decode cX7_first 5 = .ok (.aload_n 0, 1) := by decide +kernel
theorem dX7_first_6 : decode cX7_first 6 = .ok (.aload_n 0, 1) := by decide +kernel
theorem dX7_first_7 : decode cX7_first 7 = .ok (.iload_n 1, 1) := by decide +kernel
theorem dX7_first_8 : decode cX7_first 8 = .ok (.iload_n 2, 1) := by decide +kernel
theorem dX7_first_9 : decode cX7_first 9 = .ok (.iload_n 3, 1) := by decide +kernel
theorem dX7_first_10 : decode cX7_first 10 = .ok (.iload_n 3, 1) := by decide +kernel
theorem dX7_first_11 : decode cX7_first 11 = .ok (.iload 4, 2) := by decide +kernel
theorem dX7_first_13 : decode cX7_first 13 = .ok (.invokevirtual 173, 3) := by decide +kernel
theorem dX7_first_16 : decode cX7_first 16 = .ok (.putfield 96, 3) := by decide +kernel
theorem dX7_first_19 : decode cX7_first 19 = .ok (.aload_n 0, 1) := by decide +kernel
theorem dX7_first_20 : decode cX7_first 20 = .ok (.getfield 96, 3) := by decide +kernel
theorem dX7_first_23 : decode cX7_first 23 = .ok (.ifCond .le 5, 3) := by decide +kernel
theorem dX7_first_26 : decode cX7_first 26 = .ok (.iconst (-1), 1) := by decide +kernel
theorem dX7_first_27 : decode cX7_first 27 = .ok (.ireturn, 1) := by decide +kernel
theorem dX7_first_28 : decode cX7_first 28 = .ok (.aload_n 0, 1) := by decide +kernel
theorem dX7_first_29 : decode cX7_first 29 = .ok (.iload 4, 2) := by decide +kernel
theorem dX7_first_31 : decode cX7_first 31 = .ok (.iconst (-1), 1) := by decide +kernel
theorem dX7_first_32 : decode cX7_first 32 = .ok (.invokevirtual 177, 3) := by decide +kernel
theorem dX7_first_35 : decode cX7_first 35 = .ok (.aload_n 0, 1) := by decide +kernel
theorem dX7_first_36 : decode cX7_first 36 = .ok (.iload_n 1, 1) := by decide +kernel
theorem dX7_first_37 : decode cX7_first 37 = .ok (.iload_n 3, 1) := by decide +kernel
theorem dX7_first_38 : decode cX7_first 38 = .ok (.invokevirtual 181, 3) := by decide +kernel
theorem dX7_first_41 : decode cX7_first 41 = .ok (.aload_n 0, 1) := by decide +kernel
theorem dX7_first_42 : decode cX7_first 42 = .ok (.aload_n 0, 1) := by decide +kernel
theorem dX7_first_43 : decode cX7_first 43 = .ok (.iload_n 2, 1) := by decide +kernel
theorem dX7_first_44 : decode cX7_first 44 = .ok (.invokevirtual 184, 3) := by decide +kernel
theorem dX7_first_47 : decode cX7_first 47 = .ok (.invokevirtual 187, 3) := by decide +kernel
theorem dX7_first_50 : decode cX7_first 50 = .ok (.ireturn, 1) := by decide +kernel
theorem dX7_last_0 : decode cX7_last 0 = .ok (.aload_n 0, 1) := by decide +kernel
theorem dX7_last_1 : decode cX7_last 1 = .ok (.iconst 0, 1) := by decide +kernel
theorem dX7_last_2 : decode cX7_last 2 = .ok (.putfield 92, 3) := by decide +kernel
theorem dX7_last_5 : decode cX7_last 5 = .ok (.aload_n 0, 1) := by decide +kernel
theorem dX7_last_6 : decode cX7_last 6 = .ok (.aload_n 0, 1) := by decide +kernel
theorem dX7_last_7 : decode cX7_last 7 = .ok (.iload_n 1, 1) := by decide +kernel
theorem dX7_last_8 : decode cX7_last 8 = .ok (.iload_n 2, 1) := by decide +kernel
theorem dX7_last_9 : decode cX7_last 9 = .ok (.iload_n 3, 1) := by decide +kernel
theorem dX7_last_10 : decode cX7_last 10 = .ok (.iload_n 3, 1) := by decide +kernel
theorem dX7_last_11 : decode cX7_last 11 = .ok (.iload 4, 2) := by decide +kernel
theorem dX7_last_13 : decode cX7_last 13 = .ok (.invokevirtual 173, 3) := by decide +kernel
theorem dX7_last_16 : decode cX7_last 16 = .ok (.putfield 96, 3) := by decide +kernel
theorem dX7_last_19 : decode cX7_last 19 = .ok (.aload_n 0, 1) := by decide +kernel
theorem dX7_last_20 : decode cX7_last 20 = .ok (.getfield 96, 3) := by decide +kernel
theorem dX7_last_23 : decode cX7_last 23 = .ok (.ifCond .le 5, 3) := by decide +kernel
theorem dX7_last_26 : decode cX7_last 26 = .ok (.iconst (-1), 1) := by decide +kernel
theorem dX7_last_27 : decode cX7_last 27 = .ok (.ireturn, 1) := by decide +kernel
theorem dX7_last_28 : decode cX7_last 28 = .ok (.aload_n 0, 1) := by decide +kernel
theorem dX7_last_29 : decode cX7_last 29 = .ok (.iload 4, 2) := by decide +kernel
theorem dX7_last_31 : decode cX7_last 31 = .ok (.iconst (-1), 1) := by decide +kernel
theorem dX7_last_32 : decode cX7_last 32 = .ok (.invokevirtual 177, 3) := by decide +kernel
theorem dX7_last_35 : decode cX7_last 35 = .ok (.aload_n 0, 1) := by decide +kernel
theorem dX7_last_36 : decode cX7_last 36 = .ok (.iload_n 1, 1) := by decide +kernel
theorem dX7_last_37 : decode cX7_last 37 = .ok (.iconst 0, 1) := by decide +kernel
theorem dX7_last_38 : decode cX7_last 38 = .ok (.invokevirtual 181, 3) := by decide +kernel
theorem dX7_last_41 : decode cX7_last 41 = .ok (.iconst (-1), 1) := by decide +kernel
theorem dX7_last_42 : decode cX7_last 42 = .ok (.istore 5, 2) := by decide +kernel
theorem dX7_last_44 : decode cX7_last 44 = .ok (.iconst 0, 1) := by decide +kernel
theorem dX7_last_45 : decode cX7_last 45 = .ok (.istore 6, 2) := by decide +kernel
theorem dX7_last_47 : decode cX7_last 47 = .ok (.iload 6, 2) := by decide +kernel
theorem dX7_last_49 : decode cX7_last 49 = .ok (.aload_n 0, 1) := by decide +kernel
theorem dX7_last_50 : decode cX7_last 50 = .ok (.getfield 150, 3) := by decide +kernel
theorem dX7_last_53 : decode cX7_last 53 = .ok (.if_icmp .ge 60, 3) := by decide +kernel
theorem dX7_last_56 : decode cX7_last 56 = .ok (.aload_n 0, 1) := by decide +kernel
theorem dX7_last_57 : decode cX7_last 57 = .ok (.getfield 74, 3) := by decide +kernel
theorem dX7_last_60 : decode cX7_last 60 = .ok (.iload 6, 2) := by decide +kernel
theorem dX7_last_62 : decode cX7_last 62 = .ok (.baload, 1) := by decide +kernel
theorem dX7_last_63 : decode cX7_last 63 = .ok (.ifCond .eq 44, 3) := by decide +kernel
theorem dX7_last_66 : decode cX7_last 66 = .ok (.aload_n 0, 1) := by decide +kernel
theorem dX7_last_67 : decode cX7_last 67 = .ok (.getfield 19, 3) := by decide +kernel
theorem dX7_last_70 : decode cX7_last 70 = .ok (.aload_n 0, 1) := by decide +kernel
theorem dX7_last_71 : decode cX7_last 71 = .ok (.getfield 56, 3) := by decide +kernel
theorem dX7_last_74 : decode cX7_last 74 = .ok (.iload 6, 2) := by decide +kernel
theorem dX7_last_76 : decode cX7_last 76 = .ok (.iaload, 1) := by decide +kernel
theorem dX7_last_77 : decode cX7_last 77 = .ok (.iaload, 1) := by decide +kernel
theorem dX7_last_78 : decode cX7_last 78 = .ok (.iload_n 2, 1) := by decide +kernel
theorem dX7_last_79 : decode cX7_last 79 = .ok (.if_icmp .ne 28, 3) := by decide +kernel
theorem dX7_last_82 : decode cX7_last 82 = .ok (.aload_n 0, 1) := by decide +kernel
theorem dX7_last_83 : decode cX7_last 83 = .ok (.getfield 65, 3) := by decide +kernel
theorem dX7_last_86 : decode cX7_last 86 = .ok (.iload 6, 2) := by decide +kernel
theorem dX7_last_88 : decode cX7_last 88 = .ok (.iaload, 1) := by decide +kernel
theorem dX7_last_89 : decode cX7_last 89 = .ok (.iload_n 3, 1) := by decide +kernel
theorem dX7_last_90 : decode cX7_last 90 = .ok (.if_icmp .gt 17, 3) := by decide +kernel
theorem dX7_last_93 : decode cX7_last 93 = .ok (.iload 5, 2) := by decide +kernel
theorem dX7_last_95 : decode cX7_last 95 = .ok (.aload_n 0, 1) := by decide +kernel
theorem dX7_last_96 : decode cX7_last 96 = .ok (.getfield 68, 3) := by decide +kernel
theorem dX7_last_99 : decode cX7_last 99 = .ok (.iload 6, 2) := by decide +kernel
theorem dX7_last_101 : decode cX7_last 101 = .ok (.iaload, 1) := by decide +kernel
theorem dX7_last_102 : decode cX7_last 102 = .ok (.invokestatic 164, 3) := by decide +kernel
theorem dX7_last_105 : decode cX7_last 105 = .ok (.istore 5, 2) := by decide +kernel
theorem dX7_last_107 : decode cX7_last 107 = .ok (.iinc 6 1, 3) := by decide +kernel
theorem dX7_last_110 : decode cX7_last 110 = .ok (.goto (-63), 3) := by decide +kernel
theorem dX7_last_113 : decode cX7_last 113 = .ok (.aload_n 0, 1) := by decide +kernel
theorem dX7_last_114 : decode cX7_last 114 = .ok (.iload 5, 2) := by decide +kernel
theorem dX7_last_116 : decode cX7_last 116 = .ok (.invokevirtual 187, 3) := by decide +kernel
theorem dX7_last_119 : decode cX7_last 119 = .ok (.ireturn, 1) := by decide +kernel
theorem dX7_quickest_0 : decode cX7_quickest 0 = .ok (.aload_n 0, 1) := by decide +kernel
theorem dX7_quickest_1 : decode cX7_quickest 1 = .ok (.iconst 0, 1) := by decide +kernel
theorem dX7_quickest_2 : decode cX7_quickest 2 = .ok (.putfield 92, 3) := by decide +kernel
theorem dX7_quickest_5 : decode cX7_quickest 5 = .ok (.aload_n 0, 1) := by decide +kernel
theorem dX7_quickest_6 : decode cX7_quickest 6 = .ok (.aload_n 0, 1) := by decide +kernel
theorem dX7_quickest_7 : decode cX7_quickest 7 = .ok (.iload_n 1, 1) := by decide +kernel
theorem dX7_quickest_8 : decode cX7_quickest 8 = .ok (.iload_n 2, 1) := by decide +kernel
theorem dX7_quickest_9 : decode cX7_quickest 9 = .ok (.iload_n 3, 1) := by decide +kernel
theorem dX7_quickest_10 : decode cX7_quickest 10 = .ok (.iload 4, 2) := by decide +kernel
theorem dX7_quickest_12 : decode cX7_quickest 12 = .ok (.iload 5, 2) := by decide +kernel
theorem dX7_quickest_14 : decode cX7_quickest 14 = .ok (.invokevirtual 173, 3) := by decide +kernel
theorem dX7_quickest_17 : decode cX7_quickest 17 = .ok (.putfield 96, 3) := by decide +kernel
theorem dX7_quickest_20 : decode cX7_quickest 20 = .ok (.aload_n 0, 1) := by decide +kernel
theorem dX7_quickest_21 : decode cX7_quickest 21 = .ok (.getfield 96, 3) := by decide +kernel
theorem dX7_quickest_24 : decode cX7_quickest 24 = .ok (.ifCond .le 5, 3) := by decide +kernel
theorem dX7_quickest_27 : decode cX7_quickest 27 = .ok (.iconst (-1), 1) := by decide +kernel
theorem dX7_quickest_28 : decode cX7_quickest 28 = .ok (.ireturn, 1) := by decide +kernel
theorem dX7_quickest_29 : decode cX7_quickest 29 = .ok (.aload_n 0, 1) := by decide +kernel
theorem dX7_quickest_30 : decode cX7_quickest 30 = .ok (.iload 5, 2) := by decide +kernel
theorem dX7_quickest_32 : decode cX7_quickest 32 = .ok (.iconst (-1), 1) := by decide +kernel
theorem dX7_quickest_33 : decode cX7_quickest 33 = .ok (.invokevirtual 177, 3) := by decide +kernel
theorem dX7_quickest_36 : decode cX7_quickest 36 = .ok (.aload_n 0, 1) := by decide +kernel
theorem dX7_quickest_37 : decode cX7_quickest 37 = .ok (.iload_n 1, 1) := by decide +kernel
theorem dX7_quickest_38 : decode cX7_quickest 38 = .ok (.iload_n 3, 1) := by decide +kernel
theorem dX7_quickest_39 : decode cX7_quickest 39 = .ok (.invokevirtual 181, 3) := by decide +kernel
theorem dX7_quickest_42 : decode cX7_quickest 42 = .ok (.ldc 160, 2) := by decide +kernel
theorem dX7_quickest_44 : decode cX7_quickest 44 = .ok (.istore 6, 2) := by decide +kernel
theorem dX7_quickest_46 : decode cX7_quickest 46 = .ok (.iconst 0, 1) := by decide +kernel
theorem dX7_quickest_47 : decode cX7_quickest 47 = .ok (.istore 7, 2) := by decide +kernel
theorem dX7_quickest_49 : decode cX7_quickest 49 = .ok (.iload 7, 2) := by decide +kernel
theorem dX7_quickest_51 : decode cX7_quickest 51 = .ok (.aload_n 0, 1) := by decide +kernel
theorem dX7_quickest_52 : decode cX7_quickest 52 = .ok (.getfield 150, 3) := by decide +kernel
theorem dX7_quickest_55 : decode cX7_quickest 55 = .ok (.if_icmp .ge 69, 3) := by decide +kernel
theorem dX7_quickest_58 : decode cX7_quickest 58 = .ok (.aload_n 0, 1) := by decide +kernel
theorem dX7_quickest_59 : decode cX7_quickest 59 = .ok (.getfield 74, 3) := by decide +kernel
theorem dX7_quickest_62 : decode cX7_quickest 62 = .ok (.iload 7, 2) := by decide +kernel
theorem dX7_quickest_64 : decode cX7_quickest 64 = .ok (.baload, 1) := by decide +kernel
theorem dX7_quickest_65 : decode cX7_quickest 65 = .ok (.ifCond .eq 53, 3) := by decide +kernel
theorem dX7_quickest_68 : decode cX7_quickest 68 = .ok (.aload_n 0, 1) := by decide +kernel
theorem dX7_quickest_69 : decode cX7_quickest 69 = .ok (.getfield 19, 3) := by decide +kernel
theorem dX7_quickest_72 : decode cX7_quickest 72 = .ok (.aload_n 0, 1) := by decide +kernel
theorem dX7_quickest_73 : decode cX7_quickest 73 = .ok (.getfield 56, 3) := by decide +kernel
theorem dX7_quickest_76 : decode cX7_quickest 76 = .ok (.iload 7, 2) := by decide +kernel
theorem dX7_quickest_78 : decode cX7_quickest 78 = .ok (.iaload, 1) := by decide +kernel
theorem dX7_quickest_79 : decode cX7_quickest 79 = .ok (.iaload, 1) := by decide +kernel
theorem dX7_quickest_80 : decode cX7_quickest 80 = .ok (.iload_n 2, 1) := by decide +kernel
theorem dX7_quickest_81 : decode cX7_quickest 81 = .ok (.if_icmp .ne 37, 3) := by decide +kernel
theorem dX7_quickest_84 : decode cX7_quickest 84 = .ok (.aload_n 0, 1) := by decide +kernel
theorem dX7_quickest_85 : decode cX7_quickest 85 = .ok (.getfield 65, 3) := by decide +kernel
theorem dX7_quickest_88 : decode cX7_quickest 88 = .ok (.iload 7, 2) := by decide +kernel
theorem dX7_quickest_90 : decode cX7_quickest 90 = .ok (.iaload, 1) := by decide +kernel
theorem dX7_quickest_91 : decode cX7_quickest 91 = .ok (.iload 4, 2) := by decide +kernel
theorem dX7_quickest_93 : decode cX7_quickest 93 = .ok (.if_icmp .gt 25, 3) := by decide +kernel
theorem dX7_quickest_96 : decode cX7_quickest 96 = .ok (.iload 6, 2) := by decide +kernel
theorem dX7_quickest_98 : decode cX7_quickest 98 = .ok (.aload_n 0, 1) := by decide +kernel
theorem dX7_quickest_99 : decode cX7_quickest 99 = .ok (.getfield 65, 3) := by decide +kernel
theorem dX7_quickest_102 : decode cX7_quickest 102 = .ok (.iload 7, 2) := by decide +kernel
theorem dX7_quickest_104 : decode cX7_quickest 104 = .ok (.iaload, 1) := by decide +kernel
theorem dX7_quickest_105 : decode cX7_quickest 105 = .ok (.aload_n 0, 1) := by decide +kernel
theorem dX7_quickest_106 : decode cX7_quickest 106 = .ok (.getfield 68, 3) := by decide +kernel
theorem dX7_quickest_109 : decode cX7_quickest 109 = .ok (.iload 7, 2) := by decide +kernel
theorem dX7_quickest_111 : decode cX7_quickest 111 = .ok (.iaload, 1) := by decide +kernel
theorem dX7_quickest_112 : decode cX7_quickest 112 = .ok (.isub, 1) := by decide +kernel
theorem dX7_quickest_113 : decode cX7_quickest 113 = .ok (.invokestatic 170, 3) := by decide +kernel
theorem dX7_quickest_116 : decode cX7_quickest 116 = .ok (.istore 6, 2) := by decide +kernel
theorem dX7_quickest_118 : decode cX7_quickest 118 = .ok (.iinc 7 1, 3) := by decide +kernel
theorem dX7_quickest_121 : decode cX7_quickest 121 = .ok (.goto (-72), 3) := by decide +kernel
theorem dX7_quickest_124 : decode cX7_quickest 124 = .ok (.aload_n 0, 1) := by decide +kernel
theorem dX7_quickest_125 : decode cX7_quickest 125 = .ok (.iload 6, 2) := by decide +kernel
theorem dX7_quickest_127 : decode cX7_quickest 127 = .ok (.invokevirtual 187, 3) := by decide +kernel
theorem dX7_quickest_130 : decode cX7_quickest 130 = .ok (.ireturn, 1) := by decide +kernel
theorem dX7_fewest_0 : decode cX7_fewest 0 = .ok (.aload_n 0, 1) := by decide +kernel
theorem dX7_fewest_1 : decode cX7_fewest 1 = .ok (.iconst 0, 1) := by decide +kernel
theorem dX7_fewest_2 : decode cX7_fewest 2 = .ok (.putfield 92, 3) := by decide +kernel
theorem dX7_fewest_5 : decode cX7_fewest 5 = .ok (.aload_n 0, 1) := by decide +kernel
theorem dX7_fewest_6 : decode cX7_fewest 6 = .ok (.aload_n 0, 1) := by decide +kernel
theorem dX7_fewest_7 : decode cX7_fewest 7 = .ok (.iload_n 1, 1) := by decide +kernel
theorem dX7_fewest_8 : decode cX7_fewest 8 = .ok (.iload_n 2, 1) := by decide +kernel
theorem dX7_fewest_9 : decode cX7_fewest 9 = .ok (.iload_n 3, 1) := by decide +kernel
theorem dX7_fewest_10 : decode cX7_fewest 10 = .ok (.iload 4, 2) := by decide +kernel
theorem dX7_fewest_12 : decode cX7_fewest 12 = .ok (.iload 5, 2) := by decide +kernel
theorem dX7_fewest_14 : decode cX7_fewest 14 = .ok (.invokevirtual 173, 3) := by decide +kernel
theorem dX7_fewest_17 : decode cX7_fewest 17 = .ok (.putfield 96, 3) := by decide +kernel
theorem dX7_fewest_20 : decode cX7_fewest 20 = .ok (.aload_n 0, 1) := by decide +kernel
theorem dX7_fewest_21 : decode cX7_fewest 21 = .ok (.getfield 96, 3) := by decide +kernel
theorem dX7_fewest_24 : decode cX7_fewest 24 = .ok (.ifCond .le 5, 3) := by decide +kernel
theorem dX7_fewest_27 : decode cX7_fewest 27 = .ok (.iconst (-1), 1) := by decide +kernel
theorem dX7_fewest_28 : decode cX7_fewest 28 = .ok (.ireturn, 1) := by decide +kernel
theorem dX7_fewest_29 : decode cX7_fewest 29 = .ok (.aload_n 0, 1) := by decide +kernel
theorem dX7_fewest_30 : decode cX7_fewest 30 = .ok (.iload 5, 2) := by decide +kernel
theorem dX7_fewest_32 : decode cX7_fewest 32 = .ok (.iconst (-1), 1) := by decide +kernel
theorem dX7_fewest_33 : decode cX7_fewest 33 = .ok (.invokevirtual 177, 3) := by decide +kernel
theorem dX7_fewest_36 : decode cX7_fewest 36 = .ok (.aload_n 0, 1) := by decide +kernel
theorem dX7_fewest_37 : decode cX7_fewest 37 = .ok (.iload_n 1, 1) := by decide +kernel
theorem dX7_fewest_38 : decode cX7_fewest 38 = .ok (.iload_n 3, 1) := by decide +kernel
theorem dX7_fewest_39 : decode cX7_fewest 39 = .ok (.invokevirtual 181, 3) := by decide +kernel
theorem dX7_fewest_42 : decode cX7_fewest 42 = .ok (.ldc 160, 2) := by decide +kernel
theorem dX7_fewest_44 : decode cX7_fewest 44 = .ok (.istore 6, 2) := by decide +kernel
theorem dX7_fewest_46 : decode cX7_fewest 46 = .ok (.iconst 0, 1) := by decide +kernel
theorem dX7_fewest_47 : decode cX7_fewest 47 = .ok (.istore 7, 2) := by decide +kernel
theorem dX7_fewest_49 : decode cX7_fewest 49 = .ok (.iload 7, 2) := by decide +kernel
theorem dX7_fewest_51 : decode cX7_fewest 51 = .ok (.aload_n 0, 1) := by decide +kernel
theorem dX7_fewest_52 : decode cX7_fewest 52 = .ok (.getfield 150, 3) := by decide +kernel
theorem dX7_fewest_55 : decode cX7_fewest 55 = .ok (.if_icmp .ge 61, 3) := by decide +kernel
theorem dX7_fewest_58 : decode cX7_fewest 58 = .ok (.aload_n 0, 1) := by decide +kernel
theorem dX7_fewest_59 : decode cX7_fewest 59 = .ok (.getfield 74, 3) := by decide +kernel
theorem dX7_fewest_62 : decode cX7_fewest 62 = .ok (.iload 7, 2) := by decide +kernel
theorem dX7_fewest_64 : decode cX7_fewest 64 = .ok (.baload, 1) := by decide +kernel
theorem dX7_fewest_65 : decode cX7_fewest 65 = .ok (.ifCond .eq 45, 3) := by decide +kernel
theorem dX7_fewest_68 : decode cX7_fewest 68 = .ok (.aload_n 0, 1) := by decide +kernel
theorem dX7_fewest_69 : decode cX7_fewest 69 = .ok (.getfield 19, 3) := by decide +kernel
theorem dX7_fewest_72 : decode cX7_fewest 72 = .ok (.aload_n 0, 1) := by decide +kernel
theorem dX7_fewest_73 : decode cX7_fewest 73 = .ok (.getfield 56, 3) := by decide +kernel
theorem dX7_fewest_76 : decode cX7_fewest 76 = .ok (.iload 7, 2) := by decide +kernel
theorem dX7_fewest_78 : decode cX7_fewest 78 = .ok (.iaload, 1) := by decide +kernel
theorem dX7_fewest_79 : decode cX7_fewest 79 = .ok (.iaload, 1) := by decide +kernel
theorem dX7_fewest_80 : decode cX7_fewest 80 = .ok (.iload_n 2, 1) := by decide +kernel
theorem dX7_fewest_81 : decode cX7_fewest 81 = .ok (.if_icmp .ne 29, 3) := by decide +kernel
theorem dX7_fewest_84 : decode cX7_fewest 84 = .ok (.aload_n 0, 1) := by decide +kernel
theorem dX7_fewest_85 : decode cX7_fewest 85 = .ok (.getfield 65, 3) := by decide +kernel
theorem dX7_fewest_88 : decode cX7_fewest 88 = .ok (.iload 7, 2) := by decide +kernel
theorem dX7_fewest_90 : decode cX7_fewest 90 = .ok (.iaload, 1) := by decide +kernel
theorem dX7_fewest_91 : decode cX7_fewest 91 = .ok (.iload 4, 2) := by decide +kernel
theorem dX7_fewest_93 : decode cX7_fewest 93 = .ok (.if_icmp .gt 17, 3) := by decide +kernel
theorem dX7_fewest_96 : decode cX7_fewest 96 = .ok (.iload 6, 2) := by decide +kernel
theorem dX7_fewest_98 : decode cX7_fewest 98 = .ok (.aload_n 0, 1) := by decide +kernel
theorem dX7_fewest_99 : decode cX7_fewest 99 = .ok (.getfield 71, 3) := by decide +kernel
theorem dX7_fewest_102 : decode cX7_fewest 102 = .ok (.iload 7, 2) := by decide +kernel
theorem dX7_fewest_104 : decode cX7_fewest 104 = .ok (.iaload, 1) := by decide +kernel
theorem dX7_fewest_105 : decode cX7_fewest 105 = .ok (.invokestatic 170, 3) := by decide +kernel
theorem dX7_fewest_108 : decode cX7_fewest 108 = .ok (.istore 6, 2) := by decide +kernel
theorem dX7_fewest_110 : decode cX7_fewest 110 = .ok (.iinc 7 1, 3) := by decide +kernel
theorem dX7_fewest_113 : decode cX7_fewest 113 = .ok (.goto (-64), 3) := by decide +kernel
theorem dX7_fewest_116 : decode cX7_fewest 116 = .ok (.aload_n 0, 1) := by decide +kernel
theorem dX7_fewest_117 : decode cX7_fewest 117 = .ok (.iload 6, 2) := by decide +kernel
theorem dX7_fewest_119 : decode cX7_fewest 119 = .ok (.invokevirtual 187, 3) := by decide +kernel
theorem dX7_fewest_122 : decode cX7_fewest 122 = .ok (.ireturn, 1) := by decide +kernel
theorem dX7_isLess_0 : decode cX7_isLess 0 = .ok (.iload_n 2, 1) := by decide +kernel
theorem dX7_isLess_1 : decode cX7_isLess 1 = .ok (.ifCond .lt 48, 3) := by decide +kernel
theorem dX7_isLess_4 : decode cX7_isLess 4 = .ok (.aload_n 0, 1) := by decide +kernel
theorem dX7_isLess_5 : decode cX7_isLess 5 = .ok (.getfield 56, 3) := by decide +kernel
theorem dX7_isLess_8 : decode cX7_isLess 8 = .ok (.iload_n 1, 1) := by decide +kernel
theorem dX7_isLess_9 : decode cX7_isLess 9 = .ok (.iaload, 1) := by decide +kernel
theorem dX7_isLess_10 : decode cX7_isLess 10 = .ok (.aload_n 0, 1) := by decide +kernel
theorem dX7_isLess_11 : decode cX7_isLess 11 = .ok (.getfield 56, 3) := by decide +kernel
theorem dX7_isLess_14 : decode cX7_isLess 14 = .ok (.iload_n 2, 1) := by decide +kernel
theorem dX7_isLess_15 : decode cX7_isLess 15 = .ok (.iaload, 1) := by decide +kernel
theorem dX7_isLess_16 : decode cX7_isLess 16 = .ok (.if_icmp .lt 33, 3) := by decide +kernel
theorem dX7_isLess_19 : decode cX7_isLess 19 = .ok (.aload_n 0, 1) := by decide +kernel
theorem dX7_isLess_20 : decode cX7_isLess 20 = .ok (.getfield 56, 3) := by decide +kernel
theorem dX7_isLess_23 : decode cX7_isLess 23 = .ok (.iload_n 1, 1) := by decide +kernel
theorem dX7_isLess_24 : decode cX7_isLess 24 = .ok (.iaload, 1) := by decide +kernel
theorem dX7_isLess_25 : decode cX7_isLess 25 = .ok (.aload_n 0, 1) := by decide +kernel
theorem dX7_isLess_26 : decode cX7_isLess 26 = .ok (.getfield 56, 3) := by decide +kernel
theorem dX7_isLess_29 : decode cX7_isLess 29 = .ok (.iload_n 2, 1) := by decide +kernel
theorem dX7_isLess_30 : decode cX7_isLess 30 = .ok (.iaload, 1) := by decide +kernel
theorem dX7_isLess_31 : decode cX7_isLess 31 = .ok (.if_icmp .ne 22, 3) := by decide +kernel
theorem dX7_isLess_34 : decode cX7_isLess 34 = .ok (.aload_n 0, 1) := by decide +kernel
theorem dX7_isLess_35 : decode cX7_isLess 35 = .ok (.getfield 59, 3) := by decide +kernel
theorem dX7_isLess_38 : decode cX7_isLess 38 = .ok (.iload_n 1, 1) := by decide +kernel
theorem dX7_isLess_39 : decode cX7_isLess 39 = .ok (.iaload, 1) := by decide +kernel
theorem dX7_isLess_40 : decode cX7_isLess 40 = .ok (.aload_n 0, 1) := by decide +kernel
theorem dX7_isLess_41 : decode cX7_isLess 41 = .ok (.getfield 59, 3) := by decide +kernel
theorem dX7_isLess_44 : decode cX7_isLess 44 = .ok (.iload_n 2, 1) := by decide +kernel
theorem dX7_isLess_45 : decode cX7_isLess 45 = .ok (.iaload, 1) := by decide +kernel
theorem dX7_isLess_46 : decode cX7_isLess 46 = .ok (.if_icmp .ge 7, 3) := by decide +kernel
theorem dX7_isLess_49 : decode cX7_isLess 49 = .ok (.iconst 1, 1) := by decide +kernel
theorem dX7_isLess_50 : decode cX7_isLess 50 = .ok (.goto 4, 3) := by decide +kernel
theorem dX7_isLess_53 : decode cX7_isLess 53 = .ok (.iconst 0, 1) := by decide +kernel
theorem dX7_isLess_54 : decode cX7_isLess 54 = .ok (.ireturn, 1) := by decide +kernel
theorem dX7_ways_0 : decode cX7_ways 0 = .ok (.aload_n 0, 1) := by decide +kernel
theorem dX7_ways_1 : decode cX7_ways 1 = .ok (.iload_n 1, 1) := by decide +kernel
theorem dX7_ways_2 : decode cX7_ways 2 = .ok (.iload_n 3, 1) := by decide +kernel
theorem dX7_ways_3 : decode cX7_ways 3 = .ok (.invokevirtual 181, 3) := by decide +kernel
theorem dX7_ways_6 : decode cX7_ways 6 = .ok (.aload_n 0, 1) := by decide +kernel
theorem dX7_ways_7 : decode cX7_ways 7 = .ok (.iload_n 2, 1) := by decide +kernel
theorem dX7_ways_8 : decode cX7_ways 8 = .ok (.invokevirtual 184, 3) := by decide +kernel
theorem dX7_ways_11 : decode cX7_ways 11 = .ok (.istore 4, 2) := by decide +kernel
theorem dX7_ways_13 : decode cX7_ways 13 = .ok (.iload 4, 2) := by decide +kernel
theorem dX7_ways_15 : decode cX7_ways 15 = .ok (.ldc 160, 2) := by decide +kernel
theorem dX7_ways_17 : decode cX7_ways 17 = .ok (.if_icmp .ne 5, 3) := by decide +kernel
theorem dX7_ways_20 : decode cX7_ways 20 = .ok (.iconst 0, 1) := by decide +kernel
theorem dX7_ways_21 : decode cX7_ways 21 = .ok (.ireturn, 1) := by decide +kernel
theorem dX7_ways_22 : decode cX7_ways 22 = .ok (.ldc 160, 2) := by decide +kernel
theorem dX7_ways_24 : decode cX7_ways 24 = .ok (.istore 5, 2) := by decide +kernel
theorem dX7_ways_26 : decode cX7_ways 26 = .ok (.iconst 0, 1) := by decide +kernel
theorem dX7_ways_27 : decode cX7_ways 27 = .ok (.istore 6, 2) := by decide +kernel
theorem dX7_ways_29 : decode cX7_ways 29 = .ok (.iload 6, 2) := by decide +kernel
theorem dX7_ways_31 : decode cX7_ways 31 = .ok (.aload_n 0, 1) := by decide +kernel
theorem dX7_ways_32 : decode cX7_ways 32 = .ok (.getfield 150, 3) := by decide +kernel
theorem dX7_ways_35 : decode cX7_ways 35 = .ok (.if_icmp .ge 61, 3) := by decide +kernel
theorem dX7_ways_38 : decode cX7_ways 38 = .ok (.aload_n 0, 1) := by decide +kernel
theorem dX7_ways_39 : decode cX7_ways 39 = .ok (.getfield 74, 3) := by decide +kernel
theorem dX7_ways_42 : decode cX7_ways 42 = .ok (.iload 6, 2) := by decide +kernel
theorem dX7_ways_44 : decode cX7_ways 44 = .ok (.baload, 1) := by decide +kernel
theorem dX7_ways_45 : decode cX7_ways 45 = .ok (.ifCond .eq 45, 3) := by decide +kernel
theorem dX7_ways_48 : decode cX7_ways 48 = .ok (.aload_n 0, 1) := by decide +kernel
theorem dX7_ways_49 : decode cX7_ways 49 = .ok (.getfield 19, 3) := by decide +kernel
theorem dX7_ways_52 : decode cX7_ways 52 = .ok (.aload_n 0, 1) := by decide +kernel
theorem dX7_ways_53 : decode cX7_ways 53 = .ok (.getfield 56, 3) := by decide +kernel
theorem dX7_ways_56 : decode cX7_ways 56 = .ok (.iload 6, 2) := by decide +kernel
theorem dX7_ways_58 : decode cX7_ways 58 = .ok (.iaload, 1) := by decide +kernel
theorem dX7_ways_59 : decode cX7_ways 59 = .ok (.iaload, 1) := by decide +kernel
theorem dX7_ways_60 : decode cX7_ways 60 = .ok (.iload_n 2, 1) := by decide +kernel
theorem dX7_ways_61 : decode cX7_ways 61 = .ok (.if_icmp .ne 29, 3) := by decide +kernel
theorem dX7_ways_64 : decode cX7_ways 64 = .ok (.aload_n 0, 1) := by decide +kernel
theorem dX7_ways_65 : decode cX7_ways 65 = .ok (.getfield 65, 3) := by decide +kernel
theorem dX7_ways_68 : decode cX7_ways 68 = .ok (.iload 6, 2) := by decide +kernel
theorem dX7_ways_70 : decode cX7_ways 70 = .ok (.iaload, 1) := by decide +kernel
theorem dX7_ways_71 : decode cX7_ways 71 = .ok (.iload 4, 2) := by decide +kernel
theorem dX7_ways_73 : decode cX7_ways 73 = .ok (.if_icmp .ne 17, 3) := by decide +kernel
theorem dX7_ways_76 : decode cX7_ways 76 = .ok (.iload 5, 2) := by decide +kernel
theorem dX7_ways_78 : decode cX7_ways 78 = .ok (.aload_n 0, 1) := by decide +kernel
theorem dX7_ways_79 : decode cX7_ways 79 = .ok (.getfield 71, 3) := by decide +kernel
theorem dX7_ways_82 : decode cX7_ways 82 = .ok (.iload 6, 2) := by decide +kernel
theorem dX7_ways_84 : decode cX7_ways 84 = .ok (.iaload, 1) := by decide +kernel
theorem dX7_ways_85 : decode cX7_ways 85 = .ok (.invokestatic 170, 3) := by decide +kernel
theorem dX7_ways_88 : decode cX7_ways 88 = .ok (.istore 5, 2) := by decide +kernel
theorem dX7_ways_90 : decode cX7_ways 90 = .ok (.iinc 6 1, 3) := by decide +kernel
theorem dX7_ways_93 : decode cX7_ways 93 = .ok (.goto (-64), 3) := by decide +kernel
theorem dX7_ways_96 : decode cX7_ways 96 = .ok (.iconst (-1), 1) := by decide +kernel
theorem dX7_ways_97 : decode cX7_ways 97 = .ok (.istore 6, 2) := by decide +kernel
theorem dX7_ways_99 : decode cX7_ways 99 = .ok (.iconst 0, 1) := by decide +kernel
theorem dX7_ways_100 : decode cX7_ways 100 = .ok (.istore 7, 2) := by decide +kernel
theorem dX7_ways_102 : decode cX7_ways 102 = .ok (.iload 7, 2) := by decide +kernel
theorem dX7_ways_104 : decode cX7_ways 104 = .ok (.aload_n 0, 1) := by decide +kernel
theorem dX7_ways_105 : decode cX7_ways 105 = .ok (.getfield 150, 3) := by decide +kernel
theorem dX7_ways_108 : decode cX7_ways 108 = .ok (.if_icmp .ge 74, 3) := by decide +kernel
theorem dX7_ways_111 : decode cX7_ways 111 = .ok (.aload_n 0, 1) := by decide +kernel
theorem dX7_ways_112 : decode cX7_ways 112 = .ok (.getfield 74, 3) := by decide +kernel
theorem dX7_ways_115 : decode cX7_ways 115 = .ok (.iload 7, 2) := by decide +kernel
theorem dX7_ways_117 : decode cX7_ways 117 = .ok (.baload, 1) := by decide +kernel
theorem dX7_ways_118 : decode cX7_ways 118 = .ok (.ifCond .eq 58, 3) := by decide +kernel
theorem dX7_ways_121 : decode cX7_ways 121 = .ok (.aload_n 0, 1) := by decide +kernel
theorem dX7_ways_122 : decode cX7_ways 122 = .ok (.getfield 19, 3) := by decide +kernel
theorem dX7_ways_125 : decode cX7_ways 125 = .ok (.aload_n 0, 1) := by decide +kernel
theorem dX7_ways_126 : decode cX7_ways 126 = .ok (.getfield 56, 3) := by decide +kernel
theorem dX7_ways_129 : decode cX7_ways 129 = .ok (.iload 7, 2) := by decide +kernel
theorem dX7_ways_131 : decode cX7_ways 131 = .ok (.iaload, 1) := by decide +kernel
theorem dX7_ways_132 : decode cX7_ways 132 = .ok (.iaload, 1) := by decide +kernel
theorem dX7_ways_133 : decode cX7_ways 133 = .ok (.iload_n 2, 1) := by decide +kernel
theorem dX7_ways_134 : decode cX7_ways 134 = .ok (.if_icmp .ne 42, 3) := by decide +kernel
theorem dX7_ways_137 : decode cX7_ways 137 = .ok (.aload_n 0, 1) := by decide +kernel
theorem dX7_ways_138 : decode cX7_ways 138 = .ok (.getfield 65, 3) := by decide +kernel
theorem dX7_ways_141 : decode cX7_ways 141 = .ok (.iload 7, 2) := by decide +kernel
theorem dX7_ways_143 : decode cX7_ways 143 = .ok (.iaload, 1) := by decide +kernel
theorem dX7_ways_144 : decode cX7_ways 144 = .ok (.iload 4, 2) := by decide +kernel
theorem dX7_ways_146 : decode cX7_ways 146 = .ok (.if_icmp .ne 30, 3) := by decide +kernel
theorem dX7_ways_149 : decode cX7_ways 149 = .ok (.aload_n 0, 1) := by decide +kernel
theorem dX7_ways_150 : decode cX7_ways 150 = .ok (.getfield 71, 3) := by decide +kernel
theorem dX7_ways_153 : decode cX7_ways 153 = .ok (.iload 7, 2) := by decide +kernel
theorem dX7_ways_155 : decode cX7_ways 155 = .ok (.iaload, 1) := by decide +kernel
theorem dX7_ways_156 : decode cX7_ways 156 = .ok (.iload 5, 2) := by decide +kernel
theorem dX7_ways_158 : decode cX7_ways 158 = .ok (.if_icmp .ne 18, 3) := by decide +kernel
theorem dX7_ways_161 : decode cX7_ways 161 = .ok (.aload_n 0, 1) := by decide +kernel
theorem dX7_ways_162 : decode cX7_ways 162 = .ok (.iload 7, 2) := by decide +kernel
theorem dX7_ways_164 : decode cX7_ways 164 = .ok (.iload 6, 2) := by decide +kernel
theorem dX7_ways_166 : decode cX7_ways 166 = .ok (.invokevirtual 190, 3) := by decide +kernel
theorem dX7_ways_169 : decode cX7_ways 169 = .ok (.ifCond .eq 7, 3) := by decide +kernel
theorem dX7_ways_172 : decode cX7_ways 172 = .ok (.iload 7, 2) := by decide +kernel
theorem dX7_ways_174 : decode cX7_ways 174 = .ok (.istore 6, 2) := by decide +kernel
theorem dX7_ways_176 : decode cX7_ways 176 = .ok (.iinc 7 1, 3) := by decide +kernel
theorem dX7_ways_179 : decode cX7_ways 179 = .ok (.goto (-77), 3) := by decide +kernel
theorem dX7_ways_182 : decode cX7_ways 182 = .ok (.iload 5, 2) := by decide +kernel
theorem dX7_ways_184 : decode cX7_ways 184 = .ok (.iconst 1, 1) := by decide +kernel
theorem dX7_ways_185 : decode cX7_ways 185 = .ok (.isub, 1) := by decide +kernel
theorem dX7_ways_186 : decode cX7_ways 186 = .ok (.istore 7, 2) := by decide +kernel
theorem dX7_ways_188 : decode cX7_ways 188 = .ok (.iload 7, 2) := by decide +kernel
theorem dX7_ways_190 : decode cX7_ways 190 = .ok (.ifCond .lt 121, 3) := by decide +kernel
theorem dX7_ways_193 : decode cX7_ways 193 = .ok (.aload_n 0, 1) := by decide +kernel
theorem dX7_ways_194 : decode cX7_ways 194 = .ok (.getfield 77, 3) := by decide +kernel
theorem dX7_ways_197 : decode cX7_ways 197 = .ok (.iconst 2, 1) := by decide +kernel
theorem dX7_ways_198 : decode cX7_ways 198 = .ok (.iload 7, 2) := by decide +kernel
theorem dX7_ways_200 : decode cX7_ways 200 = .ok (.imul, 1) := by decide +kernel
theorem dX7_ways_201 : decode cX7_ways 201 = .ok (.aload_n 0, 1) := by decide +kernel
theorem dX7_ways_202 : decode cX7_ways 202 = .ok (.getfield 56, 3) := by decide +kernel
theorem dX7_ways_205 : decode cX7_ways 205 = .ok (.iload 6, 2) := by decide +kernel
theorem dX7_ways_207 : decode cX7_ways 207 = .ok (.iaload, 1) := by decide +kernel
theorem dX7_ways_208 : decode cX7_ways 208 = .ok (.iastore, 1) := by decide +kernel
theorem dX7_ways_209 : decode cX7_ways 209 = .ok (.aload_n 0, 1) := by decide +kernel
theorem dX7_ways_210 : decode cX7_ways 210 = .ok (.getfield 77, 3) := by decide +kernel
theorem dX7_ways_213 : decode cX7_ways 213 = .ok (.iconst 2, 1) := by decide +kernel
theorem dX7_ways_214 : decode cX7_ways 214 = .ok (.iload 7, 2) := by decide +kernel
theorem dX7_ways_216 : decode cX7_ways 216 = .ok (.imul, 1) := by decide +kernel
theorem dX7_ways_217 : decode cX7_ways 217 = .ok (.iconst 1, 1) := by decide +kernel
theorem dX7_ways_218 : decode cX7_ways 218 = .ok (.iadd, 1) := by decide +kernel
theorem dX7_ways_219 : decode cX7_ways 219 = .ok (.aload_n 0, 1) := by decide +kernel
theorem dX7_ways_220 : decode cX7_ways 220 = .ok (.getfield 59, 3) := by decide +kernel
theorem dX7_ways_223 : decode cX7_ways 223 = .ok (.iload 6, 2) := by decide +kernel
theorem dX7_ways_225 : decode cX7_ways 225 = .ok (.iaload, 1) := by decide +kernel
theorem dX7_ways_226 : decode cX7_ways 226 = .ok (.iastore, 1) := by decide +kernel
theorem dX7_ways_227 : decode cX7_ways 227 = .ok (.iconst (-1), 1) := by decide +kernel
theorem dX7_ways_228 : decode cX7_ways 228 = .ok (.istore 8, 2) := by decide +kernel
theorem dX7_ways_230 : decode cX7_ways 230 = .ok (.iconst 0, 1) := by decide +kernel
theorem dX7_ways_231 : decode cX7_ways 231 = .ok (.istore 9, 2) := by decide +kernel
theorem dX7_ways_233 : decode cX7_ways 233 = .ok (.iload 9, 2) := by decide +kernel
theorem dX7_ways_235 : decode cX7_ways 235 = .ok (.aload_n 0, 1) := by decide +kernel
theorem dX7_ways_236 : decode cX7_ways 236 = .ok (.getfield 150, 3) := by decide +kernel
theorem dX7_ways_239 : decode cX7_ways 239 = .ok (.if_icmp .ge 62, 3) := by decide +kernel
theorem dX7_ways_242 : decode cX7_ways 242 = .ok (.iload 7, 2) := by decide +kernel
theorem dX7_ways_244 : decode cX7_ways 244 = .ok (.ifCond .le 57, 3) := by decide +kernel
theorem dX7_ways_247 : decode cX7_ways 247 = .ok (.aload_n 0, 1) := by decide +kernel
theorem dX7_ways_248 : decode cX7_ways 248 = .ok (.getfield 74, 3) := by decide +kernel
theorem dX7_ways_251 : decode cX7_ways 251 = .ok (.iload 9, 2) := by decide +kernel
theorem dX7_ways_253 : decode cX7_ways 253 = .ok (.baload, 1) := by decide +kernel
theorem dX7_ways_254 : decode cX7_ways 254 = .ok (.ifCond .eq 41, 3) := by decide +kernel
theorem dX7_ways_257 : decode cX7_ways 257 = .ok (.aload_n 0, 1) := by decide +kernel
theorem dX7_ways_258 : decode cX7_ways 258 = .ok (.getfield 71, 3) := by decide +kernel
theorem dX7_ways_261 : decode cX7_ways 261 = .ok (.iload 9, 2) := by decide +kernel
theorem dX7_ways_263 : decode cX7_ways 263 = .ok (.iaload, 1) := by decide +kernel
theorem dX7_ways_264 : decode cX7_ways 264 = .ok (.iload 7, 2) := by decide +kernel
theorem dX7_ways_266 : decode cX7_ways 266 = .ok (.if_icmp .ne 29, 3) := by decide +kernel
theorem dX7_ways_269 : decode cX7_ways 269 = .ok (.aload_n 0, 1) := by decide +kernel
theorem dX7_ways_270 : decode cX7_ways 270 = .ok (.iload 9, 2) := by decide +kernel
theorem dX7_ways_272 : decode cX7_ways 272 = .ok (.iload 6, 2) := by decide +kernel
theorem dX7_ways_274 : decode cX7_ways 274 = .ok (.invokevirtual 161, 3) := by decide +kernel
theorem dX7_ways_277 : decode cX7_ways 277 = .ok (.ifCond .eq 18, 3) := by decide +kernel
theorem dX7_ways_280 : decode cX7_ways 280 = .ok (.aload_n 0, 1) := by decide +kernel
theorem dX7_ways_281 : decode cX7_ways 281 = .ok (.iload 9, 2) := by decide +kernel
theorem dX7_ways_283 : decode cX7_ways 283 = .ok (.iload 8, 2) := by decide +kernel
theorem dX7_ways_285 : decode cX7_ways 285 = .ok (.invokevirtual 190, 3) := by decide +kernel
theorem dX7_ways_288 : decode cX7_ways 288 = .ok (.ifCond .eq 7, 3) := by decide +kernel
theorem dX7_ways_291 : decode cX7_ways 291 = .ok (.iload 9, 2) := by decide +kernel
theorem dX7_ways_293 : decode cX7_ways 293 = .ok (.istore 8, 2) := by decide +kernel
theorem dX7_ways_295 : decode cX7_ways 295 = .ok (.iinc 9 1, 3) := by decide +kernel
theorem dX7_ways_298 : decode cX7_ways 298 = .ok (.goto (-65), 3) := by decide +kernel
theorem dX7_ways_301 : decode cX7_ways 301 = .ok (.iload 8, 2) := by decide +kernel
theorem dX7_ways_303 : decode cX7_ways 303 = .ok (.istore 6, 2) := by decide +kernel
theorem dX7_ways_305 : decode cX7_ways 305 = .ok (.iinc 7 (-1), 3) := by decide +kernel
theorem dX7_ways_308 : decode cX7_ways 308 = .ok (.goto (-120), 3) := by decide +kernel
theorem dX7_ways_311 : decode cX7_ways 311 = .ok (.iload 5, 2) := by decide +kernel
theorem dX7_ways_313 : decode cX7_ways 313 = .ok (.ireturn, 1) := by decide +kernel
theorem dX7_way_0 : decode cX7_way 0 = .ok (.aload_n 0, 1) := by decide +kernel
theorem dX7_way_1 : decode cX7_way 1 = .ok (.iconst 0, 1) := by decide +kernel
theorem dX7_way_2 : decode cX7_way 2 = .ok (.putfield 92, 3) := by decide +kernel
theorem dX7_way_5 : decode cX7_way 5 = .ok (.aload_n 0, 1) := by decide +kernel
theorem dX7_way_6 : decode cX7_way 6 = .ok (.aload_n 0, 1) := by decide +kernel
theorem dX7_way_7 : decode cX7_way 7 = .ok (.iload_n 1, 1) := by decide +kernel
theorem dX7_way_8 : decode cX7_way 8 = .ok (.iload_n 2, 1) := by decide +kernel
theorem dX7_way_9 : decode cX7_way 9 = .ok (.iload_n 3, 1) := by decide +kernel
theorem dX7_way_10 : decode cX7_way 10 = .ok (.iload_n 3, 1) := by decide +kernel
theorem dX7_way_11 : decode cX7_way 11 = .ok (.iload 4, 2) := by decide +kernel
theorem dX7_way_13 : decode cX7_way 13 = .ok (.invokevirtual 173, 3) := by decide +kernel
theorem dX7_way_16 : decode cX7_way 16 = .ok (.putfield 96, 3) := by decide +kernel
theorem dX7_way_19 : decode cX7_way 19 = .ok (.aload_n 0, 1) := by decide +kernel
theorem dX7_way_20 : decode cX7_way 20 = .ok (.getfield 96, 3) := by decide +kernel
theorem dX7_way_23 : decode cX7_way 23 = .ok (.ifCond .le 5, 3) := by decide +kernel
theorem dX7_way_26 : decode cX7_way 26 = .ok (.iconst (-1), 1) := by decide +kernel
theorem dX7_way_27 : decode cX7_way 27 = .ok (.ireturn, 1) := by decide +kernel
theorem dX7_way_28 : decode cX7_way 28 = .ok (.aload_n 0, 1) := by decide +kernel
theorem dX7_way_29 : decode cX7_way 29 = .ok (.iload 4, 2) := by decide +kernel
theorem dX7_way_31 : decode cX7_way 31 = .ok (.iconst (-1), 1) := by decide +kernel
theorem dX7_way_32 : decode cX7_way 32 = .ok (.invokevirtual 177, 3) := by decide +kernel
theorem dX7_way_35 : decode cX7_way 35 = .ok (.aload_n 0, 1) := by decide +kernel
theorem dX7_way_36 : decode cX7_way 36 = .ok (.iload_n 1, 1) := by decide +kernel
theorem dX7_way_37 : decode cX7_way 37 = .ok (.iload_n 2, 1) := by decide +kernel
theorem dX7_way_38 : decode cX7_way 38 = .ok (.iload_n 3, 1) := by decide +kernel
theorem dX7_way_39 : decode cX7_way 39 = .ok (.invokevirtual 193, 3) := by decide +kernel
theorem dX7_way_42 : decode cX7_way 42 = .ok (.istore 5, 2) := by decide +kernel
theorem dX7_way_44 : decode cX7_way 44 = .ok (.iload 5, 2) := by decide +kernel
theorem dX7_way_46 : decode cX7_way 46 = .ok (.ifCond .ne 9, 3) := by decide +kernel
theorem dX7_way_49 : decode cX7_way 49 = .ok (.aload_n 0, 1) := by decide +kernel
theorem dX7_way_50 : decode cX7_way 50 = .ok (.iconst 5, 1) := by decide +kernel
theorem dX7_way_51 : decode cX7_way 51 = .ok (.invokevirtual 109, 3) := by decide +kernel
theorem dX7_way_54 : decode cX7_way 54 = .ok (.ireturn, 1) := by decide +kernel
theorem dX7_way_55 : decode cX7_way 55 = .ok (.aload_n 0, 1) := by decide +kernel
theorem dX7_way_56 : decode cX7_way 56 = .ok (.iconst 2, 1) := by decide +kernel
theorem dX7_way_57 : decode cX7_way 57 = .ok (.iload 5, 2) := by decide +kernel
theorem dX7_way_59 : decode cX7_way 59 = .ok (.imul, 1) := by decide +kernel
theorem dX7_way_60 : decode cX7_way 60 = .ok (.putfield 196, 3) := by decide +kernel
theorem dX7_way_63 : decode cX7_way 63 = .ok (.iload 5, 2) := by decide +kernel
theorem dX7_way_65 : decode cX7_way 65 = .ok (.ireturn, 1) := by decide +kernel
theorem dX7_out_0 : decode cX7_out 0 = .ok (.aload_n 0, 1) := by decide +kernel
theorem dX7_out_1 : decode cX7_out 1 = .ok (.iconst 0, 1) := by decide +kernel
theorem dX7_out_2 : decode cX7_out 2 = .ok (.putfield 92, 3) := by decide +kernel
theorem dX7_out_5 : decode cX7_out 5 = .ok (.iload_n 1, 1) := by decide +kernel
theorem dX7_out_6 : decode cX7_out 6 = .ok (.ifCond .lt 20, 3) := by decide +kernel
theorem dX7_out_9 : decode cX7_out 9 = .ok (.iload_n 1, 1) := by decide +kernel
theorem dX7_out_10 : decode cX7_out 10 = .ok (.aload_n 0, 1) := by decide +kernel
theorem dX7_out_11 : decode cX7_out 11 = .ok (.getfield 196, 3) := by decide +kernel
theorem dX7_out_14 : decode cX7_out 14 = .ok (.if_icmp .ge 12, 3) := by decide +kernel
theorem dX7_out_17 : decode cX7_out 17 = .ok (.aload_n 0, 1) := by decide +kernel
theorem dX7_out_18 : decode cX7_out 18 = .ok (.getfield 77, 3) := by decide +kernel
theorem dX7_out_21 : decode cX7_out 21 = .ok (.iload_n 1, 1) := by decide +kernel
theorem dX7_out_22 : decode cX7_out 22 = .ok (.iaload, 1) := by decide +kernel
theorem dX7_out_23 : decode cX7_out 23 = .ok (.goto 4, 3) := by decide +kernel
theorem dX7_out_26 : decode cX7_out 26 = .ok (.iconst (-1), 1) := by decide +kernel
theorem dX7_out_27 : decode cX7_out 27 = .ok (.ireturn, 1) := by decide +kernel
theorem dX7_pairsOf_0 : decode cX7_pairsOf 0 = .ok (.aload_n 0, 1) := by decide +kernel
theorem dX7_pairsOf_1 : decode cX7_pairsOf 1 = .ok (.iload_n 3, 1) := by decide +kernel
theorem dX7_pairsOf_2 : decode cX7_pairsOf 2 = .ok (.iconst (-1), 1) := by decide +kernel
theorem dX7_pairsOf_3 : decode cX7_pairsOf 3 = .ok (.invokevirtual 177, 3) := by decide +kernel
theorem dX7_pairsOf_6 : decode cX7_pairsOf 6 = .ok (.aload_n 0, 1) := by decide +kernel
theorem dX7_pairsOf_7 : decode cX7_pairsOf 7 = .ok (.iload_n 1, 1) := by decide +kernel
theorem dX7_pairsOf_8 : decode cX7_pairsOf 8 = .ok (.iconst 0, 1) := by decide +kernel
theorem dX7_pairsOf_9 : decode cX7_pairsOf 9 = .ok (.invokevirtual 181, 3) := by decide +kernel
theorem dX7_pairsOf_12 : decode cX7_pairsOf 12 = .ok (.iconst 0, 1) := by decide +kernel
theorem dX7_pairsOf_13 : decode cX7_pairsOf 13 = .ok (.istore 4, 2) := by decide +kernel
theorem dX7_pairsOf_15 : decode cX7_pairsOf 15 = .ok (.iconst 0, 1) := by decide +kernel
theorem dX7_pairsOf_16 : decode cX7_pairsOf 16 = .ok (.istore 5, 2) := by decide +kernel
theorem dX7_pairsOf_18 : decode cX7_pairsOf 18 = .ok (.iload 5, 2) := by decide +kernel
theorem dX7_pairsOf_20 : decode cX7_pairsOf 20 = .ok (.aload_n 0, 1) := by decide +kernel
theorem dX7_pairsOf_21 : decode cX7_pairsOf 21 = .ok (.getfield 150, 3) := by decide +kernel
theorem dX7_pairsOf_24 : decode cX7_pairsOf 24 = .ok (.if_icmp .ge 281, 3) := by decide +kernel
theorem dX7_pairsOf_27 : decode cX7_pairsOf 27 = .ok (.aload_n 0, 1) := by decide +kernel
theorem dX7_pairsOf_28 : decode cX7_pairsOf 28 = .ok (.getfield 74, 3) := by decide +kernel
theorem dX7_pairsOf_31 : decode cX7_pairsOf 31 = .ok (.iload 5, 2) := by decide +kernel
theorem dX7_pairsOf_33 : decode cX7_pairsOf 33 = .ok (.baload, 1) := by decide +kernel
theorem dX7_pairsOf_34 : decode cX7_pairsOf 34 = .ok (.ifCond .eq 265, 3) := by decide +kernel
theorem dX7_pairsOf_37 : decode cX7_pairsOf 37 = .ok (.aload_n 0, 1) := by decide +kernel
theorem dX7_pairsOf_38 : decode cX7_pairsOf 38 = .ok (.getfield 19, 3) := by decide +kernel
theorem dX7_pairsOf_41 : decode cX7_pairsOf 41 = .ok (.aload_n 0, 1) := by decide +kernel
theorem dX7_pairsOf_42 : decode cX7_pairsOf 42 = .ok (.getfield 56, 3) := by decide +kernel
theorem dX7_pairsOf_45 : decode cX7_pairsOf 45 = .ok (.iload 5, 2) := by decide +kernel
theorem dX7_pairsOf_47 : decode cX7_pairsOf 47 = .ok (.iaload, 1) := by decide +kernel
theorem dX7_pairsOf_48 : decode cX7_pairsOf 48 = .ok (.iaload, 1) := by decide +kernel
theorem dX7_pairsOf_49 : decode cX7_pairsOf 49 = .ok (.iload_n 2, 1) := by decide +kernel
theorem dX7_pairsOf_50 : decode cX7_pairsOf 50 = .ok (.if_icmp .eq 6, 3) := by decide +kernel
theorem dX7_pairsOf_53 : decode cX7_pairsOf 53 = .ok (.goto 246, 3) := by decide +kernel
theorem dX7_pairsOf_56 : decode cX7_pairsOf 56 = .ok (.aload_n 0, 1) := by decide +kernel
theorem dX7_pairsOf_57 : decode cX7_pairsOf 57 = .ok (.getfield 68, 3) := by decide +kernel
theorem dX7_pairsOf_60 : decode cX7_pairsOf 60 = .ok (.iload 5, 2) := by decide +kernel
theorem dX7_pairsOf_62 : decode cX7_pairsOf 62 = .ok (.iaload, 1) := by decide +kernel
theorem dX7_pairsOf_63 : decode cX7_pairsOf 63 = .ok (.istore 6, 2) := by decide +kernel
theorem dX7_pairsOf_65 : decode cX7_pairsOf 65 = .ok (.aload_n 0, 1) := by decide +kernel
theorem dX7_pairsOf_66 : decode cX7_pairsOf 66 = .ok (.getfield 65, 3) := by decide +kernel
theorem dX7_pairsOf_69 : decode cX7_pairsOf 69 = .ok (.iload 5, 2) := by decide +kernel
theorem dX7_pairsOf_71 : decode cX7_pairsOf 71 = .ok (.iaload, 1) := by decide +kernel
theorem dX7_pairsOf_72 : decode cX7_pairsOf 72 = .ok (.istore 7, 2) := by decide +kernel
theorem dX7_pairsOf_74 : decode cX7_pairsOf 74 = .ok (.iconst 0, 1) := by decide +kernel
theorem dX7_pairsOf_75 : decode cX7_pairsOf 75 = .ok (.istore 8, 2) := by decide +kernel
theorem dX7_pairsOf_77 : decode cX7_pairsOf 77 = .ok (.iconst 0, 1) := by decide +kernel
theorem dX7_pairsOf_78 : decode cX7_pairsOf 78 = .ok (.istore 9, 2) := by decide +kernel
theorem dX7_pairsOf_80 : decode cX7_pairsOf 80 = .ok (.iload 9, 2) := by decide +kernel
theorem dX7_pairsOf_82 : decode cX7_pairsOf 82 = .ok (.iload 4, 2) := by decide +kernel
theorem dX7_pairsOf_84 : decode cX7_pairsOf 84 = .ok (.if_icmp .ge 45, 3) := by decide +kernel
theorem dX7_pairsOf_87 : decode cX7_pairsOf 87 = .ok (.iload 8, 2) := by decide +kernel
theorem dX7_pairsOf_89 : decode cX7_pairsOf 89 = .ok (.ifCond .ne 27, 3) := by decide +kernel
theorem dX7_pairsOf_92 : decode cX7_pairsOf 92 = .ok (.aload_n 0, 1) := by decide +kernel
theorem dX7_pairsOf_93 : decode cX7_pairsOf 93 = .ok (.getfield 80, 3) := by decide +kernel
theorem dX7_pairsOf_96 : decode cX7_pairsOf 96 = .ok (.iload 9, 2) := by decide +kernel
theorem dX7_pairsOf_98 : decode cX7_pairsOf 98 = .ok (.iaload, 1) := by decide +kernel
theorem dX7_pairsOf_99 : decode cX7_pairsOf 99 = .ok (.iload 6, 2) := by decide +kernel
theorem dX7_pairsOf_101 : decode cX7_pairsOf 101 = .ok (.if_icmp .lt 19, 3) := by decide +kernel
theorem dX7_pairsOf_104 : decode cX7_pairsOf 104 = .ok (.aload_n 0, 1) := by decide +kernel
theorem dX7_pairsOf_105 : decode cX7_pairsOf 105 = .ok (.getfield 83, 3) := by decide +kernel
theorem dX7_pairsOf_108 : decode cX7_pairsOf 108 = .ok (.iload 9, 2) := by decide +kernel
theorem dX7_pairsOf_110 : decode cX7_pairsOf 110 = .ok (.iaload, 1) := by decide +kernel
theorem dX7_pairsOf_111 : decode cX7_pairsOf 111 = .ok (.iload 7, 2) := by decide +kernel
theorem dX7_pairsOf_113 : decode cX7_pairsOf 113 = .ok (.if_icmp .gt 7, 3) := by decide +kernel
theorem dX7_pairsOf_116 : decode cX7_pairsOf 116 = .ok (.iconst 1, 1) := by decide +kernel
theorem dX7_pairsOf_117 : decode cX7_pairsOf 117 = .ok (.goto 4, 3) := by decide +kernel
theorem dX7_pairsOf_120 : decode cX7_pairsOf 120 = .ok (.iconst 0, 1) := by decide +kernel
theorem dX7_pairsOf_121 : decode cX7_pairsOf 121 = .ok (.istore 8, 2) := by decide +kernel
theorem dX7_pairsOf_123 : decode cX7_pairsOf 123 = .ok (.iinc 9 1, 3) := by decide +kernel
theorem dX7_pairsOf_126 : decode cX7_pairsOf 126 = .ok (.goto (-46), 3) := by decide +kernel
theorem dX7_pairsOf_129 : decode cX7_pairsOf 129 = .ok (.iload 8, 2) := by decide +kernel
theorem dX7_pairsOf_131 : decode cX7_pairsOf 131 = .ok (.ifCond .eq 6, 3) := by decide +kernel
theorem dX7_pairsOf_134 : decode cX7_pairsOf 134 = .ok (.goto 165, 3) := by decide +kernel
theorem dX7_pairsOf_137 : decode cX7_pairsOf 137 = .ok (.iconst 0, 1) := by decide +kernel
theorem dX7_pairsOf_138 : decode cX7_pairsOf 138 = .ok (.istore 9, 2) := by decide +kernel
theorem dX7_pairsOf_140 : decode cX7_pairsOf 140 = .ok (.iconst 0, 1) := by decide +kernel
theorem dX7_pairsOf_141 : decode cX7_pairsOf 141 = .ok (.istore 10, 2) := by decide +kernel
theorem dX7_pairsOf_143 : decode cX7_pairsOf 143 = .ok (.iload 10, 2) := by decide +kernel
theorem dX7_pairsOf_145 : decode cX7_pairsOf 145 = .ok (.iload 4, 2) := by decide +kernel
theorem dX7_pairsOf_147 : decode cX7_pairsOf 147 = .ok (.if_icmp .ge 67, 3) := by decide +kernel
theorem dX7_pairsOf_150 : decode cX7_pairsOf 150 = .ok (.iload 6, 2) := by decide +kernel
theorem dX7_pairsOf_152 : decode cX7_pairsOf 152 = .ok (.aload_n 0, 1) := by decide +kernel
theorem dX7_pairsOf_153 : decode cX7_pairsOf 153 = .ok (.getfield 80, 3) := by decide +kernel
theorem dX7_pairsOf_156 : decode cX7_pairsOf 156 = .ok (.iload 10, 2) := by decide +kernel
theorem dX7_pairsOf_158 : decode cX7_pairsOf 158 = .ok (.iaload, 1) := by decide +kernel
theorem dX7_pairsOf_159 : decode cX7_pairsOf 159 = .ok (.if_icmp .lt 18, 3) := by decide +kernel
theorem dX7_pairsOf_162 : decode cX7_pairsOf 162 = .ok (.iload 7, 2) := by decide +kernel
theorem dX7_pairsOf_164 : decode cX7_pairsOf 164 = .ok (.aload_n 0, 1) := by decide +kernel
theorem dX7_pairsOf_165 : decode cX7_pairsOf 165 = .ok (.getfield 83, 3) := by decide +kernel
theorem dX7_pairsOf_168 : decode cX7_pairsOf 168 = .ok (.iload 10, 2) := by decide +kernel
theorem dX7_pairsOf_170 : decode cX7_pairsOf 170 = .ok (.iaload, 1) := by decide +kernel
theorem dX7_pairsOf_171 : decode cX7_pairsOf 171 = .ok (.if_icmp .gt 6, 3) := by decide +kernel
theorem dX7_pairsOf_174 : decode cX7_pairsOf 174 = .ok (.goto 34, 3) := by decide +kernel
theorem dX7_pairsOf_177 : decode cX7_pairsOf 177 = .ok (.aload_n 0, 1) := by decide +kernel
theorem dX7_pairsOf_178 : decode cX7_pairsOf 178 = .ok (.getfield 80, 3) := by decide +kernel
theorem dX7_pairsOf_181 : decode cX7_pairsOf 181 = .ok (.iload 9, 2) := by decide +kernel
theorem dX7_pairsOf_183 : decode cX7_pairsOf 183 = .ok (.aload_n 0, 1) := by decide +kernel
theorem dX7_pairsOf_184 : decode cX7_pairsOf 184 = .ok (.getfield 80, 3) := by decide +kernel
theorem dX7_pairsOf_187 : decode cX7_pairsOf 187 = .ok (.iload 10, 2) := by decide +kernel
theorem dX7_pairsOf_189 : decode cX7_pairsOf 189 = .ok (.iaload, 1) := by decide +kernel
theorem dX7_pairsOf_190 : decode cX7_pairsOf 190 = .ok (.iastore, 1) := by decide +kernel
theorem dX7_pairsOf_191 : decode cX7_pairsOf 191 = .ok (.aload_n 0, 1) := by decide +kernel
theorem dX7_pairsOf_192 : decode cX7_pairsOf 192 = .ok (.getfield 83, 3) := by decide +kernel
theorem dX7_pairsOf_195 : decode cX7_pairsOf 195 = .ok (.iload 9, 2) := by decide +kernel
theorem dX7_pairsOf_197 : decode cX7_pairsOf 197 = .ok (.aload_n 0, 1) := by decide +kernel
theorem dX7_pairsOf_198 : decode cX7_pairsOf 198 = .ok (.getfield 83, 3) := by decide +kernel
theorem dX7_pairsOf_201 : decode cX7_pairsOf 201 = .ok (.iload 10, 2) := by decide +kernel
theorem dX7_pairsOf_203 : decode cX7_pairsOf 203 = .ok (.iaload, 1) := by decide +kernel
theorem dX7_pairsOf_204 : decode cX7_pairsOf 204 = .ok (.iastore, 1) := by decide +kernel
theorem dX7_pairsOf_205 : decode cX7_pairsOf 205 = .ok (.iinc 9 1, 3) := by decide +kernel
theorem dX7_pairsOf_208 : decode cX7_pairsOf 208 = .ok (.iinc 10 1, 3) := by decide +kernel
theorem dX7_pairsOf_211 : decode cX7_pairsOf 211 = .ok (.goto (-68), 3) := by decide +kernel
theorem dX7_pairsOf_214 : decode cX7_pairsOf 214 = .ok (.iload 9, 2) := by decide +kernel
theorem dX7_pairsOf_216 : decode cX7_pairsOf 216 = .ok (.istore 10, 2) := by decide +kernel
theorem dX7_pairsOf_218 : decode cX7_pairsOf 218 = .ok (.iload 10, 2) := by decide +kernel
theorem dX7_pairsOf_220 : decode cX7_pairsOf 220 = .ok (.ifCond .le 55, 3) := by decide +kernel
theorem dX7_pairsOf_223 : decode cX7_pairsOf 223 = .ok (.aload_n 0, 1) := by decide +kernel
theorem dX7_pairsOf_224 : decode cX7_pairsOf 224 = .ok (.getfield 80, 3) := by decide +kernel
theorem dX7_pairsOf_227 : decode cX7_pairsOf 227 = .ok (.iload 10, 2) := by decide +kernel
theorem dX7_pairsOf_229 : decode cX7_pairsOf 229 = .ok (.iconst 1, 1) := by decide +kernel
theorem dX7_pairsOf_230 : decode cX7_pairsOf 230 = .ok (.isub, 1) := by decide +kernel
theorem dX7_pairsOf_231 : decode cX7_pairsOf 231 = .ok (.iaload, 1) := by decide +kernel
theorem dX7_pairsOf_232 : decode cX7_pairsOf 232 = .ok (.iload 6, 2) := by decide +kernel
theorem dX7_pairsOf_234 : decode cX7_pairsOf 234 = .ok (.if_icmp .le 41, 3) := by decide +kernel
theorem dX7_pairsOf_237 : decode cX7_pairsOf 237 = .ok (.aload_n 0, 1) := by decide +kernel
theorem dX7_pairsOf_238 : decode cX7_pairsOf 238 = .ok (.getfield 80, 3) := by decide +kernel
theorem dX7_pairsOf_241 : decode cX7_pairsOf 241 = .ok (.iload 10, 2) := by decide +kernel
theorem dX7_pairsOf_243 : decode cX7_pairsOf 243 = .ok (.aload_n 0, 1) := by decide +kernel
theorem dX7_pairsOf_244 : decode cX7_pairsOf 244 = .ok (.getfield 80, 3) := by decide +kernel
theorem dX7_pairsOf_247 : decode cX7_pairsOf 247 = .ok (.iload 10, 2) := by decide +kernel
theorem dX7_pairsOf_249 : decode cX7_pairsOf 249 = .ok (.iconst 1, 1) := by decide +kernel
theorem dX7_pairsOf_250 : decode cX7_pairsOf 250 = .ok (.isub, 1) := by decide +kernel
theorem dX7_pairsOf_251 : decode cX7_pairsOf 251 = .ok (.iaload, 1) := by decide +kernel
theorem dX7_pairsOf_252 : decode cX7_pairsOf 252 = .ok (.iastore, 1) := by decide +kernel
theorem dX7_pairsOf_253 : decode cX7_pairsOf 253 = .ok (.aload_n 0, 1) := by decide +kernel
theorem dX7_pairsOf_254 : decode cX7_pairsOf 254 = .ok (.getfield 83, 3) := by decide +kernel
theorem dX7_pairsOf_257 : decode cX7_pairsOf 257 = .ok (.iload 10, 2) := by decide +kernel
theorem dX7_pairsOf_259 : decode cX7_pairsOf 259 = .ok (.aload_n 0, 1) := by decide +kernel
theorem dX7_pairsOf_260 : decode cX7_pairsOf 260 = .ok (.getfield 83, 3) := by decide +kernel
theorem dX7_pairsOf_263 : decode cX7_pairsOf 263 = .ok (.iload 10, 2) := by decide +kernel
theorem dX7_pairsOf_265 : decode cX7_pairsOf 265 = .ok (.iconst 1, 1) := by decide +kernel
theorem dX7_pairsOf_266 : decode cX7_pairsOf 266 = .ok (.isub, 1) := by decide +kernel
theorem dX7_pairsOf_267 : decode cX7_pairsOf 267 = .ok (.iaload, 1) := by decide +kernel
theorem dX7_pairsOf_268 : decode cX7_pairsOf 268 = .ok (.iastore, 1) := by decide +kernel
theorem dX7_pairsOf_269 : decode cX7_pairsOf 269 = .ok (.iinc 10 (-1), 3) := by decide +kernel
theorem dX7_pairsOf_272 : decode cX7_pairsOf 272 = .ok (.goto (-54), 3) := by decide +kernel
theorem dX7_pairsOf_275 : decode cX7_pairsOf 275 = .ok (.aload_n 0, 1) := by decide +kernel
theorem dX7_pairsOf_276 : decode cX7_pairsOf 276 = .ok (.getfield 80, 3) := by decide +kernel
theorem dX7_pairsOf_279 : decode cX7_pairsOf 279 = .ok (.iload 10, 2) := by decide +kernel
theorem dX7_pairsOf_281 : decode cX7_pairsOf 281 = .ok (.iload 6, 2) := by decide +kernel
theorem dX7_pairsOf_283 : decode cX7_pairsOf 283 = .ok (.iastore, 1) := by decide +kernel
theorem dX7_pairsOf_284 : decode cX7_pairsOf 284 = .ok (.aload_n 0, 1) := by decide +kernel
theorem dX7_pairsOf_285 : decode cX7_pairsOf 285 = .ok (.getfield 83, 3) := by decide +kernel
theorem dX7_pairsOf_288 : decode cX7_pairsOf 288 = .ok (.iload 10, 2) := by decide +kernel
theorem dX7_pairsOf_290 : decode cX7_pairsOf 290 = .ok (.iload 7, 2) := by decide +kernel
theorem dX7_pairsOf_292 : decode cX7_pairsOf 292 = .ok (.iastore, 1) := by decide +kernel
theorem dX7_pairsOf_293 : decode cX7_pairsOf 293 = .ok (.iload 9, 2) := by decide +kernel
theorem dX7_pairsOf_295 : decode cX7_pairsOf 295 = .ok (.iconst 1, 1) := by decide +kernel
theorem dX7_pairsOf_296 : decode cX7_pairsOf 296 = .ok (.iadd, 1) := by decide +kernel
theorem dX7_pairsOf_297 : decode cX7_pairsOf 297 = .ok (.istore 4, 2) := by decide +kernel
theorem dX7_pairsOf_299 : decode cX7_pairsOf 299 = .ok (.iinc 5 1, 3) := by decide +kernel
theorem dX7_pairsOf_302 : decode cX7_pairsOf 302 = .ok (.goto (-284), 3) := by decide +kernel
theorem dX7_pairsOf_305 : decode cX7_pairsOf 305 = .ok (.iload 4, 2) := by decide +kernel
theorem dX7_pairsOf_307 : decode cX7_pairsOf 307 = .ok (.ireturn, 1) := by decide +kernel
theorem dX7_pairs_0 : decode cX7_pairs 0 = .ok (.aload_n 0, 1) := by decide +kernel
theorem dX7_pairs_1 : decode cX7_pairs 1 = .ok (.iconst 0, 1) := by decide +kernel
theorem dX7_pairs_2 : decode cX7_pairs 2 = .ok (.putfield 92, 3) := by decide +kernel
theorem dX7_pairs_5 : decode cX7_pairs 5 = .ok (.aload_n 0, 1) := by decide +kernel
theorem dX7_pairs_6 : decode cX7_pairs 6 = .ok (.aload_n 0, 1) := by decide +kernel
theorem dX7_pairs_7 : decode cX7_pairs 7 = .ok (.iload_n 1, 1) := by decide +kernel
theorem dX7_pairs_8 : decode cX7_pairs 8 = .ok (.iload_n 2, 1) := by decide +kernel
theorem dX7_pairs_9 : decode cX7_pairs 9 = .ok (.iconst 0, 1) := by decide +kernel
theorem dX7_pairs_10 : decode cX7_pairs 10 = .ok (.iconst 0, 1) := by decide +kernel
theorem dX7_pairs_11 : decode cX7_pairs 11 = .ok (.iload_n 3, 1) := by decide +kernel
theorem dX7_pairs_12 : decode cX7_pairs 12 = .ok (.invokevirtual 173, 3) := by decide +kernel
theorem dX7_pairs_15 : decode cX7_pairs 15 = .ok (.putfield 96, 3) := by decide +kernel
theorem dX7_pairs_18 : decode cX7_pairs 18 = .ok (.aload_n 0, 1) := by decide +kernel
theorem dX7_pairs_19 : decode cX7_pairs 19 = .ok (.getfield 96, 3) := by decide +kernel
theorem dX7_pairs_22 : decode cX7_pairs 22 = .ok (.ifCond .le 7, 3) := by decide +kernel
theorem dX7_pairs_25 : decode cX7_pairs 25 = .ok (.iconst (-1), 1) := by decide +kernel
theorem dX7_pairs_26 : decode cX7_pairs 26 = .ok (.goto 10, 3) := by decide +kernel
theorem dX7_pairs_29 : decode cX7_pairs 29 = .ok (.aload_n 0, 1) := by decide +kernel
theorem dX7_pairs_30 : decode cX7_pairs 30 = .ok (.iload_n 1, 1) := by decide +kernel
theorem dX7_pairs_31 : decode cX7_pairs 31 = .ok (.iload_n 2, 1) := by decide +kernel
theorem dX7_pairs_32 : decode cX7_pairs 32 = .ok (.iload_n 3, 1) := by decide +kernel
theorem dX7_pairs_33 : decode cX7_pairs 33 = .ok (.invokevirtual 199, 3) := by decide +kernel
theorem dX7_pairs_36 : decode cX7_pairs 36 = .ok (.ireturn, 1) := by decide +kernel
theorem dX7_pair_0 : decode cX7_pair 0 = .ok (.aload_n 0, 1) := by decide +kernel
theorem dX7_pair_1 : decode cX7_pair 1 = .ok (.iconst 0, 1) := by decide +kernel
theorem dX7_pair_2 : decode cX7_pair 2 = .ok (.putfield 92, 3) := by decide +kernel
theorem dX7_pair_5 : decode cX7_pair 5 = .ok (.aload_n 0, 1) := by decide +kernel
theorem dX7_pair_6 : decode cX7_pair 6 = .ok (.aload_n 0, 1) := by decide +kernel
theorem dX7_pair_7 : decode cX7_pair 7 = .ok (.iload_n 1, 1) := by decide +kernel
theorem dX7_pair_8 : decode cX7_pair 8 = .ok (.iload_n 2, 1) := by decide +kernel
theorem dX7_pair_9 : decode cX7_pair 9 = .ok (.iconst 0, 1) := by decide +kernel
theorem dX7_pair_10 : decode cX7_pair 10 = .ok (.iconst 0, 1) := by decide +kernel
theorem dX7_pair_11 : decode cX7_pair 11 = .ok (.iload_n 3, 1) := by decide +kernel
theorem dX7_pair_12 : decode cX7_pair 12 = .ok (.invokevirtual 173, 3) := by decide +kernel
theorem dX7_pair_15 : decode cX7_pair 15 = .ok (.putfield 96, 3) := by decide +kernel
theorem dX7_pair_18 : decode cX7_pair 18 = .ok (.aload_n 0, 1) := by decide +kernel
theorem dX7_pair_19 : decode cX7_pair 19 = .ok (.getfield 96, 3) := by decide +kernel
theorem dX7_pair_22 : decode cX7_pair 22 = .ok (.ifCond .le 5, 3) := by decide +kernel
theorem dX7_pair_25 : decode cX7_pair 25 = .ok (.iconst (-1), 1) := by decide +kernel
theorem dX7_pair_26 : decode cX7_pair 26 = .ok (.ireturn, 1) := by decide +kernel
theorem dX7_pair_27 : decode cX7_pair 27 = .ok (.iload 4, 2) := by decide +kernel
theorem dX7_pair_29 : decode cX7_pair 29 = .ok (.ifCond .lt 15, 3) := by decide +kernel
theorem dX7_pair_32 : decode cX7_pair 32 = .ok (.iload 4, 2) := by decide +kernel
theorem dX7_pair_34 : decode cX7_pair 34 = .ok (.aload_n 0, 1) := by decide +kernel
theorem dX7_pair_35 : decode cX7_pair 35 = .ok (.iload_n 1, 1) := by decide +kernel
theorem dX7_pair_36 : decode cX7_pair 36 = .ok (.iload_n 2, 1) := by decide +kernel
theorem dX7_pair_37 : decode cX7_pair 37 = .ok (.iload_n 3, 1) := by decide +kernel
theorem dX7_pair_38 : decode cX7_pair 38 = .ok (.invokevirtual 199, 3) := by decide +kernel
theorem dX7_pair_41 : decode cX7_pair 41 = .ok (.if_icmp .lt 10, 3) := by decide +kernel
theorem dX7_pair_44 : decode cX7_pair 44 = .ok (.aload_n 0, 1) := by decide +kernel
theorem dX7_pair_45 : decode cX7_pair 45 = .ok (.bipush 7, 2) := by decide +kernel
theorem dX7_pair_47 : decode cX7_pair 47 = .ok (.invokevirtual 109, 3) := by decide +kernel
theorem dX7_pair_50 : decode cX7_pair 50 = .ok (.ireturn, 1) := by decide +kernel
theorem dX7_pair_51 : decode cX7_pair 51 = .ok (.iload 5, 2) := by decide +kernel
theorem dX7_pair_53 : decode cX7_pair 53 = .ok (.ifCond .eq 13, 3) := by decide +kernel
theorem dX7_pair_56 : decode cX7_pair 56 = .ok (.aload_n 0, 1) := by decide +kernel
theorem dX7_pair_57 : decode cX7_pair 57 = .ok (.getfield 83, 3) := by decide +kernel
theorem dX7_pair_60 : decode cX7_pair 60 = .ok (.iload 4, 2) := by decide +kernel
theorem dX7_pair_62 : decode cX7_pair 62 = .ok (.iaload, 1) := by decide +kernel
theorem dX7_pair_63 : decode cX7_pair 63 = .ok (.goto 10, 3) := by decide +kernel
theorem dX7_pair_66 : decode cX7_pair 66 = .ok (.aload_n 0, 1) := by decide +kernel
theorem dX7_pair_67 : decode cX7_pair 67 = .ok (.getfield 80, 3) := by decide +kernel
theorem dX7_pair_70 : decode cX7_pair 70 = .ok (.iload 4, 2) := by decide +kernel
theorem dX7_pair_72 : decode cX7_pair 72 = .ok (.iaload, 1) := by decide +kernel
theorem dX7_pair_73 : decode cX7_pair 73 = .ok (.ireturn, 1) := by decide +kernel
theorem dX7_isReachedBy_0 : decode cX7_isReachedBy 0 = .ok (.iload_n 1, 1) := by decide +kernel
theorem dX7_isReachedBy_1 : decode cX7_isReachedBy 1 = .ok (.iload_n 2, 1) := by decide +kernel
theorem dX7_isReachedBy_2 : decode cX7_isReachedBy 2 = .ok (.if_icmp .ne 5, 3) := by decide +kernel
theorem dX7_isReachedBy_5 : decode cX7_isReachedBy 5 = .ok (.iconst 1, 1) := by decide +kernel
theorem dX7_isReachedBy_6 : decode cX7_isReachedBy 6 = .ok (.ireturn, 1) := by decide +kernel
theorem dX7_isReachedBy_7 : decode cX7_isReachedBy 7 = .ok (.iconst 0, 1) := by decide +kernel
theorem dX7_isReachedBy_8 : decode cX7_isReachedBy 8 = .ok (.istore 4, 2) := by decide +kernel
theorem dX7_isReachedBy_10 : decode cX7_isReachedBy 10 = .ok (.iload 4, 2) := by decide +kernel
theorem dX7_isReachedBy_12 : decode cX7_isReachedBy 12 = .ok (.aload_n 0, 1) := by decide +kernel
theorem dX7_isReachedBy_13 : decode cX7_isReachedBy 13 = .ok (.getfield 150, 3) := by decide +kernel
theorem dX7_isReachedBy_16 : decode cX7_isReachedBy 16 = .ok (.if_icmp .ge 48, 3) := by decide +kernel
theorem dX7_isReachedBy_19 : decode cX7_isReachedBy 19 = .ok (.aload_n 0, 1) := by decide +kernel
theorem dX7_isReachedBy_20 : decode cX7_isReachedBy 20 = .ok (.getfield 74, 3) := by decide +kernel
theorem dX7_isReachedBy_23 : decode cX7_isReachedBy 23 = .ok (.iload 4, 2) := by decide +kernel
theorem dX7_isReachedBy_25 : decode cX7_isReachedBy 25 = .ok (.baload, 1) := by decide +kernel
theorem dX7_isReachedBy_26 : decode cX7_isReachedBy 26 = .ok (.ifCond .eq 32, 3) := by decide +kernel
theorem dX7_isReachedBy_29 : decode cX7_isReachedBy 29 = .ok (.aload_n 0, 1) := by decide +kernel
theorem dX7_isReachedBy_30 : decode cX7_isReachedBy 30 = .ok (.getfield 19, 3) := by decide +kernel
theorem dX7_isReachedBy_33 : decode cX7_isReachedBy 33 = .ok (.aload_n 0, 1) := by decide +kernel
theorem dX7_isReachedBy_34 : decode cX7_isReachedBy 34 = .ok (.getfield 56, 3) := by decide +kernel
theorem dX7_isReachedBy_37 : decode cX7_isReachedBy 37 = .ok (.iload 4, 2) := by decide +kernel
theorem dX7_isReachedBy_39 : decode cX7_isReachedBy 39 = .ok (.iaload, 1) := by decide +kernel
theorem dX7_isReachedBy_40 : decode cX7_isReachedBy 40 = .ok (.iaload, 1) := by decide +kernel
theorem dX7_isReachedBy_41 : decode cX7_isReachedBy 41 = .ok (.iload_n 1, 1) := by decide +kernel
theorem dX7_isReachedBy_42 : decode cX7_isReachedBy 42 = .ok (.if_icmp .ne 16, 3) := by decide +kernel
theorem dX7_isReachedBy_45 : decode cX7_isReachedBy 45 = .ok (.aload_n 0, 1) := by decide +kernel
theorem dX7_isReachedBy_46 : decode cX7_isReachedBy 46 = .ok (.getfield 65, 3) := by decide +kernel
theorem dX7_isReachedBy_49 : decode cX7_isReachedBy 49 = .ok (.iload 4, 2) := by decide +kernel
theorem dX7_isReachedBy_51 : decode cX7_isReachedBy 51 = .ok (.iaload, 1) := by decide +kernel
theorem dX7_isReachedBy_52 : decode cX7_isReachedBy 52 = .ok (.iload_n 3, 1) := by decide +kernel
theorem dX7_isReachedBy_53 : decode cX7_isReachedBy 53 = .ok (.if_icmp .gt 5, 3) := by decide +kernel
theorem dX7_isReachedBy_56 : decode cX7_isReachedBy 56 = .ok (.iconst 1, 1) := by decide +kernel
theorem dX7_isReachedBy_57 : decode cX7_isReachedBy 57 = .ok (.ireturn, 1) := by decide +kernel
theorem dX7_isReachedBy_58 : decode cX7_isReachedBy 58 = .ok (.iinc 4 1, 3) := by decide +kernel
theorem dX7_isReachedBy_61 : decode cX7_isReachedBy 61 = .ok (.goto (-51), 3) := by decide +kernel
theorem dX7_isReachedBy_64 : decode cX7_isReachedBy 64 = .ok (.iconst 0, 1) := by decide +kernel
theorem dX7_isReachedBy_65 : decode cX7_isReachedBy 65 = .ok (.ireturn, 1) := by decide +kernel
theorem dX7_askedReach_0 : decode cX7_askedReach 0 = .ok (.aload_n 0, 1) := by decide +kernel
theorem dX7_askedReach_1 : decode cX7_askedReach 1 = .ok (.iload_n 1, 1) := by decide +kernel
theorem dX7_askedReach_2 : decode cX7_askedReach 2 = .ok (.invokevirtual 113, 3) := by decide +kernel
theorem dX7_askedReach_5 : decode cX7_askedReach 5 = .ok (.ifCond .eq 11, 3) := by decide +kernel
theorem dX7_askedReach_8 : decode cX7_askedReach 8 = .ok (.aload_n 0, 1) := by decide +kernel
theorem dX7_askedReach_9 : decode cX7_askedReach 9 = .ok (.iload_n 2, 1) := by decide +kernel
theorem dX7_askedReach_10 : decode cX7_askedReach 10 = .ok (.invokevirtual 113, 3) := by decide +kernel
theorem dX7_askedReach_13 : decode cX7_askedReach 13 = .ok (.ifCond .ne 5, 3) := by decide +kernel
theorem dX7_askedReach_16 : decode cX7_askedReach 16 = .ok (.iconst 1, 1) := by decide +kernel
theorem dX7_askedReach_17 : decode cX7_askedReach 17 = .ok (.ireturn, 1) := by decide +kernel
theorem dX7_askedReach_18 : decode cX7_askedReach 18 = .ok (.iload_n 3, 1) := by decide +kernel
theorem dX7_askedReach_19 : decode cX7_askedReach 19 = .ok (.invokestatic 123, 3) := by decide +kernel
theorem dX7_askedReach_22 : decode cX7_askedReach 22 = .ok (.ifCond .eq 11, 3) := by decide +kernel
theorem dX7_askedReach_25 : decode cX7_askedReach 25 = .ok (.iload 4, 2) := by decide +kernel
theorem dX7_askedReach_27 : decode cX7_askedReach 27 = .ok (.invokestatic 123, 3) := by decide +kernel
theorem dX7_askedReach_30 : decode cX7_askedReach 30 = .ok (.ifCond .ne 5, 3) := by decide +kernel
theorem dX7_askedReach_33 : decode cX7_askedReach 33 = .ok (.iconst 2, 1) := by decide +kernel
theorem dX7_askedReach_34 : decode cX7_askedReach 34 = .ok (.ireturn, 1) := by decide +kernel
theorem dX7_askedReach_35 : decode cX7_askedReach 35 = .ok (.iload 5, 2) := by decide +kernel
theorem dX7_askedReach_37 : decode cX7_askedReach 37 = .ok (.ifCond .lt 12, 3) := by decide +kernel
theorem dX7_askedReach_40 : decode cX7_askedReach 40 = .ok (.iload 5, 2) := by decide +kernel
theorem dX7_askedReach_42 : decode cX7_askedReach 42 = .ok (.aload_n 0, 1) := by decide +kernel
theorem dX7_askedReach_43 : decode cX7_askedReach 43 = .ok (.getfield 120, 3) := by decide +kernel
theorem dX7_askedReach_46 : decode cX7_askedReach 46 = .ok (.if_icmp .le 8, 3) := by decide +kernel
theorem dX7_askedReach_49 : decode cX7_askedReach 49 = .ok (.bipush 6, 2) := by decide +kernel
theorem dX7_askedReach_51 : decode cX7_askedReach 51 = .ok (.goto 4, 3) := by decide +kernel
theorem dX7_askedReach_54 : decode cX7_askedReach 54 = .ok (.iconst 0, 1) := by decide +kernel
theorem dX7_askedReach_55 : decode cX7_askedReach 55 = .ok (.ireturn, 1) := by decide +kernel
theorem dX7_reached_0 : decode cX7_reached 0 = .ok (.aload_n 0, 1) := by decide +kernel
theorem dX7_reached_1 : decode cX7_reached 1 = .ok (.iconst 0, 1) := by decide +kernel
theorem dX7_reached_2 : decode cX7_reached 2 = .ok (.putfield 92, 3) := by decide +kernel
theorem dX7_reached_5 : decode cX7_reached 5 = .ok (.aload_n 0, 1) := by decide +kernel
theorem dX7_reached_6 : decode cX7_reached 6 = .ok (.aload_n 0, 1) := by decide +kernel
theorem dX7_reached_7 : decode cX7_reached 7 = .ok (.iload_n 1, 1) := by decide +kernel
theorem dX7_reached_8 : decode cX7_reached 8 = .ok (.iload_n 1, 1) := by decide +kernel
theorem dX7_reached_9 : decode cX7_reached 9 = .ok (.iload_n 2, 1) := by decide +kernel
theorem dX7_reached_10 : decode cX7_reached 10 = .ok (.iload_n 3, 1) := by decide +kernel
theorem dX7_reached_11 : decode cX7_reached 11 = .ok (.iload 4, 2) := by decide +kernel
theorem dX7_reached_13 : decode cX7_reached 13 = .ok (.invokevirtual 202, 3) := by decide +kernel
theorem dX7_reached_16 : decode cX7_reached 16 = .ok (.putfield 96, 3) := by decide +kernel
theorem dX7_reached_19 : decode cX7_reached 19 = .ok (.aload_n 0, 1) := by decide +kernel
theorem dX7_reached_20 : decode cX7_reached 20 = .ok (.getfield 96, 3) := by decide +kernel
theorem dX7_reached_23 : decode cX7_reached 23 = .ok (.ifCond .le 5, 3) := by decide +kernel
theorem dX7_reached_26 : decode cX7_reached 26 = .ok (.iconst (-1), 1) := by decide +kernel
theorem dX7_reached_27 : decode cX7_reached 27 = .ok (.ireturn, 1) := by decide +kernel
theorem dX7_reached_28 : decode cX7_reached 28 = .ok (.aload_n 0, 1) := by decide +kernel
theorem dX7_reached_29 : decode cX7_reached 29 = .ok (.iload 4, 2) := by decide +kernel
theorem dX7_reached_31 : decode cX7_reached 31 = .ok (.iconst (-1), 1) := by decide +kernel
theorem dX7_reached_32 : decode cX7_reached 32 = .ok (.invokevirtual 177, 3) := by decide +kernel
theorem dX7_reached_35 : decode cX7_reached 35 = .ok (.aload_n 0, 1) := by decide +kernel
theorem dX7_reached_36 : decode cX7_reached 36 = .ok (.iload_n 1, 1) := by decide +kernel
theorem dX7_reached_37 : decode cX7_reached 37 = .ok (.iload_n 2, 1) := by decide +kernel
theorem dX7_reached_38 : decode cX7_reached 38 = .ok (.invokevirtual 181, 3) := by decide +kernel
theorem dX7_reached_41 : decode cX7_reached 41 = .ok (.iconst 0, 1) := by decide +kernel
theorem dX7_reached_42 : decode cX7_reached 42 = .ok (.istore 5, 2) := by decide +kernel
theorem dX7_reached_44 : decode cX7_reached 44 = .ok (.iconst 0, 1) := by decide +kernel
theorem dX7_reached_45 : decode cX7_reached 45 = .ok (.istore 6, 2) := by decide +kernel
theorem dX7_reached_47 : decode cX7_reached 47 = .ok (.iload 6, 2) := by decide +kernel
theorem dX7_reached_49 : decode cX7_reached 49 = .ok (.aload_n 0, 1) := by decide +kernel
theorem dX7_reached_50 : decode cX7_reached 50 = .ok (.getfield 99, 3) := by decide +kernel
theorem dX7_reached_53 : decode cX7_reached 53 = .ok (.if_icmp .ge 30, 3) := by decide +kernel
theorem dX7_reached_56 : decode cX7_reached 56 = .ok (.iload 5, 2) := by decide +kernel
theorem dX7_reached_58 : decode cX7_reached 58 = .ok (.aload_n 0, 1) := by decide +kernel
theorem dX7_reached_59 : decode cX7_reached 59 = .ok (.iload 6, 2) := by decide +kernel
theorem dX7_reached_61 : decode cX7_reached 61 = .ok (.iload_n 1, 1) := by decide +kernel
theorem dX7_reached_62 : decode cX7_reached 62 = .ok (.iload_n 3, 1) := by decide +kernel
theorem dX7_reached_63 : decode cX7_reached 63 = .ok (.invokevirtual 205, 3) := by decide +kernel
theorem dX7_reached_66 : decode cX7_reached 66 = .ok (.ifCond .eq 7, 3) := by decide +kernel
theorem dX7_reached_69 : decode cX7_reached 69 = .ok (.iconst 1, 1) := by decide +kernel
theorem dX7_reached_70 : decode cX7_reached 70 = .ok (.goto 4, 3) := by decide +kernel
theorem dX7_reached_73 : decode cX7_reached 73 = .ok (.iconst 0, 1) := by decide +kernel
theorem dX7_reached_74 : decode cX7_reached 74 = .ok (.iadd, 1) := by decide +kernel
theorem dX7_reached_75 : decode cX7_reached 75 = .ok (.istore 5, 2) := by decide +kernel
theorem dX7_reached_77 : decode cX7_reached 77 = .ok (.iinc 6 1, 3) := by decide +kernel
theorem dX7_reached_80 : decode cX7_reached 80 = .ok (.goto (-33), 3) := by decide +kernel
theorem dX7_reached_83 : decode cX7_reached 83 = .ok (.iload 5, 2) := by decide +kernel
theorem dX7_reached_85 : decode cX7_reached 85 = .ok (.ireturn, 1) := by decide +kernel
theorem dX7_isReached_0 : decode cX7_isReached 0 = .ok (.aload_n 0, 1) := by decide +kernel
theorem dX7_isReached_1 : decode cX7_isReached 1 = .ok (.iconst 0, 1) := by decide +kernel
theorem dX7_isReached_2 : decode cX7_isReached 2 = .ok (.putfield 92, 3) := by decide +kernel
theorem dX7_isReached_5 : decode cX7_isReached 5 = .ok (.aload_n 0, 1) := by decide +kernel
theorem dX7_isReached_6 : decode cX7_isReached 6 = .ok (.aload_n 0, 1) := by decide +kernel
theorem dX7_isReached_7 : decode cX7_isReached 7 = .ok (.iload_n 1, 1) := by decide +kernel
theorem dX7_isReached_8 : decode cX7_isReached 8 = .ok (.iload_n 2, 1) := by decide +kernel
theorem dX7_isReached_9 : decode cX7_isReached 9 = .ok (.iload_n 3, 1) := by decide +kernel
theorem dX7_isReached_10 : decode cX7_isReached 10 = .ok (.iload 4, 2) := by decide +kernel
theorem dX7_isReached_12 : decode cX7_isReached 12 = .ok (.iload 5, 2) := by decide +kernel
theorem dX7_isReached_14 : decode cX7_isReached 14 = .ok (.invokevirtual 202, 3) := by decide +kernel
theorem dX7_isReached_17 : decode cX7_isReached 17 = .ok (.putfield 96, 3) := by decide +kernel
theorem dX7_isReached_20 : decode cX7_isReached 20 = .ok (.aload_n 0, 1) := by decide +kernel
theorem dX7_isReached_21 : decode cX7_isReached 21 = .ok (.getfield 96, 3) := by decide +kernel
theorem dX7_isReached_24 : decode cX7_isReached 24 = .ok (.ifCond .le 5, 3) := by decide +kernel
theorem dX7_isReached_27 : decode cX7_isReached 27 = .ok (.iconst (-1), 1) := by decide +kernel
theorem dX7_isReached_28 : decode cX7_isReached 28 = .ok (.ireturn, 1) := by decide +kernel
theorem dX7_isReached_29 : decode cX7_isReached 29 = .ok (.aload_n 0, 1) := by decide +kernel
theorem dX7_isReached_30 : decode cX7_isReached 30 = .ok (.iload 5, 2) := by decide +kernel
theorem dX7_isReached_32 : decode cX7_isReached 32 = .ok (.iconst (-1), 1) := by decide +kernel
theorem dX7_isReached_33 : decode cX7_isReached 33 = .ok (.invokevirtual 177, 3) := by decide +kernel
theorem dX7_isReached_36 : decode cX7_isReached 36 = .ok (.aload_n 0, 1) := by decide +kernel
theorem dX7_isReached_37 : decode cX7_isReached 37 = .ok (.iload_n 1, 1) := by decide +kernel
theorem dX7_isReached_38 : decode cX7_isReached 38 = .ok (.iload_n 3, 1) := by decide +kernel
theorem dX7_isReached_39 : decode cX7_isReached 39 = .ok (.invokevirtual 181, 3) := by decide +kernel
theorem dX7_isReached_42 : decode cX7_isReached 42 = .ok (.aload_n 0, 1) := by decide +kernel
theorem dX7_isReached_43 : decode cX7_isReached 43 = .ok (.iload_n 2, 1) := by decide +kernel
theorem dX7_isReached_44 : decode cX7_isReached 44 = .ok (.iload_n 1, 1) := by decide +kernel
theorem dX7_isReached_45 : decode cX7_isReached 45 = .ok (.iload 4, 2) := by decide +kernel
theorem dX7_isReached_47 : decode cX7_isReached 47 = .ok (.invokevirtual 205, 3) := by decide +kernel
theorem dX7_isReached_50 : decode cX7_isReached 50 = .ok (.ifCond .eq 7, 3) := by decide +kernel
theorem dX7_isReached_53 : decode cX7_isReached 53 = .ok (.iconst 1, 1) := by decide +kernel
theorem dX7_isReached_54 : decode cX7_isReached 54 = .ok (.goto 4, 3) := by decide +kernel
theorem dX7_isReached_57 : decode cX7_isReached 57 = .ok (.iconst 0, 1) := by decide +kernel
theorem dX7_isReached_58 : decode cX7_isReached 58 = .ok (.ireturn, 1) := by decide +kernel
theorem dX7_without_0 : decode cX7_without 0 = .ok (.aload_n 0, 1) := by decide +kernel
theorem dX7_without_1 : decode cX7_without 1 = .ok (.iconst 0, 1) := by decide +kernel
theorem dX7_without_2 : decode cX7_without 2 = .ok (.putfield 92, 3) := by decide +kernel
theorem dX7_without_5 : decode cX7_without 5 = .ok (.aload_n 0, 1) := by decide +kernel
theorem dX7_without_6 : decode cX7_without 6 = .ok (.aload_n 0, 1) := by decide +kernel
theorem dX7_without_7 : decode cX7_without 7 = .ok (.iload 4, 2) := by decide +kernel
theorem dX7_without_9 : decode cX7_without 9 = .ok (.invokevirtual 133, 3) := by decide +kernel
theorem dX7_without_12 : decode cX7_without 12 = .ok (.ifCond .eq 18, 3) := by decide +kernel
theorem dX7_without_15 : decode cX7_without 15 = .ok (.aload_n 0, 1) := by decide +kernel
theorem dX7_without_16 : decode cX7_without 16 = .ok (.iload_n 1, 1) := by decide +kernel
theorem dX7_without_17 : decode cX7_without 17 = .ok (.iload_n 2, 1) := by decide +kernel
theorem dX7_without_18 : decode cX7_without 18 = .ok (.iload_n 3, 1) := by decide +kernel
theorem dX7_without_19 : decode cX7_without 19 = .ok (.iload_n 3, 1) := by decide +kernel
theorem dX7_without_20 : decode cX7_without 20 = .ok (.aload_n 0, 1) := by decide +kernel
theorem dX7_without_21 : decode cX7_without 21 = .ok (.getfield 120, 3) := by decide +kernel
theorem dX7_without_24 : decode cX7_without 24 = .ok (.invokevirtual 173, 3) := by decide +kernel
theorem dX7_without_27 : decode cX7_without 27 = .ok (.goto 4, 3) := by decide +kernel
theorem dX7_without_30 : decode cX7_without 30 = .ok (.iconst 1, 1) := by decide +kernel
theorem dX7_without_31 : decode cX7_without 31 = .ok (.putfield 96, 3) := by decide +kernel
theorem dX7_without_34 : decode cX7_without 34 = .ok (.aload_n 0, 1) := by decide +kernel
theorem dX7_without_35 : decode cX7_without 35 = .ok (.getfield 96, 3) := by decide +kernel
theorem dX7_without_38 : decode cX7_without 38 = .ok (.ifCond .le 5, 3) := by decide +kernel
theorem dX7_without_41 : decode cX7_without 41 = .ok (.iconst (-1), 1) := by decide +kernel
theorem dX7_without_42 : decode cX7_without 42 = .ok (.ireturn, 1) := by decide +kernel
theorem dX7_without_43 : decode cX7_without 43 = .ok (.aload_n 0, 1) := by decide +kernel
theorem dX7_without_44 : decode cX7_without 44 = .ok (.aload_n 0, 1) := by decide +kernel
theorem dX7_without_45 : decode cX7_without 45 = .ok (.getfield 120, 3) := by decide +kernel
theorem dX7_without_48 : decode cX7_without 48 = .ok (.iload 4, 2) := by decide +kernel
theorem dX7_without_50 : decode cX7_without 50 = .ok (.invokevirtual 177, 3) := by decide +kernel
theorem dX7_without_53 : decode cX7_without 53 = .ok (.aload_n 0, 1) := by decide +kernel
theorem dX7_without_54 : decode cX7_without 54 = .ok (.iload_n 1, 1) := by decide +kernel
theorem dX7_without_55 : decode cX7_without 55 = .ok (.iload_n 3, 1) := by decide +kernel
theorem dX7_without_56 : decode cX7_without 56 = .ok (.invokevirtual 181, 3) := by decide +kernel
theorem dX7_without_59 : decode cX7_without 59 = .ok (.aload_n 0, 1) := by decide +kernel
theorem dX7_without_60 : decode cX7_without 60 = .ok (.aload_n 0, 1) := by decide +kernel
theorem dX7_without_61 : decode cX7_without 61 = .ok (.iload_n 2, 1) := by decide +kernel
theorem dX7_without_62 : decode cX7_without 62 = .ok (.invokevirtual 184, 3) := by decide +kernel
theorem dX7_without_65 : decode cX7_without 65 = .ok (.invokevirtual 187, 3) := by decide +kernel
theorem dX7_without_68 : decode cX7_without 68 = .ok (.ireturn, 1) := by decide +kernel
theorem dX7_weakest_0 : decode cX7_weakest 0 = .ok (.aload_n 0, 1) := by decide +kernel
theorem dX7_weakest_1 : decode cX7_weakest 1 = .ok (.iconst 0, 1) := by decide +kernel
theorem dX7_weakest_2 : decode cX7_weakest 2 = .ok (.putfield 92, 3) := by decide +kernel
theorem dX7_weakest_5 : decode cX7_weakest 5 = .ok (.aload_n 0, 1) := by decide +kernel
theorem dX7_weakest_6 : decode cX7_weakest 6 = .ok (.aload_n 0, 1) := by decide +kernel
theorem dX7_weakest_7 : decode cX7_weakest 7 = .ok (.iload_n 1, 1) := by decide +kernel
theorem dX7_weakest_8 : decode cX7_weakest 8 = .ok (.iload_n 2, 1) := by decide +kernel
theorem dX7_weakest_9 : decode cX7_weakest 9 = .ok (.iload_n 3, 1) := by decide +kernel
theorem dX7_weakest_10 : decode cX7_weakest 10 = .ok (.iload_n 3, 1) := by decide +kernel
theorem dX7_weakest_11 : decode cX7_weakest 11 = .ok (.aload_n 0, 1) := by decide +kernel
theorem dX7_weakest_12 : decode cX7_weakest 12 = .ok (.getfield 120, 3) := by decide +kernel
theorem dX7_weakest_15 : decode cX7_weakest 15 = .ok (.invokevirtual 173, 3) := by decide +kernel
theorem dX7_weakest_18 : decode cX7_weakest 18 = .ok (.putfield 96, 3) := by decide +kernel
theorem dX7_weakest_21 : decode cX7_weakest 21 = .ok (.aload_n 0, 1) := by decide +kernel
theorem dX7_weakest_22 : decode cX7_weakest 22 = .ok (.getfield 96, 3) := by decide +kernel
theorem dX7_weakest_25 : decode cX7_weakest 25 = .ok (.ifCond .le 5, 3) := by decide +kernel
theorem dX7_weakest_28 : decode cX7_weakest 28 = .ok (.iconst (-1), 1) := by decide +kernel
theorem dX7_weakest_29 : decode cX7_weakest 29 = .ok (.ireturn, 1) := by decide +kernel
theorem dX7_weakest_30 : decode cX7_weakest 30 = .ok (.iconst 0, 1) := by decide +kernel
theorem dX7_weakest_31 : decode cX7_weakest 31 = .ok (.istore 4, 2) := by decide +kernel
theorem dX7_weakest_33 : decode cX7_weakest 33 = .ok (.iload 4, 2) := by decide +kernel
theorem dX7_weakest_35 : decode cX7_weakest 35 = .ok (.sipush 2400, 3) := by decide +kernel
theorem dX7_weakest_38 : decode cX7_weakest 38 = .ok (.if_icmp .ge 23, 3) := by decide +kernel
theorem dX7_weakest_41 : decode cX7_weakest 41 = .ok (.aload_n 0, 1) := by decide +kernel
theorem dX7_weakest_42 : decode cX7_weakest 42 = .ok (.getfield 89, 3) := by decide +kernel
theorem dX7_weakest_45 : decode cX7_weakest 45 = .ok (.iload 4, 2) := by decide +kernel
theorem dX7_weakest_47 : decode cX7_weakest 47 = .ok (.aload_n 0, 1) := by decide +kernel
theorem dX7_weakest_48 : decode cX7_weakest 48 = .ok (.getfield 77, 3) := by decide +kernel
theorem dX7_weakest_51 : decode cX7_weakest 51 = .ok (.iload 4, 2) := by decide +kernel
theorem dX7_weakest_53 : decode cX7_weakest 53 = .ok (.iaload, 1) := by decide +kernel
theorem dX7_weakest_54 : decode cX7_weakest 54 = .ok (.iastore, 1) := by decide +kernel
theorem dX7_weakest_55 : decode cX7_weakest 55 = .ok (.iinc 4 1, 3) := by decide +kernel
theorem dX7_weakest_58 : decode cX7_weakest 58 = .ok (.goto (-25), 3) := by decide +kernel
theorem dX7_weakest_61 : decode cX7_weakest 61 = .ok (.aload_n 0, 1) := by decide +kernel
theorem dX7_weakest_62 : decode cX7_weakest 62 = .ok (.aload_n 0, 1) := by decide +kernel
theorem dX7_weakest_63 : decode cX7_weakest 63 = .ok (.getfield 120, 3) := by decide +kernel
theorem dX7_weakest_66 : decode cX7_weakest 66 = .ok (.iconst (-1), 1) := by decide +kernel
theorem dX7_weakest_67 : decode cX7_weakest 67 = .ok (.invokevirtual 177, 3) := by decide +kernel
theorem dX7_weakest_70 : decode cX7_weakest 70 = .ok (.aload_n 0, 1) := by decide +kernel
theorem dX7_weakest_71 : decode cX7_weakest 71 = .ok (.iload_n 1, 1) := by decide +kernel
theorem dX7_weakest_72 : decode cX7_weakest 72 = .ok (.iload_n 2, 1) := by decide +kernel
theorem dX7_weakest_73 : decode cX7_weakest 73 = .ok (.iload_n 3, 1) := by decide +kernel
theorem dX7_weakest_74 : decode cX7_weakest 74 = .ok (.invokevirtual 193, 3) := by decide +kernel
theorem dX7_weakest_77 : decode cX7_weakest 77 = .ok (.istore 4, 2) := by decide +kernel
theorem dX7_weakest_79 : decode cX7_weakest 79 = .ok (.iconst 0, 1) := by decide +kernel
theorem dX7_weakest_80 : decode cX7_weakest 80 = .ok (.istore 5, 2) := by decide +kernel
theorem dX7_weakest_82 : decode cX7_weakest 82 = .ok (.iload 5, 2) := by decide +kernel
theorem dX7_weakest_84 : decode cX7_weakest 84 = .ok (.iload 4, 2) := by decide +kernel
theorem dX7_weakest_86 : decode cX7_weakest 86 = .ok (.if_icmp .ge 25, 3) := by decide +kernel
theorem dX7_weakest_89 : decode cX7_weakest 89 = .ok (.aload_n 0, 1) := by decide +kernel
theorem dX7_weakest_90 : decode cX7_weakest 90 = .ok (.getfield 86, 3) := by decide +kernel
theorem dX7_weakest_93 : decode cX7_weakest 93 = .ok (.iload 5, 2) := by decide +kernel
theorem dX7_weakest_95 : decode cX7_weakest 95 = .ok (.aload_n 0, 1) := by decide +kernel
theorem dX7_weakest_96 : decode cX7_weakest 96 = .ok (.getfield 77, 3) := by decide +kernel
theorem dX7_weakest_99 : decode cX7_weakest 99 = .ok (.iconst 2, 1) := by decide +kernel
theorem dX7_weakest_100 : decode cX7_weakest 100 = .ok (.iload 5, 2) := by decide +kernel
theorem dX7_weakest_102 : decode cX7_weakest 102 = .ok (.imul, 1) := by decide +kernel
theorem dX7_weakest_103 : decode cX7_weakest 103 = .ok (.iaload, 1) := by decide +kernel
theorem dX7_weakest_104 : decode cX7_weakest 104 = .ok (.iastore, 1) := by decide +kernel
theorem dX7_weakest_105 : decode cX7_weakest 105 = .ok (.iinc 5 1, 3) := by decide +kernel
theorem dX7_weakest_108 : decode cX7_weakest 108 = .ok (.goto (-26), 3) := by decide +kernel
theorem dX7_weakest_111 : decode cX7_weakest 111 = .ok (.iconst 0, 1) := by decide +kernel
theorem dX7_weakest_112 : decode cX7_weakest 112 = .ok (.istore 5, 2) := by decide +kernel
theorem dX7_weakest_114 : decode cX7_weakest 114 = .ok (.iload 5, 2) := by decide +kernel
theorem dX7_weakest_116 : decode cX7_weakest 116 = .ok (.sipush 2400, 3) := by decide +kernel
theorem dX7_weakest_119 : decode cX7_weakest 119 = .ok (.if_icmp .ge 23, 3) := by decide +kernel
theorem dX7_weakest_122 : decode cX7_weakest 122 = .ok (.aload_n 0, 1) := by decide +kernel
theorem dX7_weakest_123 : decode cX7_weakest 123 = .ok (.getfield 77, 3) := by decide +kernel
theorem dX7_weakest_126 : decode cX7_weakest 126 = .ok (.iload 5, 2) := by decide +kernel
theorem dX7_weakest_128 : decode cX7_weakest 128 = .ok (.aload_n 0, 1) := by decide +kernel
theorem dX7_weakest_129 : decode cX7_weakest 129 = .ok (.getfield 89, 3) := by decide +kernel
theorem dX7_weakest_132 : decode cX7_weakest 132 = .ok (.iload 5, 2) := by decide +kernel
theorem dX7_weakest_134 : decode cX7_weakest 134 = .ok (.iaload, 1) := by decide +kernel
theorem dX7_weakest_135 : decode cX7_weakest 135 = .ok (.iastore, 1) := by decide +kernel
theorem dX7_weakest_136 : decode cX7_weakest 136 = .ok (.iinc 5 1, 3) := by decide +kernel
theorem dX7_weakest_139 : decode cX7_weakest 139 = .ok (.goto (-25), 3) := by decide +kernel
theorem dX7_weakest_142 : decode cX7_weakest 142 = .ok (.iload 4, 2) := by decide +kernel
theorem dX7_weakest_144 : decode cX7_weakest 144 = .ok (.ifCond .ne 9, 3) := by decide +kernel
theorem dX7_weakest_147 : decode cX7_weakest 147 = .ok (.aload_n 0, 1) := by decide +kernel
theorem dX7_weakest_148 : decode cX7_weakest 148 = .ok (.iconst 5, 1) := by decide +kernel
theorem dX7_weakest_149 : decode cX7_weakest 149 = .ok (.invokevirtual 109, 3) := by decide +kernel
theorem dX7_weakest_152 : decode cX7_weakest 152 = .ok (.ireturn, 1) := by decide +kernel
theorem dX7_weakest_153 : decode cX7_weakest 153 = .ok (.iconst (-1), 1) := by decide +kernel
theorem dX7_weakest_154 : decode cX7_weakest 154 = .ok (.istore 5, 2) := by decide +kernel
theorem dX7_weakest_156 : decode cX7_weakest 156 = .ok (.iconst (-1), 1) := by decide +kernel
theorem dX7_weakest_157 : decode cX7_weakest 157 = .ok (.istore 6, 2) := by decide +kernel
theorem dX7_weakest_159 : decode cX7_weakest 159 = .ok (.iconst 0, 1) := by decide +kernel
theorem dX7_weakest_160 : decode cX7_weakest 160 = .ok (.istore 7, 2) := by decide +kernel
theorem dX7_weakest_162 : decode cX7_weakest 162 = .ok (.iload 7, 2) := by decide +kernel
theorem dX7_weakest_164 : decode cX7_weakest 164 = .ok (.iload 4, 2) := by decide +kernel
theorem dX7_weakest_166 : decode cX7_weakest 166 = .ok (.if_icmp .ge 79, 3) := by decide +kernel
theorem dX7_weakest_169 : decode cX7_weakest 169 = .ok (.aload_n 0, 1) := by decide +kernel
theorem dX7_weakest_170 : decode cX7_weakest 170 = .ok (.aload_n 0, 1) := by decide +kernel
theorem dX7_weakest_171 : decode cX7_weakest 171 = .ok (.getfield 120, 3) := by decide +kernel
theorem dX7_weakest_174 : decode cX7_weakest 174 = .ok (.aload_n 0, 1) := by decide +kernel
theorem dX7_weakest_175 : decode cX7_weakest 175 = .ok (.getfield 86, 3) := by decide +kernel
theorem dX7_weakest_178 : decode cX7_weakest 178 = .ok (.iload 7, 2) := by decide +kernel
theorem dX7_weakest_180 : decode cX7_weakest 180 = .ok (.iaload, 1) := by decide +kernel
theorem dX7_weakest_181 : decode cX7_weakest 181 = .ok (.invokevirtual 177, 3) := by decide +kernel
theorem dX7_weakest_184 : decode cX7_weakest 184 = .ok (.aload_n 0, 1) := by decide +kernel
theorem dX7_weakest_185 : decode cX7_weakest 185 = .ok (.iload_n 1, 1) := by decide +kernel
theorem dX7_weakest_186 : decode cX7_weakest 186 = .ok (.iload_n 3, 1) := by decide +kernel
theorem dX7_weakest_187 : decode cX7_weakest 187 = .ok (.invokevirtual 181, 3) := by decide +kernel
theorem dX7_weakest_190 : decode cX7_weakest 190 = .ok (.aload_n 0, 1) := by decide +kernel
theorem dX7_weakest_191 : decode cX7_weakest 191 = .ok (.iload_n 2, 1) := by decide +kernel
theorem dX7_weakest_192 : decode cX7_weakest 192 = .ok (.invokevirtual 184, 3) := by decide +kernel
theorem dX7_weakest_195 : decode cX7_weakest 195 = .ok (.istore 8, 2) := by decide +kernel
theorem dX7_weakest_197 : decode cX7_weakest 197 = .ok (.iload 8, 2) := by decide +kernel
theorem dX7_weakest_199 : decode cX7_weakest 199 = .ok (.iload 5, 2) := by decide +kernel
theorem dX7_weakest_201 : decode cX7_weakest 201 = .ok (.if_icmp .lt 38, 3) := by decide +kernel
theorem dX7_weakest_204 : decode cX7_weakest 204 = .ok (.iload 8, 2) := by decide +kernel
theorem dX7_weakest_206 : decode cX7_weakest 206 = .ok (.iload 5, 2) := by decide +kernel
theorem dX7_weakest_208 : decode cX7_weakest 208 = .ok (.if_icmp .ne 18, 3) := by decide +kernel
theorem dX7_weakest_211 : decode cX7_weakest 211 = .ok (.aload_n 0, 1) := by decide +kernel
theorem dX7_weakest_212 : decode cX7_weakest 212 = .ok (.getfield 86, 3) := by decide +kernel
theorem dX7_weakest_215 : decode cX7_weakest 215 = .ok (.iload 7, 2) := by decide +kernel
theorem dX7_weakest_217 : decode cX7_weakest 217 = .ok (.iaload, 1) := by decide +kernel
theorem dX7_weakest_218 : decode cX7_weakest 218 = .ok (.iload 6, 2) := by decide +kernel
theorem dX7_weakest_220 : decode cX7_weakest 220 = .ok (.if_icmp .lt 6, 3) := by decide +kernel
theorem dX7_weakest_223 : decode cX7_weakest 223 = .ok (.goto 16, 3) := by decide +kernel
theorem dX7_weakest_226 : decode cX7_weakest 226 = .ok (.iload 8, 2) := by decide +kernel
theorem dX7_weakest_228 : decode cX7_weakest 228 = .ok (.istore 5, 2) := by decide +kernel
theorem dX7_weakest_230 : decode cX7_weakest 230 = .ok (.aload_n 0, 1) := by decide +kernel
theorem dX7_weakest_231 : decode cX7_weakest 231 = .ok (.getfield 86, 3) := by decide +kernel
theorem dX7_weakest_234 : decode cX7_weakest 234 = .ok (.iload 7, 2) := by decide +kernel
theorem dX7_weakest_236 : decode cX7_weakest 236 = .ok (.iaload, 1) := by decide +kernel
theorem dX7_weakest_237 : decode cX7_weakest 237 = .ok (.istore 6, 2) := by decide +kernel
theorem dX7_weakest_239 : decode cX7_weakest 239 = .ok (.iinc 7 1, 3) := by decide +kernel
theorem dX7_weakest_242 : decode cX7_weakest 242 = .ok (.goto (-80), 3) := by decide +kernel
theorem dX7_weakest_245 : decode cX7_weakest 245 = .ok (.iload 6, 2) := by decide +kernel
theorem dX7_weakest_247 : decode cX7_weakest 247 = .ok (.ireturn, 1) := by decide +kernel
theorem dX7_run_0 : decode cX7_run 0 = .ok (.aload_n 0, 1) := by decide +kernel
theorem dX7_run_1 : decode cX7_run 1 = .ok (.iconst 0, 1) := by decide +kernel
theorem dX7_run_2 : decode cX7_run 2 = .ok (.putfield 92, 3) := by decide +kernel
theorem dX7_run_5 : decode cX7_run 5 = .ok (.aload_n 0, 1) := by decide +kernel
theorem dX7_run_6 : decode cX7_run 6 = .ok (.iconst 0, 1) := by decide +kernel
theorem dX7_run_7 : decode cX7_run 7 = .ok (.putfield 96, 3) := by decide +kernel
theorem dX7_run_10 : decode cX7_run 10 = .ok (.iload_n 3, 1) := by decide +kernel
theorem dX7_run_11 : decode cX7_run 11 = .ok (.ifCond .lt 11, 3) := by decide +kernel
theorem dX7_run_14 : decode cX7_run 14 = .ok (.iload_n 3, 1) := by decide +kernel
theorem dX7_run_15 : decode cX7_run 15 = .ok (.aload_n 0, 1) := by decide +kernel
theorem dX7_run_16 : decode cX7_run 16 = .ok (.getfield 120, 3) := by decide +kernel
theorem dX7_run_19 : decode cX7_run 19 = .ok (.if_icmp .le 10, 3) := by decide +kernel
theorem dX7_run_22 : decode cX7_run 22 = .ok (.aload_n 0, 1) := by decide +kernel
theorem dX7_run_23 : decode cX7_run 23 = .ok (.bipush 6, 2) := by decide +kernel
theorem dX7_run_25 : decode cX7_run 25 = .ok (.invokevirtual 109, 3) := by decide +kernel
theorem dX7_run_28 : decode cX7_run 28 = .ok (.ireturn, 1) := by decide +kernel
theorem dX7_run_29 : decode cX7_run 29 = .ok (.aload_n 0, 1) := by decide +kernel
theorem dX7_run_30 : decode cX7_run 30 = .ok (.iload_n 3, 1) := by decide +kernel
theorem dX7_run_31 : decode cX7_run 31 = .ok (.invokevirtual 146, 3) := by decide +kernel
theorem dX7_run_34 : decode cX7_run 34 = .ok (.aload_n 0, 1) := by decide +kernel
theorem dX7_run_35 : decode cX7_run 35 = .ok (.iload_n 1, 1) := by decide +kernel
theorem dX7_run_36 : decode cX7_run 36 = .ok (.invokevirtual 133, 3) := by decide +kernel
theorem dX7_run_39 : decode cX7_run 39 = .ok (.ifCond .eq 26, 3) := by decide +kernel
theorem dX7_run_42 : decode cX7_run 42 = .ok (.aload_n 0, 1) := by decide +kernel
theorem dX7_run_43 : decode cX7_run 43 = .ok (.getfield 49, 3) := by decide +kernel
theorem dX7_run_46 : decode cX7_run 46 = .ok (.iload_n 1, 1) := by decide +kernel
theorem dX7_run_47 : decode cX7_run 47 = .ok (.baload, 1) := by decide +kernel
theorem dX7_run_48 : decode cX7_run 48 = .ok (.ifCond .eq 17, 3) := by decide +kernel
theorem dX7_run_51 : decode cX7_run 51 = .ok (.iload_n 2, 1) := by decide +kernel
theorem dX7_run_52 : decode cX7_run 52 = .ok (.ifCond .lt 13, 3) := by decide +kernel
theorem dX7_run_55 : decode cX7_run 55 = .ok (.iload_n 2, 1) := by decide +kernel
theorem dX7_run_56 : decode cX7_run 56 = .ok (.aload_n 0, 1) := by decide +kernel
theorem dX7_run_57 : decode cX7_run 57 = .ok (.getfield 31, 3) := by decide +kernel
theorem dX7_run_60 : decode cX7_run 60 = .ok (.iload_n 1, 1) := by decide +kernel
theorem dX7_run_61 : decode cX7_run 61 = .ok (.iaload, 1) := by decide +kernel
theorem dX7_run_62 : decode cX7_run 62 = .ok (.if_icmp .lt 9, 3) := by decide +kernel
theorem dX7_run_65 : decode cX7_run 65 = .ok (.aload_n 0, 1) := by decide +kernel
theorem dX7_run_66 : decode cX7_run 66 = .ok (.iconst 1, 1) := by decide +kernel
theorem dX7_run_67 : decode cX7_run 67 = .ok (.invokevirtual 109, 3) := by decide +kernel
theorem dX7_run_70 : decode cX7_run 70 = .ok (.ireturn, 1) := by decide +kernel
theorem dX7_run_71 : decode cX7_run 71 = .ok (.iload 4, 2) := by decide +kernel
theorem dX7_run_73 : decode cX7_run 73 = .ok (.ifCond .lt 9, 3) := by decide +kernel
theorem dX7_run_76 : decode cX7_run 76 = .ok (.iload 4, 2) := by decide +kernel
theorem dX7_run_78 : decode cX7_run 78 = .ok (.iconst 2, 1) := by decide +kernel
theorem dX7_run_79 : decode cX7_run 79 = .ok (.if_icmp .le 9, 3) := by decide +kernel
theorem dX7_run_82 : decode cX7_run 82 = .ok (.aload_n 0, 1) := by decide +kernel
theorem dX7_run_83 : decode cX7_run 83 = .ok (.iconst 2, 1) := by decide +kernel
theorem dX7_run_84 : decode cX7_run 84 = .ok (.invokevirtual 109, 3) := by decide +kernel
theorem dX7_run_87 : decode cX7_run 87 = .ok (.ireturn, 1) := by decide +kernel
theorem dX7_run_88 : decode cX7_run 88 = .ok (.aload_n 0, 1) := by decide +kernel
theorem dX7_run_89 : decode cX7_run 89 = .ok (.iload_n 1, 1) := by decide +kernel
theorem dX7_run_90 : decode cX7_run 90 = .ok (.iload_n 2, 1) := by decide +kernel
theorem dX7_run_91 : decode cX7_run 91 = .ok (.iload_n 3, 1) := by decide +kernel
theorem dX7_run_92 : decode cX7_run 92 = .ok (.invokevirtual 153, 3) := by decide +kernel
theorem dX7_run_95 : decode cX7_run 95 = .ok (.istore 5, 2) := by decide +kernel
theorem dX7_run_97 : decode cX7_run 97 = .ok (.iload 4, 2) := by decide +kernel
theorem dX7_run_99 : decode cX7_run 99 = .ok (.ifCond .ne 8, 3) := by decide +kernel
theorem dX7_run_102 : decode cX7_run 102 = .ok (.iload 5, 2) := by decide +kernel
theorem dX7_run_104 : decode cX7_run 104 = .ok (.goto 37, 3) := by decide +kernel
theorem dX7_run_107 : decode cX7_run 107 = .ok (.iload 4, 2) := by decide +kernel
theorem dX7_run_109 : decode cX7_run 109 = .ok (.iconst 1, 1) := by decide +kernel
theorem dX7_run_110 : decode cX7_run 110 = .ok (.if_icmp .ne 15, 3) := by decide +kernel
theorem dX7_run_113 : decode cX7_run 113 = .ok (.iload 5, 2) := by decide +kernel
theorem dX7_run_115 : decode cX7_run 115 = .ok (.aload_n 0, 1) := by decide +kernel
theorem dX7_run_116 : decode cX7_run 116 = .ok (.getfield 28, 3) := by decide +kernel
theorem dX7_run_119 : decode cX7_run 119 = .ok (.iload_n 1, 1) := by decide +kernel
theorem dX7_run_120 : decode cX7_run 120 = .ok (.iaload, 1) := by decide +kernel
theorem dX7_run_121 : decode cX7_run 121 = .ok (.iadd, 1) := by decide +kernel
theorem dX7_run_122 : decode cX7_run 122 = .ok (.goto 19, 3) := by decide +kernel
theorem dX7_run_125 : decode cX7_run 125 = .ok (.aload_n 0, 1) := by decide +kernel
theorem dX7_run_126 : decode cX7_run 126 = .ok (.iload_n 1, 1) := by decide +kernel
theorem dX7_run_127 : decode cX7_run 127 = .ok (.iload 5, 2) := by decide +kernel
theorem dX7_run_129 : decode cX7_run 129 = .ok (.iload_n 3, 1) := by decide +kernel
theorem dX7_run_130 : decode cX7_run 130 = .ok (.invokevirtual 157, 3) := by decide +kernel
theorem dX7_run_133 : decode cX7_run 133 = .ok (.ifCond .eq 7, 3) := by decide +kernel
theorem dX7_run_136 : decode cX7_run 136 = .ok (.iconst 1, 1) := by decide +kernel
theorem dX7_run_137 : decode cX7_run 137 = .ok (.goto 4, 3) := by decide +kernel
theorem dX7_run_140 : decode cX7_run 140 = .ok (.iconst 0, 1) := by decide +kernel
theorem dX7_run_141 : decode cX7_run 141 = .ok (.ireturn, 1) := by decide +kernel
theorem dX7_stand_0 : decode cX7_stand 0 = .ok (.aload_n 0, 1) := by decide +kernel
theorem dX7_stand_1 : decode cX7_stand 1 = .ok (.iconst 0, 1) := by decide +kernel
theorem dX7_stand_2 : decode cX7_stand 2 = .ok (.putfield 92, 3) := by decide +kernel
theorem dX7_stand_5 : decode cX7_stand 5 = .ok (.aload_n 0, 1) := by decide +kernel
theorem dX7_stand_6 : decode cX7_stand 6 = .ok (.iconst 0, 1) := by decide +kernel
theorem dX7_stand_7 : decode cX7_stand 7 = .ok (.putfield 96, 3) := by decide +kernel
theorem dX7_stand_10 : decode cX7_stand 10 = .ok (.iload_n 1, 1) := by decide +kernel
theorem dX7_stand_11 : decode cX7_stand 11 = .ok (.ifCond .lt 11, 3) := by decide +kernel
theorem dX7_stand_14 : decode cX7_stand 14 = .ok (.iload_n 1, 1) := by decide +kernel
theorem dX7_stand_15 : decode cX7_stand 15 = .ok (.aload_n 0, 1) := by decide +kernel
theorem dX7_stand_16 : decode cX7_stand 16 = .ok (.getfield 120, 3) := by decide +kernel
theorem dX7_stand_19 : decode cX7_stand 19 = .ok (.if_icmp .le 10, 3) := by decide +kernel
theorem dX7_stand_22 : decode cX7_stand 22 = .ok (.aload_n 0, 1) := by decide +kernel
theorem dX7_stand_23 : decode cX7_stand 23 = .ok (.bipush 6, 2) := by decide +kernel
theorem dX7_stand_25 : decode cX7_stand 25 = .ok (.invokevirtual 109, 3) := by decide +kernel
theorem dX7_stand_28 : decode cX7_stand 28 = .ok (.ireturn, 1) := by decide +kernel
theorem dX7_stand_29 : decode cX7_stand 29 = .ok (.aload_n 0, 1) := by decide +kernel
theorem dX7_stand_30 : decode cX7_stand 30 = .ok (.iload_n 1, 1) := by decide +kernel
theorem dX7_stand_31 : decode cX7_stand 31 = .ok (.iconst (-1), 1) := by decide +kernel
theorem dX7_stand_32 : decode cX7_stand 32 = .ok (.invokevirtual 177, 3) := by decide +kernel
theorem dX7_stand_35 : decode cX7_stand 35 = .ok (.aload_n 0, 1) := by decide +kernel
theorem dX7_stand_36 : decode cX7_stand 36 = .ok (.getfield 150, 3) := by decide +kernel
theorem dX7_stand_39 : decode cX7_stand 39 = .ok (.ireturn, 1) := by decide +kernel
end
section
abbrev XS : Type := (Nat → Int32) × (Nat → Nat → Int32)
abbrev XR : Type := Option (Int32 × XS)
def xpS (x : XS) (k : Nat) (v : Int32) : XS := (fun i => cond (Nat.beq i k) v (x.1 i), x.2)
def xpA (x : XS) (j : Nat) (f : Nat → Int32) : XS := (x.1, fun i => cond (Nat.beq i j) f (x.2 i))
def x_fuel : Nat := 100000
def x_let {α : Type} (a : α) (k : α → XR) : XR := k a
def x_jp {α : Type} (k : α) (b : α → XR) : XR := b k
def x_ld (f : Nat → Int32) (n : Nat) (i : Int32) (k : Int32 → XR) : XR := if i < 0 ∨ n ≤ i.toNatClampNeg then none else k (f i.toNatClampNeg)
def x_st (x : XS) (j n : Nat) (i v : Int32) (k : XS → XR) : XR := if i < 0 ∨ n ≤ i.toNatClampNeg then none else k (xpA x j (upd (x.2 j) i.toNatClampNeg v))
def x_call (o : XR) (k : Int32 → XS → XR) : XR := match o with
  | none => none
  | some z => k z.1 z.2
theorem x_pos {c : Prop} [Decidable c] {A B : XR} {z : Int32 × XS} (hc : c) (h : (if c then A else B) = some z) : A = some z := by rw [if_pos hc] at h; exact h
theorem x_neg {c : Prop} [Decidable c] {A B : XR} {z : Int32 × XS} (hc : ¬ c) (h : (if c then A else B) = some z) : B = some z := by rw [if_neg hc] at h; exact h
theorem x_jp_el {α : Type} {k : α} {b : α → XR} {z : Int32 × XS} {G : Prop} (h : x_jp k b = some z) (kk : ∀ k', k' = k → b k' = some z → G) : G := kk k rfl h
theorem x_nm {e : Int32} {K : Int32 → XR} {z : Int32 × XS} {G : Prop} (h : x_let e K = some z) (kk : ∀ y, y = e → K y = some z → G) : G := kk e rfl h
theorem x_call_el {o : XR} {K : Int32 → XS → XR} {z : Int32 × XS} {G : Prop} (h : x_call o K = some z) (kk : ∀ zc, o = some zc → K zc.1 zc.2 = some z → G) : G := by
  cases o with
  | none => cases h
  | some zc => exact kk zc rfl h
-- words
def xg_big : List Cond := lw_tbl.filter goodWord
def xg_isN (w : Cond) : Bool := match w with
  | .fieldLinkNest _ _ _ _ _ _ => true
  | .methodLinkNest _ _ _ _ => true
  | _ => false
def xg_nest : List Cond := lw_tbl.filter xg_isN
theorem xb_mem {w : Cond} (i : Nat) (h : lw_tbl[i]? = some w) (g : goodWord w = true) : w ∈ xg_big := List.mem_filter.mpr ⟨List.mem_of_getElem? h, g⟩
theorem xb_nem {w : Cond} (i : Nat) (h : lw_tbl[i]? = some w) (g : xg_isN w = true) : w ∈ xg_nest := List.mem_filter.mpr ⟨List.mem_of_getElem? h, g⟩
theorem xb_good {w : Cond} (h : w ∈ xg_big) : (w.onTables && w.keeps) = true ∨ ∃ ty, w = .arrayClass ty := good_of_word (List.mem_filter.mp h).2
theorem xb_pay {args : Array Value} {s : State} (hts : ∀ w ∈ xg_big, w.before args s = true) {c0 : Cond} (hc : c0 ∈ xg_big) : ∀ w ∈ (c0 :: xg_big), ∀ (a' : Array Value) (U : State), s.WarmedH U.vm → w.before a' U = true := by
  intro w hw a' U hW
  have hw2 : w ∈ xg_big := by
    rcases List.mem_cons.mp hw with h | h
    · rw [h]; exact hc
    · exact h
  exact word_at hW (xb_good hw2) (hts w hw2)
theorem xb_non {w : Cond} (h : w ∈ xg_nest) : w.onTables = true := by
  have h2 := (List.mem_filter.mp h).2
  cases w <;> first | rfl | (simp [xg_isN] at h2)
theorem xb_nw {w : Cond} (h : w ∈ xg_nest) {s U : State} (hW : s.WarmedH U.vm) (hZ : va_Nw w s) : va_Nw w U := by
  have h2 := (List.mem_filter.mp h).2
  cases w <;> first | exact hZ.warmF hW | exact hZ.warmM hW | (simp [xg_isN] at h2)
-- context of a method's walk
def xcx (own : String) (cc : ByteArray) (nL : Nat) (D : va_G) (T : ClassId × ClassId) (w : XS → va_W) (A : Nat → Prop) (p : Program) (s : State) (m : MethodId) (args : Array Value) (meth : Method) (c : Code) : Prop :=
  p.tables.exec = Jvm.exec ∧ c.code = cc ∧ c.maxLocals = nL ∧ s.vm.findClass own = some m.cls ∧ (∀ w ∈ xg_big, w.before args s = true) ∧ (∀ w ∈ xg_nest, va_Nw w s) ∧ va_K D vwCl [(T.1, .int), (T.2, .boolean)] s ∧ (∀ x, va_D A (w x)) ∧ meth.locks = false ∧ (∀ q, s.heap.size ≤ q → A q)
def xmm (D : va_G) (w : XS → va_W) (A : Nat → Prop) (s : State) (H : Heap) (locs : List Loc) (x : XS) : Prop := va_P D vwCl (w x) H ∧ va_S A s.heap H locs
def xpre (D : va_G) (T : ClassId × ClassId) (w : XS → va_W) (sz : Nat) (x : XS) (U : State) : Prop := U.heap.size = sz ∧ va_P D vwCl (w x) U.heap ∧ (∀ x', va_D (fun _ => True) (w x')) ∧ va_K D vwCl [(T.1, .int), (T.2, .boolean)] U ∧ (∀ w ∈ xg_nest, va_Nw w U)
def xPI (D : va_G) (w : XS → va_W) (rt : FieldType) (z : Int32 × XS) (A : Nat → Prop) : Array Value → State → Outcome → State → Prop := va_Qi (fun (r : Int32) (u : XS) => (r, u) = z ∧ narrow rt (.int r) = .int r) (fun u t => va_P D vwCl (w u) t.heap) A
def xPV (D : va_G) (w : XS → va_W) (z : Int32 × XS) (A : Nat → Prop) : Array Value → State → Outcome → State → Prop := va_Qv (fun (u : XS) => ((0 : Int32), u) = z) (fun u t => va_P D vwCl (w u) t.heap) A
def xMetI (l : Launch) (y : MethodName) (cc : ByteArray) (mL : Nat) (rt : FieldType) (rm : Room) (D : va_G) (T : ClassId × ClassId) (w : XS → va_W) (sz : Nat) (av : List Value) (x : XS) (z : Int32 × XS) : Prop :=
  Met l y (.code y cc mL (some rt) :: xg_big) rm (va_Pc av (xpre D T w sz x)) (xPI D w rt z (va_A (w x) sz)) 0 0 (va_A (w x) sz)
def xMetV (l : Launch) (y : MethodName) (cc : ByteArray) (mL : Nat) (rm : Room) (D : va_G) (T : ClassId × ClassId) (w : XS → va_W) (sz : Nat) (av : List Value) (x : XS) (z : Int32 × XS) : Prop :=
  Met l y (.code y cc mL none :: xg_big) rm (va_Pc av (xpre D T w sz x)) (xPV D w z (va_A (w x) sz)) 0 0 (va_A (w x) sz)
def xQI (below : List Frame) (args : Array Value) (s : State) (D : va_G) (w : XS → va_W) (rt : FieldType) (z : Int32 × XS) (A : Nat → Prop) : State → Prop := MQ below (xPI D w rt z A) args s 0 0 A
def xQV (below : List Frame) (args : Array Value) (s : State) (D : va_G) (w : XS → va_W) (z : Int32 × XS) (A : Nat → Prop) : State → Prop := MQ below (xPV D w z A) args s 0 0 A
theorem xD_self {w : XS → va_W} (ha : ∀ x x' : XS, (w x).map Prod.fst = (w x').map Prod.fst) (h : ∀ x', va_D (fun _ => True) (w x')) (x : XS) (sz : Nat) : ∀ x', va_D (va_A (w x) sz) (w x') := by
  intro x'
  refine ⟨(h x').1, fun k q hk => ?_⟩
  have h1 : ((w x').map Prod.fst)[k]? = some q.1 := by rw [List.getElem?_map, hk]; rfl
  rw [ha x' x, List.getElem?_map] at h1
  cases h2 : (w x)[k]? with
  | none => rw [h2] at h1; cases h1
  | some q2 =>
    rw [h2] at h1
    have h3 : q2.1 = q.1 := Option.some.inj h1
    exact Or.inl ⟨k, q2.2, by rw [h2, ← h3]⟩
theorem xMetI_of {l : Launch} {y : MethodName} {cc : ByteArray} {mL : Nat} {rt : FieldType} {rm : Room} {D : va_G} {T : ClassId × ClassId} {w : XS → va_W} {sz : Nat} {av : List Value} {x : XS} {z : Int32 × XS} (hy : plainName y.cls = true) (hn : (lg_sl av).length ≤ mL) (ha : ∀ x x' : XS, (w x).map Prod.fst = (w x').map Prod.fst)
    (body : ∀ (p : Program) (e : Env) (s : State) (m : MethodId) (args : Array Value) (below : List Frame) (meth : Method) (c : Code) (A : Nat → Prop) (ls : Array Slot), xcx y.cls cc mL D T w A p s m args meth c → meth.sig.returnType = some rt → xmm D w A s s.heap [] x → lv_has ls mL (lv_args 0 av) → W p l e rm s m args below meth c s.heap [] 0 0 (xQI below args s D w rt z A) (F0 m 0 ls [])) : xMetI l y cc mL rt rm D T w sz av x z := by
  refine Met.ofW (cc := cc) (maxL := mL) (ret := some rt) hy rfl ?_
  intro p e s m args below meth c s₁ B hml hv
  obtain ⟨rfl, hsz, hP, hD, hK, hN⟩ := hv
  subst hsz
  have hts := atoms_spec (ws := (Cond.code y cc mL (some rt) :: xg_big)) B.pre
  have hl := lv_entry av (n := mL) hn
  rw [lg_entry_eq]
  generalize (lg_sl av ++ List.replicate (mL - (lg_sl av).length) Slot.unset).toArray = ls at hl ⊢
  exact body p e s m _ below meth c (va_A (w x) s.heap.size) ls ⟨B.exec, B.bytes, hml, findClass_of_methodNamed B.named, fun w hw => hts w (List.mem_cons_of_mem _ hw), hN, hK, xD_self ha hD x _, B.notSynchronized, fun q h => Or.inr h⟩ B.returns ⟨hP, va_S.rf⟩ hl
theorem xMetV_of {l : Launch} {y : MethodName} {cc : ByteArray} {mL : Nat} {rm : Room} {D : va_G} {T : ClassId × ClassId} {w : XS → va_W} {sz : Nat} {av : List Value} {x : XS} {z : Int32 × XS} (hy : plainName y.cls = true) (hn : (lg_sl av).length ≤ mL) (ha : ∀ x x' : XS, (w x).map Prod.fst = (w x').map Prod.fst)
    (body : ∀ (p : Program) (e : Env) (s : State) (m : MethodId) (args : Array Value) (below : List Frame) (meth : Method) (c : Code) (A : Nat → Prop) (ls : Array Slot), xcx y.cls cc mL D T w A p s m args meth c → meth.sig.returnType = none → xmm D w A s s.heap [] x → lv_has ls mL (lv_args 0 av) → W p l e rm s m args below meth c s.heap [] 0 0 (xQV below args s D w z A) (F0 m 0 ls [])) : xMetV l y cc mL rm D T w sz av x z := by
  refine Met.ofW (cc := cc) (maxL := mL) (ret := none) hy rfl ?_
  intro p e s m args below meth c s₁ B hml hv
  obtain ⟨rfl, hsz, hP, hD, hK, hN⟩ := hv
  subst hsz
  have hts := atoms_spec (ws := (Cond.code y cc mL none :: xg_big)) B.pre
  have hl := lv_entry av (n := mL) hn
  rw [lg_entry_eq]
  generalize (lg_sl av ++ List.replicate (mL - (lg_sl av).length) Slot.unset).toArray = ls at hl ⊢
  exact body p e s m _ below meth c (va_A (w x) s.heap.size) ls ⟨B.exec, B.bytes, hml, findClass_of_methodNamed B.named, fun w hw => hts w (List.mem_cons_of_mem _ hw), hN, hK, xD_self ha hD x _, B.notSynchronized, fun q h => Or.inr h⟩ B.returns ⟨hP, va_S.rf⟩ hl
section XB
variable {own : String} {cc : ByteArray} {nL : Nat} {D : va_G} {T : ClassId × ClassId} {w : XS → va_W} {A : Nat → Prop} {p : Program} {l : Launch} {e : Env} {R : Room} {s : State} {m : MethodId} {args : Array Value} {below : List Frame} {meth : Method} {c : Code} {H : Heap} {locs : List Loc} {Q : State → Prop} {x : XS} {z : Int32 × XS} {pc : Nat} {ls : Array Slot} {rest : List Value}
theorem xretI {rt : FieldType} {v : Int32} (C : xcx own cc nL D T w A p s m args meth c) (hr : meth.sig.returnType = some rt) (M : xmm D w A s H locs x) (h : some (v, x) = some z) (hn : narrow rt (.int v) = .int v) (hdg : decode cc pc = .ok (.ireturn, 1)) : W p l e R s m args below meth c H locs 0 0 (xQI below args s D w rt z A) (F0 m pc ls [.int v]) := by
  have hlocks : meth.locks = false := C.2.2.2.2.2.2.2.2.1
  exact W.zret (v := v) C.1 C.2.1 hr hn (fun t ht hW => ⟨⟨v, x, rfl, ⟨Option.some.inj h, hn⟩, by show va_P D vwCl (w x) t.heap; rw [ht]; exact M.1⟩, M.2.F ht⟩) M.2.2.2 hdg
theorem xretV (C : xcx own cc nL D T w A p s m args meth c) (hr : meth.sig.returnType = none) (M : xmm D w A s H locs x) (h : some ((0 : Int32), x) = some z) (hdg : decode cc pc = .ok (.return_, 1)) : W p l e R s m args below meth c H locs 0 0 (xQV below args s D w z A) (F0 m pc ls []) := by
  have hlocks : meth.locks = false := C.2.2.2.2.2.2.2.2.1
  exact W.vret C.1 C.2.1 hr (fun t ht hW => ⟨⟨x, rfl, Option.some.inj h, by show va_P D vwCl (w x) t.heap; rw [ht]; exact M.1⟩, M.2.F ht⟩) M.2.2.2 hdg
theorem x_top {e0 : Int32} {K : Int32 → XR} (h : x_let e0 K = some z) (kk : ∀ y, K y = some z → W p l e R s m args below meth c H locs 0 0 Q (F0 m pc ls (.int y :: rest))) : W p l e R s m args below meth c H locs 0 0 Q (F0 m pc ls (.int e0 :: rest)) := kk e0 h
theorem xg_get (C : xcx own cc nL D T w A p s m args meth c) (M : xmm D w A s H locs x) {Cn : String} {Tn : u_T} {N ci index : Nat} {a : Nat} {fs : List Value} (q0 : Nat) (he : (w x)[q0]? = some (a, .inr (ci, fs))) (hc : vwCl[ci]? = some (Cn, Tn, N)) (hin : ∀ w ∈ u_ws Cn Tn N, w ∈ xg_big) (k : Nat) (hk : k < N) (ho : (Tn k).1 = Cn) (hl : Cond.fieldLink own index Cn (Tn k).2.1 (Tn k).2.2.1 ∈ xg_big) {v : Value} (hv : fs[k]? = some v) (hdg : decode cc pc = .ok (.getfield index, 3))
    (kk : W p l e R s m args below meth c H locs 0 0 Q (F0 m (pc + 3) ls (v :: rest))) : W p l e R s m args below meth c H locs 0 0 Q (F0 m pc ls (.ref a :: rest)) :=
  va_get (D := D) C.1 C.2.1 C.2.2.2.2.1 hin C.2.2.2.1 C.2.2.2.2.2.2.1 M.1 q0 he hc k hk (C.2.2.2.2.1 _ hl) (fun y h => by rw [ho] at h; exact h) hv hdg kk
theorem xg_getN (C : xcx own cc nL D T w A p s m args meth c) (M : xmm D w A s H locs x) {Cn host : String} {Tn : u_T} {N ci index : Nat} {a : Nat} {fs : List Value} (q0 : Nat) (he : (w x)[q0]? = some (a, .inr (ci, fs))) (hc : vwCl[ci]? = some (Cn, Tn, N)) (hin : ∀ w ∈ u_ws Cn Tn N, w ∈ xg_big) (k : Nat) (hk : k < N) (ho : (Tn k).1 = Cn) (hl : Cond.fieldLinkNest own index Cn (Tn k).2.1 (Tn k).2.2.1 host ∈ xg_nest) {v : Value} (hv : fs[k]? = some v) (hdg : decode cc pc = .ok (.getfield index, 3))
    (kk : W p l e R s m args below meth c H locs 0 0 Q (F0 m (pc + 3) ls (v :: rest))) : W p l e R s m args below meth c H locs 0 0 Q (F0 m pc ls (.ref a :: rest)) :=
  va_getN (D := D) C.1 C.2.1 C.2.2.2.2.1 hin C.2.2.2.1 C.2.2.2.2.2.2.1 M.1 q0 he hc k hk (va_Nw.use (xb_non hl) (C.2.2.2.2.2.1 _ hl)) (fun y h => by rw [ho] at h; exact h) hv hdg kk
theorem xg_put (C : xcx own cc nL D T w A p s m args meth c) (M : xmm D w A s H locs x) {Cn : String} {Tn : u_T} {N ci index : Nat} {a : Nat} {fs : List Value} (q0 : Nat) (he : (w x)[q0]? = some (a, .inr (ci, fs))) (hc : vwCl[ci]? = some (Cn, Tn, N)) (hin : ∀ w ∈ u_ws Cn Tn N, w ∈ xg_big) (ty0 : Nat → FieldType) (hty : ∀ k, k < N → parseFieldDescriptor (Tn k).2.2.1 = some (ty0 k)) (hnm : ∀ a, a < N → ∀ b, b < N → a ≠ b → (Tn a).2.1 ≠ (Tn b).2.1) (k : Nat) (hk : k < N) (ho : (Tn k).1 = Cn) (hl : Cond.fieldLink own index Cn (Tn k).2.1 (Tn k).2.2.1 ∈ xg_big) (hfin : (Tn k).2.2.2 = false) {v : Int32} (hn : narrow (ty0 k) (.int v) = .int v) (hfit : fits (ty0 k) (.int v) = true) (hlen : k < fs.length) {x' : XS} (hset : (w x).set q0 (a, .inr (ci, fs.set k (.int v))) = w x') (hdg : decode cc pc = .ok (.putfield index, 3)) {K : XS → XR} (h : x_let x' K = some z)
    (kk : ∀ (H1 : Heap) (locs1 : List Loc) (x1 : XS), xmm D w A s H1 locs1 x1 → K x1 = some z → W p l e R s m args below meth c H1 locs1 0 0 Q (F0 m (pc + 3) ls rest)) : W p l e R s m args below meth c H locs 0 0 Q (F0 m pc ls (.int v :: .ref a :: rest)) :=
  va_put (D := D) C.1 C.2.1 C.2.2.2.2.1 hin ty0 hty hnm C.2.2.2.1 C.2.2.2.2.2.2.1 M.1 (C.2.2.2.2.2.2.2.1 x) M.2 q0 he hc k hk (C.2.2.2.2.1 _ hl) (fun y h => by rw [ho] at h; exact h) hfin (hty k hk) hn hfit hlen hdg (fun H1 locs1 hP _ hS => kk H1 locs1 x' ⟨by rw [← hset]; exact hP, hS⟩ h)
theorem xg_putN (C : xcx own cc nL D T w A p s m args meth c) (M : xmm D w A s H locs x) {Cn host : String} {Tn : u_T} {N ci index : Nat} {a : Nat} {fs : List Value} (q0 : Nat) (he : (w x)[q0]? = some (a, .inr (ci, fs))) (hc : vwCl[ci]? = some (Cn, Tn, N)) (hin : ∀ w ∈ u_ws Cn Tn N, w ∈ xg_big) (ty0 : Nat → FieldType) (hty : ∀ k, k < N → parseFieldDescriptor (Tn k).2.2.1 = some (ty0 k)) (hnm : ∀ a, a < N → ∀ b, b < N → a ≠ b → (Tn a).2.1 ≠ (Tn b).2.1) (k : Nat) (hk : k < N) (ho : (Tn k).1 = Cn) (hl : Cond.fieldLinkNest own index Cn (Tn k).2.1 (Tn k).2.2.1 host ∈ xg_nest) (hfin : (Tn k).2.2.2 = false) {v : Int32} (hn : narrow (ty0 k) (.int v) = .int v) (hfit : fits (ty0 k) (.int v) = true) (hlen : k < fs.length) {x' : XS} (hset : (w x).set q0 (a, .inr (ci, fs.set k (.int v))) = w x') (hdg : decode cc pc = .ok (.putfield index, 3)) {K : XS → XR} (h : x_let x' K = some z)
    (kk : ∀ (H1 : Heap) (locs1 : List Loc) (x1 : XS), xmm D w A s H1 locs1 x1 → K x1 = some z → W p l e R s m args below meth c H1 locs1 0 0 Q (F0 m (pc + 3) ls rest)) : W p l e R s m args below meth c H locs 0 0 Q (F0 m pc ls (.int v :: .ref a :: rest)) :=
  va_putN (D := D) C.1 C.2.1 C.2.2.2.2.1 hin ty0 hty hnm C.2.2.2.1 C.2.2.2.2.2.2.1 M.1 (C.2.2.2.2.2.2.2.1 x) M.2 q0 he hc k hk (va_Nw.use (xb_non hl) (C.2.2.2.2.2.1 _ hl)) (fun y h => by rw [ho] at h; exact h) hfin (hty k hk) hn hfit hlen hdg (fun H1 locs1 hP _ hS => kk H1 locs1 x' ⟨by rw [← hset]; exact hP, hS⟩ h)
theorem xg_ald (C : xcx own cc nL D T w A p s m args meth c) (M : xmm D w A s H locs x) {a n : Nat} {f : Nat → Int32} (q0 : Nat) (he : (w x)[q0]? = some (a, .inl (T.1, n, .inl f))) {i : Int32} (hdg : decode cc pc = .ok (.iaload, 1)) {K : Int32 → XR} (h : x_ld f n i K = some z)
    (kk : ∀ v : Int32, K v = some z → W p l e R s m args below meth c H locs 0 0 Q (F0 m (pc + 1) ls (.int v :: rest))) : W p l e R s m args below meth c H locs 0 0 Q (F0 m pc ls (.int i :: .ref a :: rest)) := by
  unfold x_ld at h
  by_cases hc : i < 0 ∨ n ≤ i.toNatClampNeg
  · rw [if_pos hc] at h; cases h
  · rw [if_neg hc] at h
    exact va_iald C.1 C.2.1 C.2.2.2.2.2.2.1 M.1 q0 0 he rfl hc hdg (kk _ h)
theorem xg_zald (C : xcx own cc nL D T w A p s m args meth c) (M : xmm D w A s H locs x) {a n : Nat} {f : Nat → Int32} (q0 : Nat) (he : (w x)[q0]? = some (a, .inl (T.2, n, .inl f))) {i : Int32} (hdg : decode cc pc = .ok (.baload, 1)) {K : Int32 → XR} (h : x_ld f n i K = some z)
    (kk : ∀ v : Int32, K v = some z → W p l e R s m args below meth c H locs 0 0 Q (F0 m (pc + 1) ls (.int v :: rest))) : W p l e R s m args below meth c H locs 0 0 Q (F0 m pc ls (.int i :: .ref a :: rest)) := by
  unfold x_ld at h
  by_cases hc : i < 0 ∨ n ≤ i.toNatClampNeg
  · rw [if_pos hc] at h; cases h
  · rw [if_neg hc] at h
    exact va_zald C.1 C.2.1 C.2.2.2.2.2.2.1 M.1 q0 1 he rfl hc hdg (kk _ h)
theorem xg_ast (C : xcx own cc nL D T w A p s m args meth c) (M : xmm D w A s H locs x) {a n j : Nat} (q0 : Nat) (he : (w x)[q0]? = some (a, .inl (T.1, n, .inl (x.2 j)))) (hset : ∀ f, (w x).set q0 (a, .inl (T.1, n, .inl f)) = w (xpA x j f)) {i v : Int32} (hdg : decode cc pc = .ok (.iastore, 1)) {K : XS → XR} (h : x_st x j n i v K = some z)
    (kk : ∀ (H1 : Heap) (locs1 : List Loc) (x1 : XS), xmm D w A s H1 locs1 x1 → K x1 = some z → W p l e R s m args below meth c H1 locs1 0 0 Q (F0 m (pc + 1) ls rest)) : W p l e R s m args below meth c H locs 0 0 Q (F0 m pc ls (.int v :: .int i :: .ref a :: rest)) := by
  unfold x_st at h
  by_cases hc : i < 0 ∨ n ≤ i.toNatClampNeg
  · rw [if_pos hc] at h; cases h
  · rw [if_neg hc] at h
    exact va_iast C.1 C.2.1 C.2.2.2.2.2.2.1 M.1 (C.2.2.2.2.2.2.2.1 x) M.2 q0 0 he rfl hc hdg (fun H1 locs1 hP _ hS => kk H1 locs1 _ ⟨by rw [← hset]; exact hP, hS⟩ h)
theorem xg_zast (C : xcx own cc nL D T w A p s m args meth c) (M : xmm D w A s H locs x) {a n j : Nat} (q0 : Nat) (he : (w x)[q0]? = some (a, .inl (T.2, n, .inl (x.2 j)))) (hset : ∀ f, (w x).set q0 (a, .inl (T.2, n, .inl f)) = w (xpA x j f)) {i v v' : Int32} (hv : vp_nar .boolean v = v') (hdg : decode cc pc = .ok (.bastore, 1)) {K : XS → XR} (h : x_st x j n i v' K = some z)
    (kk : ∀ (H1 : Heap) (locs1 : List Loc) (x1 : XS), xmm D w A s H1 locs1 x1 → K x1 = some z → W p l e R s m args below meth c H1 locs1 0 0 Q (F0 m (pc + 1) ls rest)) : W p l e R s m args below meth c H locs 0 0 Q (F0 m pc ls (.int v :: .int i :: .ref a :: rest)) := by
  subst hv
  unfold x_st at h
  by_cases hc : i < 0 ∨ n ≤ i.toNatClampNeg
  · rw [if_pos hc] at h; cases h
  · rw [if_neg hc] at h
    exact va_zast C.1 C.2.1 C.2.2.2.2.2.2.1 M.1 (C.2.2.2.2.2.2.2.1 x) M.2 q0 1 he rfl hc hdg (fun H1 locs1 hP _ hS => kk H1 locs1 _ ⟨by rw [← hset]; exact hP, hS⟩ h)
theorem xb_blind {sz : Nat} {av : List Value} : FrameBlind (va_Pc av (xpre D T w sz x)) := fun a U g mk q => by
  obtain ⟨q0, q1, qP, qD, qK, qN⟩ := q
  exact ⟨q0, q1, qP, qD, va_K.moved (u := U) (U := U.calling g mk a) (Vm.Alike.refl U.vm) qK, fun w hw => va_Nw.same (u := U) (U := U.calling g mk a) (xb_non hw) rfl (qN w hw)⟩
theorem xb_pre (C : xcx own cc nL D T w A p s m args meth c) (M : xmm D w A s H locs x) (av : List Value) : ∀ U : State, U.heap = H → s.WarmedH U.vm → va_Pc av (xpre D T w H.size x) av.toArray U := fun U hU hW =>
  ⟨rfl, by rw [hU], by rw [hU]; exact M.1, fun x' => (C.2.2.2.2.2.2.2.1 x').weaken (fun _ _ _ _ => trivial), va_K.moved hW.alike C.2.2.2.2.2.2.1, fun w hw => xb_nw hw hW (C.2.2.2.2.2.1 w hw)⟩
theorem xb_fre (C : xcx own cc nL D T w A p s m args meth c) (M : xmm D w A s H locs x) : ∀ q, va_A (w x) H.size q → A q := by
  intro q h
  rcases h with ⟨k, e, h⟩ | h
  · exact (C.2.2.2.2.2.2.2.1 x).2 k (q, e) h
  · exact C.2.2.2.2.2.2.2.2.2 q (Nat.le_trans M.2.1 h)
theorem xb_callB (C : xcx own cc nL D T w A p s m args meth c) {y : MethodName} {cy : ByteArray} {mLy n index : Nat} {ret : Option FieldType} {rm : Room} (hcode : Cond.code y cy mLy ret ∈ xg_big) (hlink : Cond.methodLink own index y ∈ xg_big) (hini : Cond.initialized y.cls ∈ xg_big) (hd : y.cls ≠ "java/lang/invoke/MethodHandle" ∧ y.cls ≠ "java/lang/invoke/VarHandle" ∧ (parseMethodDescriptor y.desc).map (fun d => d.parameters.length) = some n) (hrm : rm.cells = 0 ∧ rm.slots = 0) (hR : rm.frames + 1 ≤ R.frames ∧ 8 + (mLy + 11) + rm.locals ≤ R.locals) : CallB R s args own index y cy mLy ret (.code y cy mLy ret :: xg_big) rm 0 0 n := by
  have hts := C.2.2.2.2.1
  refine ⟨hrm.1, hrm.2, hR.1, hR.2, xb_pay hts hcode, List.mem_cons_self, hts _ hcode, hts _ hini, ⟨hd.1, hd.2.1⟩, fun sig h => ?_, hts _ hlink⟩
  have h2 := hd.2.2
  rw [h] at h2
  exact (Option.some.inj h2).symm
theorem xb_callN (C : xcx own cc nL D T w A p s m args meth c) {y : MethodName} {cy : ByteArray} {mLy n index : Nat} {ret : Option FieldType} {rm : Room} {host : String} (hcode : Cond.code y cy mLy ret ∈ xg_big) (hlink : Cond.methodLinkNest own index y host ∈ xg_nest) (hini : Cond.initialized y.cls ∈ xg_big) (hd : y.cls ≠ "java/lang/invoke/MethodHandle" ∧ y.cls ≠ "java/lang/invoke/VarHandle" ∧ (parseMethodDescriptor y.desc).map (fun d => d.parameters.length) = some n) (hrm : rm.cells = 0 ∧ rm.slots = 0) (hR : rm.frames + 1 ≤ R.frames ∧ 8 + (mLy + 11) + rm.locals ≤ R.locals) : va_CN R s args own index y host cy mLy ret (.code y cy mLy ret :: xg_big) rm 0 0 n := by
  have hts := C.2.2.2.2.1
  refine ⟨⟨hrm.1, hrm.2, hR.1, hR.2, xb_pay hts hcode, List.mem_cons_self⟩, hts _ hcode, hts _ hini, ⟨hd.1, hd.2.1⟩, fun sig h => ?_, va_Nw.use (xb_non hlink) (C.2.2.2.2.2.1 _ hlink)⟩
  have h2 := hd.2.2
  rw [h] at h2
  exact (Option.some.inj h2).symm
theorem xb_fix (C : xcx own cc nL D T w A p s m args meth c) : CallFix p m c cc nL s args xg_big own := ⟨C.1, C.2.1, C.2.2.1, C.2.2.2.1, C.2.2.2.2.1⟩
-- behind a call
theorem xb_afterI {g0 : JFrame} {st0 : List Value} {av : Array Value} {rt : FieldType} {zc : Int32 × XS} (C : xcx own cc nL D T w A p s m args meth c) (M : xmm D w A s H locs x) (hr : va_Run p l e R s m args below meth c H locs 0 0 0 0 (F0 m pc ls st0) rest (xPI D w rt zc (va_A (w x) H.size) av) (va_A (w x) H.size)) {K : Int32 → XS → XR} (h : K zc.1 zc.2 = some z)
    (kk : ∀ (r : Int32) (H1 : Heap) (locs1 : List Loc) (x1 : XS), xmm D w A s H1 locs1 x1 → narrow rt (.int r) = .int r → K r x1 = some z → W p l e R s m args below meth c H1 locs1 0 0 Q (F0 m (pc + 3) ls (.int r :: rest))) : W p l e R s m args below meth c H locs 0 0 Q (F0 m pc ls st0) := by
  refine va_calli hr M.2 (fun q _ h => xb_fre C M q h) (xb_fre C M) (fun r u t H1 locs1 ht hvm hw hB hz1 hk1 hS => ?_)
  rw [ht] at hB
  obtain ⟨hw1, hw2⟩ := hw
  subst hw1
  exact kk r H1 locs1 u ⟨hB, hS⟩ hw2 h
theorem xb_afterV {st0 : List Value} {av : Array Value} {zc : Int32 × XS} (C : xcx own cc nL D T w A p s m args meth c) (M : xmm D w A s H locs x) (hr : va_Run p l e R s m args below meth c H locs 0 0 0 0 (F0 m pc ls st0) rest (xPV D w zc (va_A (w x) H.size) av) (va_A (w x) H.size)) {K : Int32 → XS → XR} (h : K zc.1 zc.2 = some z)
    (kk : ∀ (H1 : Heap) (locs1 : List Loc) (x1 : XS), xmm D w A s H1 locs1 x1 → K 0 x1 = some z → W p l e R s m args below meth c H1 locs1 0 0 Q (F0 m (pc + 3) ls rest)) : W p l e R s m args below meth c H locs 0 0 Q (F0 m pc ls st0) := by
  refine va_callv hr M.2 (fun q _ h => xb_fre C M q h) (xb_fre C M) (fun u t H1 locs1 ht hvm hw hB hz1 hk1 hS => ?_)
  rw [ht] at hB
  subst hw
  exact kk H1 locs1 u ⟨hB, hS⟩ h
variable {y : MethodName} {cy : ByteArray} {mLy index : Nat} {rt : FieldType} {rm : Room} {o : XR} {K : Int32 → XS → XR} {st : List Value} {As : List Value} {ad ci N : Nat} {Cn host : String} {Tn : u_T} {fs : List Value}
theorem xcallI_V (C : xcx own cc nL D T w A p s m args meth c) (M : xmm D w A s H locs x) (hM : ∀ zc sz, o = some zc → xMetI l y cy mLy rt rm D T w sz (.ref ad :: As) x zc) (hcode : Cond.code y cy mLy (some rt) ∈ xg_big) (hlink : Cond.methodLink own index y ∈ xg_big) (hinst : Cond.instanceMethod y ∈ xg_big) (hsel : Cond.selects Cn y y ∈ xg_big) (hini : Cond.initialized y.cls ∈ xg_big) (hd : y.cls ≠ "java/lang/invoke/MethodHandle" ∧ y.cls ≠ "java/lang/invoke/VarHandle" ∧ (parseMethodDescriptor y.desc).map (fun d => d.parameters.length) = some As.length) (q0 : Nat) (he : (w x)[q0]? = some (ad, .inr (ci, fs))) (hc : vwCl[ci]? = some (Cn, Tn, N)) (hrm : rm.cells = 0 ∧ rm.slots = 0) (hR : rm.frames + 1 ≤ R.frames ∧ 8 + (mLy + 11) + rm.locals ≤ R.locals) (hsz : ls.size = nL) (hst : st = As.reverse ++ .ref ad :: rest) (hrest : (rest.map fun v => v.category).sum ≤ 8) (hdg : decode cc pc = .ok (.invokevirtual index, 3)) (h : x_call o K = some z)
    (kk : ∀ (r : Int32) (H1 : Heap) (locs1 : List Loc) (x1 : XS), xmm D w A s H1 locs1 x1 → narrow rt (.int r) = .int r → K r x1 = some z → W p l e R s m args below meth c H1 locs1 0 0 Q (F0 m (pc + 3) ls (.int r :: rest))) : W p l e R s m args below meth c H locs 0 0 Q (F0 m pc ls st) := by
  refine x_call_el h (fun zc ho h => ?_)
  exact xb_afterI (g0 := F0 m pc ls st) C M (va_runV (As := As) (rest := rest) (xb_fix C) (hM zc H.size ho) ⟨xb_callB C hcode hlink hini hd hrm hR, C.2.2.2.2.1 _ hinst, C.2.2.2.2.1 _ hsel⟩ ⟨xb_blind, va_recv C.2.2.2.2.2.2.1 M.1 hc he, xb_pre C M _⟩ rfl rfl hsz hst (lv_room hrest) hdg ⟨Nat.zero_le _, Nat.zero_le _⟩) h kk
theorem xcallV_V (C : xcx own cc nL D T w A p s m args meth c) (M : xmm D w A s H locs x) (hM : ∀ zc sz, o = some zc → xMetV l y cy mLy rm D T w sz (.ref ad :: As) x zc) (hcode : Cond.code y cy mLy none ∈ xg_big) (hlink : Cond.methodLink own index y ∈ xg_big) (hinst : Cond.instanceMethod y ∈ xg_big) (hsel : Cond.selects Cn y y ∈ xg_big) (hini : Cond.initialized y.cls ∈ xg_big) (hd : y.cls ≠ "java/lang/invoke/MethodHandle" ∧ y.cls ≠ "java/lang/invoke/VarHandle" ∧ (parseMethodDescriptor y.desc).map (fun d => d.parameters.length) = some As.length) (q0 : Nat) (he : (w x)[q0]? = some (ad, .inr (ci, fs))) (hc : vwCl[ci]? = some (Cn, Tn, N)) (hrm : rm.cells = 0 ∧ rm.slots = 0) (hR : rm.frames + 1 ≤ R.frames ∧ 8 + (mLy + 11) + rm.locals ≤ R.locals) (hsz : ls.size = nL) (hst : st = As.reverse ++ .ref ad :: rest) (hrest : (rest.map fun v => v.category).sum ≤ 8) (hdg : decode cc pc = .ok (.invokevirtual index, 3)) (h : x_call o K = some z)
    (kk : ∀ (H1 : Heap) (locs1 : List Loc) (x1 : XS), xmm D w A s H1 locs1 x1 → K 0 x1 = some z → W p l e R s m args below meth c H1 locs1 0 0 Q (F0 m (pc + 3) ls rest)) : W p l e R s m args below meth c H locs 0 0 Q (F0 m pc ls st) := by
  refine x_call_el h (fun zc ho h => ?_)
  exact xb_afterV C M (va_runV (As := As) (rest := rest) (xb_fix C) (hM zc H.size ho) ⟨xb_callB C hcode hlink hini hd hrm hR, C.2.2.2.2.1 _ hinst, C.2.2.2.2.1 _ hsel⟩ ⟨xb_blind, va_recv C.2.2.2.2.2.2.1 M.1 hc he, xb_pre C M _⟩ rfl rfl hsz hst (lv_room hrest) hdg ⟨Nat.zero_le _, Nat.zero_le _⟩) h kk
theorem xcallI_N (C : xcx own cc nL D T w A p s m args meth c) (M : xmm D w A s H locs x) (hM : ∀ zc sz, o = some zc → xMetI l y cy mLy rt rm D T w sz (.ref ad :: As) x zc) (hcode : Cond.code y cy mLy (some rt) ∈ xg_big) (hlink : Cond.methodLinkNest own index y host ∈ xg_nest) (hinst : Cond.instanceMethod y ∈ xg_big) (hsel : Cond.selects Cn y y ∈ xg_big) (hini : Cond.initialized y.cls ∈ xg_big) (hd : y.cls ≠ "java/lang/invoke/MethodHandle" ∧ y.cls ≠ "java/lang/invoke/VarHandle" ∧ (parseMethodDescriptor y.desc).map (fun d => d.parameters.length) = some As.length) (q0 : Nat) (he : (w x)[q0]? = some (ad, .inr (ci, fs))) (hc : vwCl[ci]? = some (Cn, Tn, N)) (hrm : rm.cells = 0 ∧ rm.slots = 0) (hR : rm.frames + 1 ≤ R.frames ∧ 8 + (mLy + 11) + rm.locals ≤ R.locals) (hsz : ls.size = nL) (hst : st = As.reverse ++ .ref ad :: rest) (hrest : (rest.map fun v => v.category).sum ≤ 8) (hdg : decode cc pc = .ok (.invokevirtual index, 3)) (h : x_call o K = some z)
    (kk : ∀ (r : Int32) (H1 : Heap) (locs1 : List Loc) (x1 : XS), xmm D w A s H1 locs1 x1 → narrow rt (.int r) = .int r → K r x1 = some z → W p l e R s m args below meth c H1 locs1 0 0 Q (F0 m (pc + 3) ls (.int r :: rest))) : W p l e R s m args below meth c H locs 0 0 Q (F0 m pc ls st) := by
  refine x_call_el h (fun zc ho h => ?_)
  exact xb_afterI (g0 := F0 m pc ls st) C M (va_runVN (As := As) (rest := rest) (xb_fix C) (hM zc H.size ho) ⟨xb_callN C hcode hlink hini hd hrm hR, C.2.2.2.2.1 _ hinst, C.2.2.2.2.1 _ hsel⟩ ⟨xb_blind, va_recv C.2.2.2.2.2.2.1 M.1 hc he, xb_pre C M _⟩ rfl rfl hsz hst (lv_room hrest) hdg ⟨Nat.zero_le _, Nat.zero_le _⟩) h kk
theorem xcallV_N (C : xcx own cc nL D T w A p s m args meth c) (M : xmm D w A s H locs x) (hM : ∀ zc sz, o = some zc → xMetV l y cy mLy rm D T w sz (.ref ad :: As) x zc) (hcode : Cond.code y cy mLy none ∈ xg_big) (hlink : Cond.methodLinkNest own index y host ∈ xg_nest) (hinst : Cond.instanceMethod y ∈ xg_big) (hsel : Cond.selects Cn y y ∈ xg_big) (hini : Cond.initialized y.cls ∈ xg_big) (hd : y.cls ≠ "java/lang/invoke/MethodHandle" ∧ y.cls ≠ "java/lang/invoke/VarHandle" ∧ (parseMethodDescriptor y.desc).map (fun d => d.parameters.length) = some As.length) (q0 : Nat) (he : (w x)[q0]? = some (ad, .inr (ci, fs))) (hc : vwCl[ci]? = some (Cn, Tn, N)) (hrm : rm.cells = 0 ∧ rm.slots = 0) (hR : rm.frames + 1 ≤ R.frames ∧ 8 + (mLy + 11) + rm.locals ≤ R.locals) (hsz : ls.size = nL) (hst : st = As.reverse ++ .ref ad :: rest) (hrest : (rest.map fun v => v.category).sum ≤ 8) (hdg : decode cc pc = .ok (.invokevirtual index, 3)) (h : x_call o K = some z)
    (kk : ∀ (H1 : Heap) (locs1 : List Loc) (x1 : XS), xmm D w A s H1 locs1 x1 → K 0 x1 = some z → W p l e R s m args below meth c H1 locs1 0 0 Q (F0 m (pc + 3) ls rest)) : W p l e R s m args below meth c H locs 0 0 Q (F0 m pc ls st) := by
  refine x_call_el h (fun zc ho h => ?_)
  exact xb_afterV C M (va_runVN (As := As) (rest := rest) (xb_fix C) (hM zc H.size ho) ⟨xb_callN C hcode hlink hini hd hrm hR, C.2.2.2.2.1 _ hinst, C.2.2.2.2.1 _ hsel⟩ ⟨xb_blind, va_recv C.2.2.2.2.2.2.1 M.1 hc he, xb_pre C M _⟩ rfl rfl hsz hst (lv_room hrest) hdg ⟨Nat.zero_le _, Nat.zero_le _⟩) h kk
theorem xcallI_S (C : xcx own cc nL D T w A p s m args meth c) (M : xmm D w A s H locs x) (hM : ∀ zc sz, o = some zc → xMetI l y cy mLy rt rm D T w sz As x zc) (hcode : Cond.code y cy mLy (some rt) ∈ xg_big) (hlink : Cond.methodLink own index y ∈ xg_big) (hsta : Cond.static y ∈ xg_big) (hini : Cond.initialized y.cls ∈ xg_big) (hd : y.cls ≠ "java/lang/invoke/MethodHandle" ∧ y.cls ≠ "java/lang/invoke/VarHandle" ∧ (parseMethodDescriptor y.desc).map (fun d => d.parameters.length) = some As.length) (hrm : rm.cells = 0 ∧ rm.slots = 0) (hR : rm.frames + 1 ≤ R.frames ∧ 8 + (mLy + 11) + rm.locals ≤ R.locals) (hsz : ls.size = nL) (hst : st = As.reverse ++ rest) (hrest : (rest.map fun v => v.category).sum ≤ 8) (hdg : decode cc pc = .ok (.invokestatic index, 3)) (h : x_call o K = some z)
    (kk : ∀ (r : Int32) (H1 : Heap) (locs1 : List Loc) (x1 : XS), xmm D w A s H1 locs1 x1 → narrow rt (.int r) = .int r → K r x1 = some z → W p l e R s m args below meth c H1 locs1 0 0 Q (F0 m (pc + 3) ls (.int r :: rest))) : W p l e R s m args below meth c H locs 0 0 Q (F0 m pc ls st) := by
  refine x_call_el h (fun zc ho h => ?_)
  exact xb_afterI (g0 := F0 m pc ls st) C M (va_runS (As := As) (rest := rest) (xb_fix C) (hM zc H.size ho) ⟨xb_callB C hcode hlink hini hd hrm hR, C.2.2.2.2.1 _ hsta⟩ ⟨xb_blind, xb_pre C M _⟩ rfl rfl hsz hst (lv_room hrest) hdg ⟨Nat.zero_le _, Nat.zero_le _⟩) h kk
theorem xcallI_SN (C : xcx own cc nL D T w A p s m args meth c) (M : xmm D w A s H locs x) (hM : ∀ zc sz, o = some zc → xMetI l y cy mLy rt rm D T w sz As x zc) (hcode : Cond.code y cy mLy (some rt) ∈ xg_big) (hlink : Cond.methodLinkNest own index y host ∈ xg_nest) (hsta : Cond.static y ∈ xg_big) (hini : Cond.initialized y.cls ∈ xg_big) (hd : y.cls ≠ "java/lang/invoke/MethodHandle" ∧ y.cls ≠ "java/lang/invoke/VarHandle" ∧ (parseMethodDescriptor y.desc).map (fun d => d.parameters.length) = some As.length) (hrm : rm.cells = 0 ∧ rm.slots = 0) (hR : rm.frames + 1 ≤ R.frames ∧ 8 + (mLy + 11) + rm.locals ≤ R.locals) (hsz : ls.size = nL) (hst : st = As.reverse ++ rest) (hrest : (rest.map fun v => v.category).sum ≤ 8) (hdg : decode cc pc = .ok (.invokestatic index, 3)) (h : x_call o K = some z)
    (kk : ∀ (r : Int32) (H1 : Heap) (locs1 : List Loc) (x1 : XS), xmm D w A s H1 locs1 x1 → narrow rt (.int r) = .int r → K r x1 = some z → W p l e R s m args below meth c H1 locs1 0 0 Q (F0 m (pc + 3) ls (.int r :: rest))) : W p l e R s m args below meth c H locs 0 0 Q (F0 m pc ls st) := by
  refine x_call_el h (fun zc ho h => ?_)
  exact xb_afterI (g0 := F0 m pc ls st) C M (va_runSN (As := As) (rest := rest) (xb_fix C) (hM zc H.size ho) ⟨xb_callN C hcode hlink hini hd hrm hR, C.2.2.2.2.1 _ hsta, trivial⟩ ⟨xb_blind, xb_pre C M _⟩ rfl rfl hsz hst (lv_room hrest) hdg ⟨Nat.zero_le _, Nat.zero_le _⟩) h kk
end XB
def x_loop0 (B : (XS → XR) → XS → XR) : Nat → XS → XR
  | 0, _ => none
  | n + 1, x => B (x_loop0 B n) x
theorem x_loop0_ind {B : (XS → XR) → XS → XR} {z : Int32 × XS} {P : XS → Prop} (hs : ∀ (g : XS → XR), (∀ (x : XS), g  x = some z → P  x) → ∀ (x : XS), B g  x = some z → P  x) : ∀ (n : Nat) (x : XS), x_loop0 B n  x = some z → P  x
  | 0, _, h => by cases h
  | n + 1, x, h => hs (x_loop0 B n) (x_loop0_ind hs n) x h
def x_loop1 (B : (Int32 → XS → XR) → Int32 → XS → XR) : Nat → Int32 → XS → XR
  | 0, _, _ => none
  | n + 1, i0, x => B (x_loop1 B n) i0 x
theorem x_loop1_ind {B : (Int32 → XS → XR) → Int32 → XS → XR} {z : Int32 × XS} {P : Int32 → XS → Prop} (hs : ∀ (g : Int32 → XS → XR), (∀ (i0 : Int32) (x : XS), g i0 x = some z → P i0 x) → ∀ (i0 : Int32) (x : XS), B g i0 x = some z → P i0 x) : ∀ (n : Nat) (i0 : Int32) (x : XS), x_loop1 B n i0 x = some z → P i0 x
  | 0, _, _, h => by cases h
  | n + 1, i0, x, h => hs (x_loop1 B n) (x_loop1_ind hs n) i0 x h
def x_loop2 (B : (Int32 → Int32 → XS → XR) → Int32 → Int32 → XS → XR) : Nat → Int32 → Int32 → XS → XR
  | 0, _, _, _ => none
  | n + 1, i0, i1, x => B (x_loop2 B n) i0 i1 x
theorem x_loop2_ind {B : (Int32 → Int32 → XS → XR) → Int32 → Int32 → XS → XR} {z : Int32 × XS} {P : Int32 → Int32 → XS → Prop} (hs : ∀ (g : Int32 → Int32 → XS → XR), (∀ (i0 i1 : Int32) (x : XS), g i0 i1 x = some z → P i0 i1 x) → ∀ (i0 i1 : Int32) (x : XS), B g i0 i1 x = some z → P i0 i1 x) : ∀ (n : Nat) (i0 i1 : Int32) (x : XS), x_loop2 B n i0 i1 x = some z → P i0 i1 x
  | 0, _, _, _, h => by cases h
  | n + 1, i0, i1, x, h => hs (x_loop2 B n) (x_loop2_ind hs n) i0 i1 x h
def x_loop3 (B : (Int32 → Int32 → Int32 → XS → XR) → Int32 → Int32 → Int32 → XS → XR) : Nat → Int32 → Int32 → Int32 → XS → XR
  | 0, _, _, _, _ => none
  | n + 1, i0, i1, i2, x => B (x_loop3 B n) i0 i1 i2 x
theorem x_loop3_ind {B : (Int32 → Int32 → Int32 → XS → XR) → Int32 → Int32 → Int32 → XS → XR} {z : Int32 × XS} {P : Int32 → Int32 → Int32 → XS → Prop} (hs : ∀ (g : Int32 → Int32 → Int32 → XS → XR), (∀ (i0 i1 i2 : Int32) (x : XS), g i0 i1 i2 x = some z → P i0 i1 i2 x) → ∀ (i0 i1 i2 : Int32) (x : XS), B g i0 i1 i2 x = some z → P i0 i1 i2 x) : ∀ (n : Nat) (i0 i1 i2 : Int32) (x : XS), x_loop3 B n i0 i1 i2 x = some z → P i0 i1 i2 x
  | 0, _, _, _, _, h => by cases h
  | n + 1, i0, i1, i2, x, h => hs (x_loop3 B n) (x_loop3_ind hs n) i0 i1 i2 x h
def x_loop4 (B : (Int32 → Int32 → Int32 → Int32 → XS → XR) → Int32 → Int32 → Int32 → Int32 → XS → XR) : Nat → Int32 → Int32 → Int32 → Int32 → XS → XR
  | 0, _, _, _, _, _ => none
  | n + 1, i0, i1, i2, i3, x => B (x_loop4 B n) i0 i1 i2 i3 x
theorem x_loop4_ind {B : (Int32 → Int32 → Int32 → Int32 → XS → XR) → Int32 → Int32 → Int32 → Int32 → XS → XR} {z : Int32 × XS} {P : Int32 → Int32 → Int32 → Int32 → XS → Prop} (hs : ∀ (g : Int32 → Int32 → Int32 → Int32 → XS → XR), (∀ (i0 i1 i2 i3 : Int32) (x : XS), g i0 i1 i2 i3 x = some z → P i0 i1 i2 i3 x) → ∀ (i0 i1 i2 i3 : Int32) (x : XS), B g i0 i1 i2 i3 x = some z → P i0 i1 i2 i3 x) : ∀ (n : Nat) (i0 i1 i2 i3 : Int32) (x : XS), x_loop4 B n i0 i1 i2 i3 x = some z → P i0 i1 i2 i3 x
  | 0, _, _, _, _, _, h => by cases h
  | n + 1, i0, i1, i2, i3, x, h => hs (x_loop4 B n) (x_loop4_ind hs n) i0 i1 i2 i3 x h
def x_loop5 (B : (Int32 → Int32 → Int32 → Int32 → Int32 → XS → XR) → Int32 → Int32 → Int32 → Int32 → Int32 → XS → XR) : Nat → Int32 → Int32 → Int32 → Int32 → Int32 → XS → XR
  | 0, _, _, _, _, _, _ => none
  | n + 1, i0, i1, i2, i3, i4, x => B (x_loop5 B n) i0 i1 i2 i3 i4 x
theorem x_loop5_ind {B : (Int32 → Int32 → Int32 → Int32 → Int32 → XS → XR) → Int32 → Int32 → Int32 → Int32 → Int32 → XS → XR} {z : Int32 × XS} {P : Int32 → Int32 → Int32 → Int32 → Int32 → XS → Prop} (hs : ∀ (g : Int32 → Int32 → Int32 → Int32 → Int32 → XS → XR), (∀ (i0 i1 i2 i3 i4 : Int32) (x : XS), g i0 i1 i2 i3 i4 x = some z → P i0 i1 i2 i3 i4 x) → ∀ (i0 i1 i2 i3 i4 : Int32) (x : XS), B g i0 i1 i2 i3 i4 x = some z → P i0 i1 i2 i3 i4 x) : ∀ (n : Nat) (i0 i1 i2 i3 i4 : Int32) (x : XS), x_loop5 B n i0 i1 i2 i3 i4 x = some z → P i0 i1 i2 i3 i4 x
  | 0, _, _, _, _, _, _, h => by cases h
  | n + 1, i0, i1, i2, i3, i4, x, h => hs (x_loop5 B n) (x_loop5_ind hs n) i0 i1 i2 i3 i4 x h
def x_loop6 (B : (Int32 → Int32 → Int32 → Int32 → Int32 → Int32 → XS → XR) → Int32 → Int32 → Int32 → Int32 → Int32 → Int32 → XS → XR) : Nat → Int32 → Int32 → Int32 → Int32 → Int32 → Int32 → XS → XR
  | 0, _, _, _, _, _, _, _ => none
  | n + 1, i0, i1, i2, i3, i4, i5, x => B (x_loop6 B n) i0 i1 i2 i3 i4 i5 x
theorem x_loop6_ind {B : (Int32 → Int32 → Int32 → Int32 → Int32 → Int32 → XS → XR) → Int32 → Int32 → Int32 → Int32 → Int32 → Int32 → XS → XR} {z : Int32 × XS} {P : Int32 → Int32 → Int32 → Int32 → Int32 → Int32 → XS → Prop} (hs : ∀ (g : Int32 → Int32 → Int32 → Int32 → Int32 → Int32 → XS → XR), (∀ (i0 i1 i2 i3 i4 i5 : Int32) (x : XS), g i0 i1 i2 i3 i4 i5 x = some z → P i0 i1 i2 i3 i4 i5 x) → ∀ (i0 i1 i2 i3 i4 i5 : Int32) (x : XS), B g i0 i1 i2 i3 i4 i5 x = some z → P i0 i1 i2 i3 i4 i5 x) : ∀ (n : Nat) (i0 i1 i2 i3 i4 i5 : Int32) (x : XS), x_loop6 B n i0 i1 i2 i3 i4 i5 x = some z → P i0 i1 i2 i3 i4 i5 x
  | 0, _, _, _, _, _, _, _, h => by cases h
  | n + 1, i0, i1, i2, i3, i4, i5, x, h => hs (x_loop6 B n) (x_loop6_ind hs n) i0 i1 i2 i3 i4 i5 x h
def x_loop7 (B : (Int32 → Int32 → Int32 → Int32 → Int32 → Int32 → Int32 → XS → XR) → Int32 → Int32 → Int32 → Int32 → Int32 → Int32 → Int32 → XS → XR) : Nat → Int32 → Int32 → Int32 → Int32 → Int32 → Int32 → Int32 → XS → XR
  | 0, _, _, _, _, _, _, _, _ => none
  | n + 1, i0, i1, i2, i3, i4, i5, i6, x => B (x_loop7 B n) i0 i1 i2 i3 i4 i5 i6 x
theorem x_loop7_ind {B : (Int32 → Int32 → Int32 → Int32 → Int32 → Int32 → Int32 → XS → XR) → Int32 → Int32 → Int32 → Int32 → Int32 → Int32 → Int32 → XS → XR} {z : Int32 × XS} {P : Int32 → Int32 → Int32 → Int32 → Int32 → Int32 → Int32 → XS → Prop} (hs : ∀ (g : Int32 → Int32 → Int32 → Int32 → Int32 → Int32 → Int32 → XS → XR), (∀ (i0 i1 i2 i3 i4 i5 i6 : Int32) (x : XS), g i0 i1 i2 i3 i4 i5 i6 x = some z → P i0 i1 i2 i3 i4 i5 i6 x) → ∀ (i0 i1 i2 i3 i4 i5 i6 : Int32) (x : XS), B g i0 i1 i2 i3 i4 i5 i6 x = some z → P i0 i1 i2 i3 i4 i5 i6 x) : ∀ (n : Nat) (i0 i1 i2 i3 i4 i5 i6 : Int32) (x : XS), x_loop7 B n i0 i1 i2 i3 i4 i5 i6 x = some z → P i0 i1 i2 i3 i4 i5 i6 x
  | 0, _, _, _, _, _, _, _, _, h => by cases h
  | n + 1, i0, i1, i2, i3, i4, i5, i6, x, h => hs (x_loop7 B n) (x_loop7_ind hs n) i0 i1 i2 i3 i4 i5 i6 x h
def x_loop8 (B : (Int32 → Int32 → Int32 → Int32 → Int32 → Int32 → Int32 → Int32 → XS → XR) → Int32 → Int32 → Int32 → Int32 → Int32 → Int32 → Int32 → Int32 → XS → XR) : Nat → Int32 → Int32 → Int32 → Int32 → Int32 → Int32 → Int32 → Int32 → XS → XR
  | 0, _, _, _, _, _, _, _, _, _ => none
  | n + 1, i0, i1, i2, i3, i4, i5, i6, i7, x => B (x_loop8 B n) i0 i1 i2 i3 i4 i5 i6 i7 x
theorem x_loop8_ind {B : (Int32 → Int32 → Int32 → Int32 → Int32 → Int32 → Int32 → Int32 → XS → XR) → Int32 → Int32 → Int32 → Int32 → Int32 → Int32 → Int32 → Int32 → XS → XR} {z : Int32 × XS} {P : Int32 → Int32 → Int32 → Int32 → Int32 → Int32 → Int32 → Int32 → XS → Prop} (hs : ∀ (g : Int32 → Int32 → Int32 → Int32 → Int32 → Int32 → Int32 → Int32 → XS → XR), (∀ (i0 i1 i2 i3 i4 i5 i6 i7 : Int32) (x : XS), g i0 i1 i2 i3 i4 i5 i6 i7 x = some z → P i0 i1 i2 i3 i4 i5 i6 i7 x) → ∀ (i0 i1 i2 i3 i4 i5 i6 i7 : Int32) (x : XS), B g i0 i1 i2 i3 i4 i5 i6 i7 x = some z → P i0 i1 i2 i3 i4 i5 i6 i7 x) : ∀ (n : Nat) (i0 i1 i2 i3 i4 i5 i6 i7 : Int32) (x : XS), x_loop8 B n i0 i1 i2 i3 i4 i5 i6 i7 x = some z → P i0 i1 i2 i3 i4 i5 i6 i7 x
  | 0, _, _, _, _, _, _, _, _, _, h => by cases h
  | n + 1, i0, i1, i2, i3, i4, i5, i6, i7, x, h => hs (x_loop8 B n) (x_loop8_ind hs n) i0 i1 i2 i3 i4 i5 i6 i7 x h
end
