section
-- ===== PART A: goes FIRST, ahead of the names: the tables' words, and 'selects' of the private methods out of them =====
/-- a private method of a class that the tables say can be made, by its rows of tables_1 -/
def lw_okq (q : MethodName × Nat) : Prop := (q.1.cls ≠ "java/lang/invoke/MethodHandle" ∧ q.1.cls ≠ "java/lang/invoke/VarHandle") ∧ Cond.instantiable q.1.cls q.2 ∈ tables_1 ∧ Cond.privateMethod q.1 ∈ tables_1 ∧ Cond.instanceMethod q.1 ∈ tables_1
theorem lw_p0 : lw_okq (⟨"ErrorBudgets$History", "prepare", "(LErrorBudgets$House;)V"⟩, 3) := ⟨⟨by decide +kernel, by decide +kernel⟩, List.mem_of_getElem? (i := 179) (by decide +kernel), List.mem_of_getElem? (i := 261) (by decide +kernel), List.mem_of_getElem? (i := 262) (by decide +kernel)⟩
theorem lw_p1 : lw_okq (⟨"ErrorBudgets$House", "copyFrom", "(LErrorBudgets$House;)V"⟩, 14) := ⟨⟨by decide +kernel, by decide +kernel⟩, List.mem_of_getElem? (i := 23) (by decide +kernel), List.mem_of_getElem? (i := 265) (by decide +kernel), List.mem_of_getElem? (i := 266) (by decide +kernel)⟩
theorem lw_p2 : lw_okq (⟨"ErrorBudgets$Loans", "copyFrom", "(LErrorBudgets$Loans;)V"⟩, 6) := ⟨⟨by decide +kernel, by decide +kernel⟩, List.mem_of_getElem? (i := 38) (by decide +kernel), List.mem_of_getElem? (i := 272) (by decide +kernel), List.mem_of_getElem? (i := 273) (by decide +kernel)⟩
theorem lw_p3 : lw_okq (⟨"ErrorBudgets$Plans", "copyFrom", "(LErrorBudgets$Plans;)V"⟩, 9) := ⟨⟨by decide +kernel, by decide +kernel⟩, List.mem_of_getElem? (i := 76) (by decide +kernel), List.mem_of_getElem? (i := 277) (by decide +kernel), List.mem_of_getElem? (i := 278) (by decide +kernel)⟩
theorem lw_p4 : lw_okq (⟨"ErrorBudgets$Plans", "watch", "(I)V"⟩, 9) := ⟨⟨by decide +kernel, by decide +kernel⟩, List.mem_of_getElem? (i := 76) (by decide +kernel), List.mem_of_getElem? (i := 282) (by decide +kernel), List.mem_of_getElem? (i := 283) (by decide +kernel)⟩
theorem lw_p5 : lw_okq (⟨"ErrorBudgets$History", "keep", "(I)I"⟩, 3) := ⟨⟨by decide +kernel, by decide +kernel⟩, List.mem_of_getElem? (i := 179) (by decide +kernel), List.mem_of_getElem? (i := 286) (by decide +kernel), List.mem_of_getElem? (i := 287) (by decide +kernel)⟩
theorem lw_p6 : lw_okq (⟨"ErrorBudgets$House", "addService", "(I)I"⟩, 14) := ⟨⟨by decide +kernel, by decide +kernel⟩, List.mem_of_getElem? (i := 23) (by decide +kernel), List.mem_of_getElem? (i := 294) (by decide +kernel), List.mem_of_getElem? (i := 295) (by decide +kernel)⟩
theorem lw_p7 : lw_okq (⟨"ErrorBudgets$House", "book", "(IIJ)V"⟩, 14) := ⟨⟨by decide +kernel, by decide +kernel⟩, List.mem_of_getElem? (i := 23) (by decide +kernel), List.mem_of_getElem? (i := 298) (by decide +kernel), List.mem_of_getElem? (i := 299) (by decide +kernel)⟩
theorem lw_p8 : lw_okq (⟨"ErrorBudgets$House", "enter", "(IIJ)V"⟩, 14) := ⟨⟨by decide +kernel, by decide +kernel⟩, List.mem_of_getElem? (i := 23) (by decide +kernel), List.mem_of_getElem? (i := 302) (by decide +kernel), List.mem_of_getElem? (i := 303) (by decide +kernel)⟩
theorem lw_p9 : lw_okq (⟨"ErrorBudgets$House", "minutesOf", "(II)J"⟩, 14) := ⟨⟨by decide +kernel, by decide +kernel⟩, List.mem_of_getElem? (i := 23) (by decide +kernel), List.mem_of_getElem? (i := 306) (by decide +kernel), List.mem_of_getElem? (i := 307) (by decide +kernel)⟩
theorem lw_p10 : lw_okq (⟨"ErrorBudgets$House", "isFrozen", "(I)Z"⟩, 14) := ⟨⟨by decide +kernel, by decide +kernel⟩, List.mem_of_getElem? (i := 23) (by decide +kernel), List.mem_of_getElem? (i := 310) (by decide +kernel), List.mem_of_getElem? (i := 311) (by decide +kernel)⟩
theorem lw_p11 : lw_okq (⟨"ErrorBudgets$House", "thawLimit", "(I)I"⟩, 14) := ⟨⟨by decide +kernel, by decide +kernel⟩, List.mem_of_getElem? (i := 23) (by decide +kernel), List.mem_of_getElem? (i := 314) (by decide +kernel), List.mem_of_getElem? (i := 315) (by decide +kernel)⟩
theorem lw_p12 : lw_okq (⟨"ErrorBudgets$House", "hasService", "(I)Z"⟩, 14) := ⟨⟨by decide +kernel, by decide +kernel⟩, List.mem_of_getElem? (i := 23) (by decide +kernel), List.mem_of_getElem? (i := 322) (by decide +kernel), List.mem_of_getElem? (i := 323) (by decide +kernel)⟩
theorem lw_p13 : lw_okq (⟨"ErrorBudgets", "sufferOutage", "(III)I"⟩, 7) := ⟨⟨by decide +kernel, by decide +kernel⟩, List.mem_of_getElem? (i := 15) (by decide +kernel), List.mem_of_getElem? (i := 330) (by decide +kernel), List.mem_of_getElem? (i := 331) (by decide +kernel)⟩
theorem lw_p14 : lw_okq (⟨"ErrorBudgets", "tryRelease", "(III)I"⟩, 7) := ⟨⟨by decide +kernel, by decide +kernel⟩, List.mem_of_getElem? (i := 15) (by decide +kernel), List.mem_of_getElem? (i := 340) (by decide +kernel), List.mem_of_getElem? (i := 341) (by decide +kernel)⟩
theorem lw_p15 : lw_okq (⟨"ErrorBudgets", "refuse", "(I)I"⟩, 7) := ⟨⟨by decide +kernel, by decide +kernel⟩, List.mem_of_getElem? (i := 15) (by decide +kernel), List.mem_of_getElem? (i := 344) (by decide +kernel), List.mem_of_getElem? (i := 345) (by decide +kernel)⟩
def lw_privs_1 : List (MethodName × Nat) := [(⟨"ErrorBudgets$History", "prepare", "(LErrorBudgets$House;)V"⟩, 3), (⟨"ErrorBudgets$House", "copyFrom", "(LErrorBudgets$House;)V"⟩, 14), (⟨"ErrorBudgets$Loans", "copyFrom", "(LErrorBudgets$Loans;)V"⟩, 6), (⟨"ErrorBudgets$Plans", "copyFrom", "(LErrorBudgets$Plans;)V"⟩, 9), (⟨"ErrorBudgets$Plans", "watch", "(I)V"⟩, 9), (⟨"ErrorBudgets$History", "keep", "(I)I"⟩, 3), (⟨"ErrorBudgets$House", "addService", "(I)I"⟩, 14), (⟨"ErrorBudgets$House", "book", "(IIJ)V"⟩, 14), (⟨"ErrorBudgets$House", "enter", "(IIJ)V"⟩, 14), (⟨"ErrorBudgets$House", "minutesOf", "(II)J"⟩, 14), (⟨"ErrorBudgets$House", "isFrozen", "(I)Z"⟩, 14), (⟨"ErrorBudgets$House", "thawLimit", "(I)I"⟩, 14), (⟨"ErrorBudgets$House", "hasService", "(I)Z"⟩, 14), (⟨"ErrorBudgets", "sufferOutage", "(III)I"⟩, 7), (⟨"ErrorBudgets", "tryRelease", "(III)I"⟩, 7), (⟨"ErrorBudgets", "refuse", "(I)I"⟩, 7)]
theorem lw_r1 : ∀ q ∈ lw_privs_1, lw_okq q := List.forall_mem_cons.mpr ⟨lw_p0, List.forall_mem_cons.mpr ⟨lw_p1, List.forall_mem_cons.mpr ⟨lw_p2, List.forall_mem_cons.mpr ⟨lw_p3, List.forall_mem_cons.mpr ⟨lw_p4, List.forall_mem_cons.mpr ⟨lw_p5, List.forall_mem_cons.mpr ⟨lw_p6, List.forall_mem_cons.mpr ⟨lw_p7, List.forall_mem_cons.mpr ⟨lw_p8, List.forall_mem_cons.mpr ⟨lw_p9, List.forall_mem_cons.mpr ⟨lw_p10, List.forall_mem_cons.mpr ⟨lw_p11, List.forall_mem_cons.mpr ⟨lw_p12, List.forall_mem_cons.mpr ⟨lw_p13, List.forall_mem_cons.mpr ⟨lw_p14, List.forall_mem_cons.mpr ⟨lw_p15, fun _ h => absurd h List.not_mem_nil⟩⟩⟩⟩⟩⟩⟩⟩⟩⟩⟩⟩⟩⟩⟩⟩
theorem lw_p16 : lw_okq (⟨"ErrorBudgets$House", "doRelease", "(II)V"⟩, 14) := ⟨⟨by decide +kernel, by decide +kernel⟩, List.mem_of_getElem? (i := 23) (by decide +kernel), List.mem_of_getElem? (i := 348) (by decide +kernel), List.mem_of_getElem? (i := 349) (by decide +kernel)⟩
theorem lw_p17 : lw_okq (⟨"ErrorBudgets", "tryLoan", "(IIII)I"⟩, 7) := ⟨⟨by decide +kernel, by decide +kernel⟩, List.mem_of_getElem? (i := 15) (by decide +kernel), List.mem_of_getElem? (i := 356) (by decide +kernel), List.mem_of_getElem? (i := 357) (by decide +kernel)⟩
theorem lw_p18 : lw_okq (⟨"ErrorBudgets$House", "refusalOfLoan", "(III)I"⟩, 14) := ⟨⟨by decide +kernel, by decide +kernel⟩, List.mem_of_getElem? (i := 23) (by decide +kernel), List.mem_of_getElem? (i := 360) (by decide +kernel), List.mem_of_getElem? (i := 361) (by decide +kernel)⟩
theorem lw_p19 : lw_okq (⟨"ErrorBudgets$Loans", "countWith", "([II)I"⟩, 6) := ⟨⟨by decide +kernel, by decide +kernel⟩, List.mem_of_getElem? (i := 38) (by decide +kernel), List.mem_of_getElem? (i := 364) (by decide +kernel), List.mem_of_getElem? (i := 365) (by decide +kernel)⟩
theorem lw_p20 : lw_okq (⟨"ErrorBudgets$House", "addLoan", "(IIII)I"⟩, 14) := ⟨⟨by decide +kernel, by decide +kernel⟩, List.mem_of_getElem? (i := 23) (by decide +kernel), List.mem_of_getElem? (i := 368) (by decide +kernel), List.mem_of_getElem? (i := 369) (by decide +kernel)⟩
theorem lw_p21 : lw_okq (⟨"ErrorBudgets$Loans", "add", "(IIIII)I"⟩, 6) := ⟨⟨by decide +kernel, by decide +kernel⟩, List.mem_of_getElem? (i := 38) (by decide +kernel), List.mem_of_getElem? (i := 372) (by decide +kernel), List.mem_of_getElem? (i := 373) (by decide +kernel)⟩
theorem lw_p22 : lw_okq (⟨"ErrorBudgets$Loans", "has", "(I)Z"⟩, 6) := ⟨⟨by decide +kernel, by decide +kernel⟩, List.mem_of_getElem? (i := 38) (by decide +kernel), List.mem_of_getElem? (i := 380) (by decide +kernel), List.mem_of_getElem? (i := 381) (by decide +kernel)⟩
theorem lw_p23 : lw_okq (⟨"ErrorBudgets$House", "payBack", "(I)V"⟩, 14) := ⟨⟨by decide +kernel, by decide +kernel⟩, List.mem_of_getElem? (i := 23) (by decide +kernel), List.mem_of_getElem? (i := 384) (by decide +kernel), List.mem_of_getElem? (i := 385) (by decide +kernel)⟩
theorem lw_p24 : lw_okq (⟨"ErrorBudgets$Loans", "removePaid", "()V"⟩, 6) := ⟨⟨by decide +kernel, by decide +kernel⟩, List.mem_of_getElem? (i := 38) (by decide +kernel), List.mem_of_getElem? (i := 391) (by decide +kernel), List.mem_of_getElem? (i := 392) (by decide +kernel)⟩
theorem lw_p25 : lw_okq (⟨"ErrorBudgets", "addPlan", "(IIII)I"⟩, 7) := ⟨⟨by decide +kernel, by decide +kernel⟩, List.mem_of_getElem? (i := 15) (by decide +kernel), List.mem_of_getElem? (i := 399) (by decide +kernel), List.mem_of_getElem? (i := 400) (by decide +kernel)⟩
theorem lw_p26 : lw_okq (⟨"ErrorBudgets$Plans", "add", "(IIII)I"⟩, 9) := ⟨⟨by decide +kernel, by decide +kernel⟩, List.mem_of_getElem? (i := 76) (by decide +kernel), List.mem_of_getElem? (i := 403) (by decide +kernel), List.mem_of_getElem? (i := 404) (by decide +kernel)⟩
theorem lw_p27 : lw_okq (⟨"ErrorBudgets$Plans", "arrange", "()V"⟩, 9) := ⟨⟨by decide +kernel, by decide +kernel⟩, List.mem_of_getElem? (i := 76) (by decide +kernel), List.mem_of_getElem? (i := 407) (by decide +kernel), List.mem_of_getElem? (i := 408) (by decide +kernel)⟩
theorem lw_p28 : lw_okq (⟨"ErrorBudgets$Plans", "isBefore", "(II)Z"⟩, 9) := ⟨⟨by decide +kernel, by decide +kernel⟩, List.mem_of_getElem? (i := 76) (by decide +kernel), List.mem_of_getElem? (i := 411) (by decide +kernel), List.mem_of_getElem? (i := 412) (by decide +kernel)⟩
theorem lw_p29 : lw_okq (⟨"ErrorBudgets", "removePlan", "(I)I"⟩, 7) := ⟨⟨by decide +kernel, by decide +kernel⟩, List.mem_of_getElem? (i := 15) (by decide +kernel), List.mem_of_getElem? (i := 419) (by decide +kernel), List.mem_of_getElem? (i := 420) (by decide +kernel)⟩
theorem lw_p30 : lw_okq (⟨"ErrorBudgets$Plans", "has", "(I)Z"⟩, 9) := ⟨⟨by decide +kernel, by decide +kernel⟩, List.mem_of_getElem? (i := 76) (by decide +kernel), List.mem_of_getElem? (i := 423) (by decide +kernel), List.mem_of_getElem? (i := 424) (by decide +kernel)⟩
theorem lw_p31 : lw_okq (⟨"ErrorBudgets$Plans", "removeEnded", "()V"⟩, 9) := ⟨⟨by decide +kernel, by decide +kernel⟩, List.mem_of_getElem? (i := 76) (by decide +kernel), List.mem_of_getElem? (i := 427) (by decide +kernel), List.mem_of_getElem? (i := 428) (by decide +kernel)⟩
def lw_privs_2 : List (MethodName × Nat) := [(⟨"ErrorBudgets$House", "doRelease", "(II)V"⟩, 14), (⟨"ErrorBudgets", "tryLoan", "(IIII)I"⟩, 7), (⟨"ErrorBudgets$House", "refusalOfLoan", "(III)I"⟩, 14), (⟨"ErrorBudgets$Loans", "countWith", "([II)I"⟩, 6), (⟨"ErrorBudgets$House", "addLoan", "(IIII)I"⟩, 14), (⟨"ErrorBudgets$Loans", "add", "(IIIII)I"⟩, 6), (⟨"ErrorBudgets$Loans", "has", "(I)Z"⟩, 6), (⟨"ErrorBudgets$House", "payBack", "(I)V"⟩, 14), (⟨"ErrorBudgets$Loans", "removePaid", "()V"⟩, 6), (⟨"ErrorBudgets", "addPlan", "(IIII)I"⟩, 7), (⟨"ErrorBudgets$Plans", "add", "(IIII)I"⟩, 9), (⟨"ErrorBudgets$Plans", "arrange", "()V"⟩, 9), (⟨"ErrorBudgets$Plans", "isBefore", "(II)Z"⟩, 9), (⟨"ErrorBudgets", "removePlan", "(I)I"⟩, 7), (⟨"ErrorBudgets$Plans", "has", "(I)Z"⟩, 9), (⟨"ErrorBudgets$Plans", "removeEnded", "()V"⟩, 9)]
theorem lw_r2 : ∀ q ∈ lw_privs_2, lw_okq q := List.forall_mem_cons.mpr ⟨lw_p16, List.forall_mem_cons.mpr ⟨lw_p17, List.forall_mem_cons.mpr ⟨lw_p18, List.forall_mem_cons.mpr ⟨lw_p19, List.forall_mem_cons.mpr ⟨lw_p20, List.forall_mem_cons.mpr ⟨lw_p21, List.forall_mem_cons.mpr ⟨lw_p22, List.forall_mem_cons.mpr ⟨lw_p23, List.forall_mem_cons.mpr ⟨lw_p24, List.forall_mem_cons.mpr ⟨lw_p25, List.forall_mem_cons.mpr ⟨lw_p26, List.forall_mem_cons.mpr ⟨lw_p27, List.forall_mem_cons.mpr ⟨lw_p28, List.forall_mem_cons.mpr ⟨lw_p29, List.forall_mem_cons.mpr ⟨lw_p30, List.forall_mem_cons.mpr ⟨lw_p31, fun _ h => absurd h List.not_mem_nil⟩⟩⟩⟩⟩⟩⟩⟩⟩⟩⟩⟩⟩⟩⟩⟩
theorem lw_p32 : lw_okq (⟨"ErrorBudgets$Plans", "move", "(II)V"⟩, 9) := ⟨⟨by decide +kernel, by decide +kernel⟩, List.mem_of_getElem? (i := 76) (by decide +kernel), List.mem_of_getElem? (i := 431) (by decide +kernel), List.mem_of_getElem? (i := 432) (by decide +kernel)⟩
theorem lw_p33 : lw_okq (⟨"ErrorBudgets$House", "letPass", "(I)I"⟩, 14) := ⟨⟨by decide +kernel, by decide +kernel⟩, List.mem_of_getElem? (i := 23) (by decide +kernel), List.mem_of_getElem? (i := 439) (by decide +kernel), List.mem_of_getElem? (i := 440) (by decide +kernel)⟩
theorem lw_p34 : lw_okq (⟨"ErrorBudgets$House", "beginWindow", "()V"⟩, 14) := ⟨⟨by decide +kernel, by decide +kernel⟩, List.mem_of_getElem? (i := 23) (by decide +kernel), List.mem_of_getElem? (i := 444) (by decide +kernel), List.mem_of_getElem? (i := 445) (by decide +kernel)⟩
theorem lw_p35 : lw_okq (⟨"ErrorBudgets$House", "payDueLoans", "()V"⟩, 14) := ⟨⟨by decide +kernel, by decide +kernel⟩, List.mem_of_getElem? (i := 23) (by decide +kernel), List.mem_of_getElem? (i := 452) (by decide +kernel), List.mem_of_getElem? (i := 453) (by decide +kernel)⟩
theorem lw_p36 : lw_okq (⟨"ErrorBudgets$House", "takePlans", "()V"⟩, 14) := ⟨⟨by decide +kernel, by decide +kernel⟩, List.mem_of_getElem? (i := 23) (by decide +kernel), List.mem_of_getElem? (i := 462) (by decide +kernel), List.mem_of_getElem? (i := 463) (by decide +kernel)⟩
theorem lw_p37 : lw_okq (⟨"ErrorBudgets$House", "fateOf", "(I)I"⟩, 14) := ⟨⟨by decide +kernel, by decide +kernel⟩, List.mem_of_getElem? (i := 23) (by decide +kernel), List.mem_of_getElem? (i := 466) (by decide +kernel), List.mem_of_getElem? (i := 467) (by decide +kernel)⟩
theorem lw_p38 : lw_okq (⟨"ErrorBudgets$Loans", "owedWith", "([II)I"⟩, 6) := ⟨⟨by decide +kernel, by decide +kernel⟩, List.mem_of_getElem? (i := 38) (by decide +kernel), List.mem_of_getElem? (i := 477) (by decide +kernel), List.mem_of_getElem? (i := 478) (by decide +kernel)⟩
theorem lw_p39 : lw_okq (⟨"ErrorBudgets$Plans", "countWith", "(I)I"⟩, 9) := ⟨⟨by decide +kernel, by decide +kernel⟩, List.mem_of_getElem? (i := 76) (by decide +kernel), List.mem_of_getElem? (i := 481) (by decide +kernel), List.mem_of_getElem? (i := 482) (by decide +kernel)⟩
theorem lw_p40 : lw_okq (⟨"ErrorBudgets", "hoursUntil", "(IZ)I"⟩, 7) := ⟨⟨by decide +kernel, by decide +kernel⟩, List.mem_of_getElem? (i := 15) (by decide +kernel), List.mem_of_getElem? (i := 513) (by decide +kernel), List.mem_of_getElem? (i := 514) (by decide +kernel)⟩
theorem lw_p41 : lw_okq (⟨"ErrorBudgets$Pad", "append", "(I)V"⟩, 6) := ⟨⟨by decide +kernel, by decide +kernel⟩, List.mem_of_getElem? (i := 199) (by decide +kernel), List.mem_of_getElem? (i := 552) (by decide +kernel), List.mem_of_getElem? (i := 553) (by decide +kernel)⟩
theorem lw_p42 : lw_okq (⟨"ErrorBudgets$Pad", "readOrders", "()I"⟩, 6) := ⟨⟨by decide +kernel, by decide +kernel⟩, List.mem_of_getElem? (i := 199) (by decide +kernel), List.mem_of_getElem? (i := 564) (by decide +kernel), List.mem_of_getElem? (i := 565) (by decide +kernel)⟩
theorem lw_p43 : lw_okq (⟨"ErrorBudgets$Pad", "readOrder", "()Z"⟩, 6) := ⟨⟨by decide +kernel, by decide +kernel⟩, List.mem_of_getElem? (i := 199) (by decide +kernel), List.mem_of_getElem? (i := 568) (by decide +kernel), List.mem_of_getElem? (i := 569) (by decide +kernel)⟩
theorem lw_p44 : lw_okq (⟨"ErrorBudgets$Pad", "signHere", "()C"⟩, 6) := ⟨⟨by decide +kernel, by decide +kernel⟩, List.mem_of_getElem? (i := 199) (by decide +kernel), List.mem_of_getElem? (i := 572) (by decide +kernel), List.mem_of_getElem? (i := 573) (by decide +kernel)⟩
theorem lw_p45 : lw_okq (⟨"ErrorBudgets$Pad", "readPart", "(C)I"⟩, 6) := ⟨⟨by decide +kernel, by decide +kernel⟩, List.mem_of_getElem? (i := 199) (by decide +kernel), List.mem_of_getElem? (i := 637) (by decide +kernel), List.mem_of_getElem? (i := 638) (by decide +kernel)⟩
theorem lw_p46 : lw_okq (⟨"ErrorBudgets$Pad", "readDigit", "(C)I"⟩, 6) := ⟨⟨by decide +kernel, by decide +kernel⟩, List.mem_of_getElem? (i := 199) (by decide +kernel), List.mem_of_getElem? (i := 641) (by decide +kernel), List.mem_of_getElem? (i := 642) (by decide +kernel)⟩
theorem lw_p47 : lw_okq (⟨"ErrorBudgets$Pad", "readNumber", "()I"⟩, 6) := ⟨⟨by decide +kernel, by decide +kernel⟩, List.mem_of_getElem? (i := 199) (by decide +kernel), List.mem_of_getElem? (i := 645) (by decide +kernel), List.mem_of_getElem? (i := 646) (by decide +kernel)⟩
def lw_privs_3 : List (MethodName × Nat) := [(⟨"ErrorBudgets$Plans", "move", "(II)V"⟩, 9), (⟨"ErrorBudgets$House", "letPass", "(I)I"⟩, 14), (⟨"ErrorBudgets$House", "beginWindow", "()V"⟩, 14), (⟨"ErrorBudgets$House", "payDueLoans", "()V"⟩, 14), (⟨"ErrorBudgets$House", "takePlans", "()V"⟩, 14), (⟨"ErrorBudgets$House", "fateOf", "(I)I"⟩, 14), (⟨"ErrorBudgets$Loans", "owedWith", "([II)I"⟩, 6), (⟨"ErrorBudgets$Plans", "countWith", "(I)I"⟩, 9), (⟨"ErrorBudgets", "hoursUntil", "(IZ)I"⟩, 7), (⟨"ErrorBudgets$Pad", "append", "(I)V"⟩, 6), (⟨"ErrorBudgets$Pad", "readOrders", "()I"⟩, 6), (⟨"ErrorBudgets$Pad", "readOrder", "()Z"⟩, 6), (⟨"ErrorBudgets$Pad", "signHere", "()C"⟩, 6), (⟨"ErrorBudgets$Pad", "readPart", "(C)I"⟩, 6), (⟨"ErrorBudgets$Pad", "readDigit", "(C)I"⟩, 6), (⟨"ErrorBudgets$Pad", "readNumber", "()I"⟩, 6)]
theorem lw_r3 : ∀ q ∈ lw_privs_3, lw_okq q := List.forall_mem_cons.mpr ⟨lw_p32, List.forall_mem_cons.mpr ⟨lw_p33, List.forall_mem_cons.mpr ⟨lw_p34, List.forall_mem_cons.mpr ⟨lw_p35, List.forall_mem_cons.mpr ⟨lw_p36, List.forall_mem_cons.mpr ⟨lw_p37, List.forall_mem_cons.mpr ⟨lw_p38, List.forall_mem_cons.mpr ⟨lw_p39, List.forall_mem_cons.mpr ⟨lw_p40, List.forall_mem_cons.mpr ⟨lw_p41, List.forall_mem_cons.mpr ⟨lw_p42, List.forall_mem_cons.mpr ⟨lw_p43, List.forall_mem_cons.mpr ⟨lw_p44, List.forall_mem_cons.mpr ⟨lw_p45, List.forall_mem_cons.mpr ⟨lw_p46, List.forall_mem_cons.mpr ⟨lw_p47, fun _ h => absurd h List.not_mem_nil⟩⟩⟩⟩⟩⟩⟩⟩⟩⟩⟩⟩⟩⟩⟩⟩
theorem lw_p48 : lw_okq (⟨"ErrorBudgets$Pad", "readSign", "(C)Z"⟩, 6) := ⟨⟨by decide +kernel, by decide +kernel⟩, List.mem_of_getElem? (i := 199) (by decide +kernel), List.mem_of_getElem? (i := 649) (by decide +kernel), List.mem_of_getElem? (i := 650) (by decide +kernel)⟩
theorem lw_p49 : lw_okq (⟨"ErrorBudgets", "obey", "(I)I"⟩, 7) := ⟨⟨by decide +kernel, by decide +kernel⟩, List.mem_of_getElem? (i := 15) (by decide +kernel), List.mem_of_getElem? (i := 661) (by decide +kernel), List.mem_of_getElem? (i := 662) (by decide +kernel)⟩
theorem lw_p50 : lw_okq (⟨"ErrorBudgets$Pad", "valueOf", "(II)I"⟩, 6) := ⟨⟨by decide +kernel, by decide +kernel⟩, List.mem_of_getElem? (i := 199) (by decide +kernel), List.mem_of_getElem? (i := 665) (by decide +kernel), List.mem_of_getElem? (i := 666) (by decide +kernel)⟩
theorem lw_p51 : lw_okq (⟨"ErrorBudgets$Pad", "kindOf", "(I)C"⟩, 6) := ⟨⟨by decide +kernel, by decide +kernel⟩, List.mem_of_getElem? (i := 199) (by decide +kernel), List.mem_of_getElem? (i := 669) (by decide +kernel), List.mem_of_getElem? (i := 670) (by decide +kernel)⟩
theorem lw_p52 : lw_okq (⟨"ErrorBudgets$History", "takeLatest", "()LErrorBudgets$House;"⟩, 3) := ⟨⟨by decide +kernel, by decide +kernel⟩, List.mem_of_getElem? (i := 179) (by decide +kernel), List.mem_of_getElem? (i := 677) (by decide +kernel), List.mem_of_getElem? (i := 678) (by decide +kernel)⟩
theorem lw_p53 : lw_okq (⟨"ErrorBudgetsModel", "copy", "(II)V"⟩, 14) := ⟨⟨by decide +kernel, by decide +kernel⟩, List.mem_of_getElem? (i := 692) (by decide +kernel), List.mem_of_getElem? (i := 751) (by decide +kernel), List.mem_of_getElem? (i := 752) (by decide +kernel)⟩
theorem lw_p54 : lw_okq (⟨"ErrorBudgetsModel", "number", "(I)I"⟩, 14) := ⟨⟨by decide +kernel, by decide +kernel⟩, List.mem_of_getElem? (i := 692) (by decide +kernel), List.mem_of_getElem? (i := 762) (by decide +kernel), List.mem_of_getElem? (i := 763) (by decide +kernel)⟩
theorem lw_p55 : lw_okq (⟨"ErrorBudgetsModel", "record", "()V"⟩, 14) := ⟨⟨by decide +kernel, by decide +kernel⟩, List.mem_of_getElem? (i := 692) (by decide +kernel), List.mem_of_getElem? (i := 770) (by decide +kernel), List.mem_of_getElem? (i := 771) (by decide +kernel)⟩
theorem lw_p56 : lw_okq (⟨"ErrorBudgetsModel", "isService", "(I)Z"⟩, 14) := ⟨⟨by decide +kernel, by decide +kernel⟩, List.mem_of_getElem? (i := 692) (by decide +kernel), List.mem_of_getElem? (i := 803) (by decide +kernel), List.mem_of_getElem? (i := 804) (by decide +kernel)⟩
theorem lw_p57 : lw_okq (⟨"ErrorBudgetsModel", "noOutage", "(III)I"⟩, 14) := ⟨⟨by decide +kernel, by decide +kernel⟩, List.mem_of_getElem? (i := 692) (by decide +kernel), List.mem_of_getElem? (i := 811) (by decide +kernel), List.mem_of_getElem? (i := 812) (by decide +kernel)⟩
theorem lw_p58 : lw_okq (⟨"ErrorBudgetsModel", "doOutage", "(III)I"⟩, 14) := ⟨⟨by decide +kernel, by decide +kernel⟩, List.mem_of_getElem? (i := 692) (by decide +kernel), List.mem_of_getElem? (i := 816) (by decide +kernel), List.mem_of_getElem? (i := 817) (by decide +kernel)⟩
theorem lw_p59 : lw_okq (⟨"ErrorBudgetsModel", "change", "(IJ)V"⟩, 14) := ⟨⟨by decide +kernel, by decide +kernel⟩, List.mem_of_getElem? (i := 692) (by decide +kernel), List.mem_of_getElem? (i := 820) (by decide +kernel), List.mem_of_getElem? (i := 821) (by decide +kernel)⟩
theorem lw_p60 : lw_okq (⟨"ErrorBudgetsModel", "left", "(I)J"⟩, 14) := ⟨⟨by decide +kernel, by decide +kernel⟩, List.mem_of_getElem? (i := 692) (by decide +kernel), List.mem_of_getElem? (i := 824) (by decide +kernel), List.mem_of_getElem? (i := 825) (by decide +kernel)⟩
theorem lw_p61 : lw_okq (⟨"ErrorBudgetsModel", "isFrozen", "(I)Z"⟩, 14) := ⟨⟨by decide +kernel, by decide +kernel⟩, List.mem_of_getElem? (i := 692) (by decide +kernel), List.mem_of_getElem? (i := 828) (by decide +kernel), List.mem_of_getElem? (i := 829) (by decide +kernel)⟩
theorem lw_p62 : lw_okq (⟨"ErrorBudgetsModel", "thawing", "(I)J"⟩, 14) := ⟨⟨by decide +kernel, by decide +kernel⟩, List.mem_of_getElem? (i := 692) (by decide +kernel), List.mem_of_getElem? (i := 832) (by decide +kernel), List.mem_of_getElem? (i := 833) (by decide +kernel)⟩
theorem lw_p63 : lw_okq (⟨"ErrorBudgetsModel", "noRelease", "(III)I"⟩, 14) := ⟨⟨by decide +kernel, by decide +kernel⟩, List.mem_of_getElem? (i := 692) (by decide +kernel), List.mem_of_getElem? (i := 840) (by decide +kernel), List.mem_of_getElem? (i := 841) (by decide +kernel)⟩
def lw_privs_4 : List (MethodName × Nat) := [(⟨"ErrorBudgets$Pad", "readSign", "(C)Z"⟩, 6), (⟨"ErrorBudgets", "obey", "(I)I"⟩, 7), (⟨"ErrorBudgets$Pad", "valueOf", "(II)I"⟩, 6), (⟨"ErrorBudgets$Pad", "kindOf", "(I)C"⟩, 6), (⟨"ErrorBudgets$History", "takeLatest", "()LErrorBudgets$House;"⟩, 3), (⟨"ErrorBudgetsModel", "copy", "(II)V"⟩, 14), (⟨"ErrorBudgetsModel", "number", "(I)I"⟩, 14), (⟨"ErrorBudgetsModel", "record", "()V"⟩, 14), (⟨"ErrorBudgetsModel", "isService", "(I)Z"⟩, 14), (⟨"ErrorBudgetsModel", "noOutage", "(III)I"⟩, 14), (⟨"ErrorBudgetsModel", "doOutage", "(III)I"⟩, 14), (⟨"ErrorBudgetsModel", "change", "(IJ)V"⟩, 14), (⟨"ErrorBudgetsModel", "left", "(I)J"⟩, 14), (⟨"ErrorBudgetsModel", "isFrozen", "(I)Z"⟩, 14), (⟨"ErrorBudgetsModel", "thawing", "(I)J"⟩, 14), (⟨"ErrorBudgetsModel", "noRelease", "(III)I"⟩, 14)]
theorem lw_r4 : ∀ q ∈ lw_privs_4, lw_okq q := List.forall_mem_cons.mpr ⟨lw_p48, List.forall_mem_cons.mpr ⟨lw_p49, List.forall_mem_cons.mpr ⟨lw_p50, List.forall_mem_cons.mpr ⟨lw_p51, List.forall_mem_cons.mpr ⟨lw_p52, List.forall_mem_cons.mpr ⟨lw_p53, List.forall_mem_cons.mpr ⟨lw_p54, List.forall_mem_cons.mpr ⟨lw_p55, List.forall_mem_cons.mpr ⟨lw_p56, List.forall_mem_cons.mpr ⟨lw_p57, List.forall_mem_cons.mpr ⟨lw_p58, List.forall_mem_cons.mpr ⟨lw_p59, List.forall_mem_cons.mpr ⟨lw_p60, List.forall_mem_cons.mpr ⟨lw_p61, List.forall_mem_cons.mpr ⟨lw_p62, List.forall_mem_cons.mpr ⟨lw_p63, fun _ h => absurd h List.not_mem_nil⟩⟩⟩⟩⟩⟩⟩⟩⟩⟩⟩⟩⟩⟩⟩⟩
theorem lw_p64 : lw_okq (⟨"ErrorBudgetsModel", "refuse", "(I)I"⟩, 14) := ⟨⟨by decide +kernel, by decide +kernel⟩, List.mem_of_getElem? (i := 692) (by decide +kernel), List.mem_of_getElem? (i := 845) (by decide +kernel), List.mem_of_getElem? (i := 846) (by decide +kernel)⟩
theorem lw_p65 : lw_okq (⟨"ErrorBudgetsModel", "doRelease", "(II)I"⟩, 14) := ⟨⟨by decide +kernel, by decide +kernel⟩, List.mem_of_getElem? (i := 692) (by decide +kernel), List.mem_of_getElem? (i := 849) (by decide +kernel), List.mem_of_getElem? (i := 850) (by decide +kernel)⟩
theorem lw_p66 : lw_okq (⟨"ErrorBudgetsModel", "spend", "(IJ)V"⟩, 14) := ⟨⟨by decide +kernel, by decide +kernel⟩, List.mem_of_getElem? (i := 692) (by decide +kernel), List.mem_of_getElem? (i := 853) (by decide +kernel), List.mem_of_getElem? (i := 854) (by decide +kernel)⟩
theorem lw_p67 : lw_okq (⟨"ErrorBudgetsModel", "noLend", "(IIII)I"⟩, 14) := ⟨⟨by decide +kernel, by decide +kernel⟩, List.mem_of_getElem? (i := 692) (by decide +kernel), List.mem_of_getElem? (i := 861) (by decide +kernel), List.mem_of_getElem? (i := 862) (by decide +kernel)⟩
theorem lw_p68 : lw_okq (⟨"ErrorBudgetsModel", "whyNot", "(III)I"⟩, 14) := ⟨⟨by decide +kernel, by decide +kernel⟩, List.mem_of_getElem? (i := 692) (by decide +kernel), List.mem_of_getElem? (i := 867) (by decide +kernel), List.mem_of_getElem? (i := 868) (by decide +kernel)⟩
theorem lw_p69 : lw_okq (⟨"ErrorBudgetsModel", "loansOf", "(II)I"⟩, 14) := ⟨⟨by decide +kernel, by decide +kernel⟩, List.mem_of_getElem? (i := 692) (by decide +kernel), List.mem_of_getElem? (i := 871) (by decide +kernel), List.mem_of_getElem? (i := 872) (by decide +kernel)⟩
theorem lw_p70 : lw_okq (⟨"ErrorBudgetsModel", "doLend", "(IIII)I"⟩, 14) := ⟨⟨by decide +kernel, by decide +kernel⟩, List.mem_of_getElem? (i := 692) (by decide +kernel), List.mem_of_getElem? (i := 878) (by decide +kernel), List.mem_of_getElem? (i := 879) (by decide +kernel)⟩
theorem lw_p71 : lw_okq (⟨"ErrorBudgetsModel", "isLoan", "(I)Z"⟩, 14) := ⟨⟨by decide +kernel, by decide +kernel⟩, List.mem_of_getElem? (i := 692) (by decide +kernel), List.mem_of_getElem? (i := 886) (by decide +kernel), List.mem_of_getElem? (i := 887) (by decide +kernel)⟩
theorem lw_p72 : lw_okq (⟨"ErrorBudgetsModel", "pay", "(I)V"⟩, 14) := ⟨⟨by decide +kernel, by decide +kernel⟩, List.mem_of_getElem? (i := 692) (by decide +kernel), List.mem_of_getElem? (i := 890) (by decide +kernel), List.mem_of_getElem? (i := 891) (by decide +kernel)⟩
theorem lw_p73 : lw_okq (⟨"ErrorBudgetsModel", "clearLoans", "()V"⟩, 14) := ⟨⟨by decide +kernel, by decide +kernel⟩, List.mem_of_getElem? (i := 692) (by decide +kernel), List.mem_of_getElem? (i := 894) (by decide +kernel), List.mem_of_getElem? (i := 895) (by decide +kernel)⟩
theorem lw_p74 : lw_okq (⟨"ErrorBudgetsModel", "noPlan", "(IIII)I"⟩, 14) := ⟨⟨by decide +kernel, by decide +kernel⟩, List.mem_of_getElem? (i := 692) (by decide +kernel), List.mem_of_getElem? (i := 902) (by decide +kernel), List.mem_of_getElem? (i := 903) (by decide +kernel)⟩
theorem lw_p75 : lw_okq (⟨"ErrorBudgetsModel", "doPlan", "(IIII)I"⟩, 14) := ⟨⟨by decide +kernel, by decide +kernel⟩, List.mem_of_getElem? (i := 692) (by decide +kernel), List.mem_of_getElem? (i := 908) (by decide +kernel), List.mem_of_getElem? (i := 909) (by decide +kernel)⟩
theorem lw_p76 : lw_okq (⟨"ErrorBudgetsModel", "isPlan", "(I)Z"⟩, 14) := ⟨⟨by decide +kernel, by decide +kernel⟩, List.mem_of_getElem? (i := 692) (by decide +kernel), List.mem_of_getElem? (i := 919) (by decide +kernel), List.mem_of_getElem? (i := 920) (by decide +kernel)⟩
theorem lw_p77 : lw_okq (⟨"ErrorBudgetsModel", "doDrop", "(I)I"⟩, 14) := ⟨⟨by decide +kernel, by decide +kernel⟩, List.mem_of_getElem? (i := 692) (by decide +kernel), List.mem_of_getElem? (i := 923) (by decide +kernel), List.mem_of_getElem? (i := 924) (by decide +kernel)⟩
theorem lw_p78 : lw_okq (⟨"ErrorBudgetsModel", "clearPlans", "()V"⟩, 14) := ⟨⟨by decide +kernel, by decide +kernel⟩, List.mem_of_getElem? (i := 692) (by decide +kernel), List.mem_of_getElem? (i := 927) (by decide +kernel), List.mem_of_getElem? (i := 928) (by decide +kernel)⟩
theorem lw_p79 : lw_okq (⟨"ErrorBudgetsModel", "pass", "(I)I"⟩, 14) := ⟨⟨by decide +kernel, by decide +kernel⟩, List.mem_of_getElem? (i := 692) (by decide +kernel), List.mem_of_getElem? (i := 936) (by decide +kernel), List.mem_of_getElem? (i := 937) (by decide +kernel)⟩
def lw_privs_5 : List (MethodName × Nat) := [(⟨"ErrorBudgetsModel", "refuse", "(I)I"⟩, 14), (⟨"ErrorBudgetsModel", "doRelease", "(II)I"⟩, 14), (⟨"ErrorBudgetsModel", "spend", "(IJ)V"⟩, 14), (⟨"ErrorBudgetsModel", "noLend", "(IIII)I"⟩, 14), (⟨"ErrorBudgetsModel", "whyNot", "(III)I"⟩, 14), (⟨"ErrorBudgetsModel", "loansOf", "(II)I"⟩, 14), (⟨"ErrorBudgetsModel", "doLend", "(IIII)I"⟩, 14), (⟨"ErrorBudgetsModel", "isLoan", "(I)Z"⟩, 14), (⟨"ErrorBudgetsModel", "pay", "(I)V"⟩, 14), (⟨"ErrorBudgetsModel", "clearLoans", "()V"⟩, 14), (⟨"ErrorBudgetsModel", "noPlan", "(IIII)I"⟩, 14), (⟨"ErrorBudgetsModel", "doPlan", "(IIII)I"⟩, 14), (⟨"ErrorBudgetsModel", "isPlan", "(I)Z"⟩, 14), (⟨"ErrorBudgetsModel", "doDrop", "(I)I"⟩, 14), (⟨"ErrorBudgetsModel", "clearPlans", "()V"⟩, 14), (⟨"ErrorBudgetsModel", "pass", "(I)I"⟩, 14)]
theorem lw_r5 : ∀ q ∈ lw_privs_5, lw_okq q := List.forall_mem_cons.mpr ⟨lw_p64, List.forall_mem_cons.mpr ⟨lw_p65, List.forall_mem_cons.mpr ⟨lw_p66, List.forall_mem_cons.mpr ⟨lw_p67, List.forall_mem_cons.mpr ⟨lw_p68, List.forall_mem_cons.mpr ⟨lw_p69, List.forall_mem_cons.mpr ⟨lw_p70, List.forall_mem_cons.mpr ⟨lw_p71, List.forall_mem_cons.mpr ⟨lw_p72, List.forall_mem_cons.mpr ⟨lw_p73, List.forall_mem_cons.mpr ⟨lw_p74, List.forall_mem_cons.mpr ⟨lw_p75, List.forall_mem_cons.mpr ⟨lw_p76, List.forall_mem_cons.mpr ⟨lw_p77, List.forall_mem_cons.mpr ⟨lw_p78, List.forall_mem_cons.mpr ⟨lw_p79, fun _ h => absurd h List.not_mem_nil⟩⟩⟩⟩⟩⟩⟩⟩⟩⟩⟩⟩⟩⟩⟩⟩
theorem lw_p80 : lw_okq (⟨"ErrorBudgetsModel", "passHour", "()V"⟩, 14) := ⟨⟨by decide +kernel, by decide +kernel⟩, List.mem_of_getElem? (i := 692) (by decide +kernel), List.mem_of_getElem? (i := 940) (by decide +kernel), List.mem_of_getElem? (i := 941) (by decide +kernel)⟩
theorem lw_p81 : lw_okq (⟨"ErrorBudgetsModel", "beginWindow", "()V"⟩, 14) := ⟨⟨by decide +kernel, by decide +kernel⟩, List.mem_of_getElem? (i := 692) (by decide +kernel), List.mem_of_getElem? (i := 944) (by decide +kernel), List.mem_of_getElem? (i := 945) (by decide +kernel)⟩
theorem lw_p82 : lw_okq (⟨"ErrorBudgetsModel", "grant", "(I)V"⟩, 14) := ⟨⟨by decide +kernel, by decide +kernel⟩, List.mem_of_getElem? (i := 692) (by decide +kernel), List.mem_of_getElem? (i := 948) (by decide +kernel), List.mem_of_getElem? (i := 949) (by decide +kernel)⟩
theorem lw_p83 : lw_okq (⟨"ErrorBudgetsModel", "nextLoan", "()I"⟩, 14) := ⟨⟨by decide +kernel, by decide +kernel⟩, List.mem_of_getElem? (i := 692) (by decide +kernel), List.mem_of_getElem? (i := 952) (by decide +kernel), List.mem_of_getElem? (i := 953) (by decide +kernel)⟩
theorem lw_p84 : lw_okq (⟨"ErrorBudgetsModel", "doPlans", "()V"⟩, 14) := ⟨⟨by decide +kernel, by decide +kernel⟩, List.mem_of_getElem? (i := 692) (by decide +kernel), List.mem_of_getElem? (i := 957) (by decide +kernel), List.mem_of_getElem? (i := 958) (by decide +kernel)⟩
theorem lw_p85 : lw_okq (⟨"ErrorBudgetsModel", "nextPlan", "()I"⟩, 14) := ⟨⟨by decide +kernel, by decide +kernel⟩, List.mem_of_getElem? (i := 692) (by decide +kernel), List.mem_of_getElem? (i := 961) (by decide +kernel), List.mem_of_getElem? (i := 962) (by decide +kernel)⟩
theorem lw_p86 : lw_okq (⟨"ErrorBudgetsModel", "isAhead", "(II)Z"⟩, 14) := ⟨⟨by decide +kernel, by decide +kernel⟩, List.mem_of_getElem? (i := 692) (by decide +kernel), List.mem_of_getElem? (i := 965) (by decide +kernel), List.mem_of_getElem? (i := 966) (by decide +kernel)⟩
theorem lw_p87 : lw_okq (⟨"ErrorBudgetsModel", "owedOf", "(II)I"⟩, 14) := ⟨⟨by decide +kernel, by decide +kernel⟩, List.mem_of_getElem? (i := 692) (by decide +kernel), List.mem_of_getElem? (i := 973) (by decide +kernel), List.mem_of_getElem? (i := 974) (by decide +kernel)⟩
theorem lw_p88 : lw_okq (⟨"ErrorBudgetsModel", "plansOf", "(I)I"⟩, 14) := ⟨⟨by decide +kernel, by decide +kernel⟩, List.mem_of_getElem? (i := 692) (by decide +kernel), List.mem_of_getElem? (i := 977) (by decide +kernel), List.mem_of_getElem? (i := 978) (by decide +kernel)⟩
theorem lw_p89 : lw_okq (⟨"ErrorBudgetsModel", "frozenSet", "()I"⟩, 14) := ⟨⟨by decide +kernel, by decide +kernel⟩, List.mem_of_getElem? (i := 692) (by decide +kernel), List.mem_of_getElem? (i := 1000) (by decide +kernel), List.mem_of_getElem? (i := 1001) (by decide +kernel)⟩
theorem lw_p90 : lw_okq (⟨"ErrorBudgetsModel", "hoursTo", "(IZ)I"⟩, 14) := ⟨⟨by decide +kernel, by decide +kernel⟩, List.mem_of_getElem? (i := 692) (by decide +kernel), List.mem_of_getElem? (i := 1013) (by decide +kernel), List.mem_of_getElem? (i := 1014) (by decide +kernel)⟩
theorem lw_p91 : lw_okq (⟨"ErrorBudgetsModel", "faultOf", "()I"⟩, 14) := ⟨⟨by decide +kernel, by decide +kernel⟩, List.mem_of_getElem? (i := 692) (by decide +kernel), List.mem_of_getElem? (i := 1052) (by decide +kernel), List.mem_of_getElem? (i := 1053) (by decide +kernel)⟩
theorem lw_p92 : lw_okq (⟨"ErrorBudgetsModel", "readsOrder", "()I"⟩, 14) := ⟨⟨by decide +kernel, by decide +kernel⟩, List.mem_of_getElem? (i := 692) (by decide +kernel), List.mem_of_getElem? (i := 1056) (by decide +kernel), List.mem_of_getElem? (i := 1057) (by decide +kernel)⟩
theorem lw_p93 : lw_okq (⟨"ErrorBudgetsModel", "code", "()I"⟩, 14) := ⟨⟨by decide +kernel, by decide +kernel⟩, List.mem_of_getElem? (i := 692) (by decide +kernel), List.mem_of_getElem? (i := 1060) (by decide +kernel), List.mem_of_getElem? (i := 1061) (by decide +kernel)⟩
theorem lw_p94 : lw_okq (⟨"ErrorBudgetsModel", "orderOf", "(I)I"⟩, 14) := ⟨⟨by decide +kernel, by decide +kernel⟩, List.mem_of_getElem? (i := 692) (by decide +kernel), List.mem_of_getElem? (i := 1064) (by decide +kernel), List.mem_of_getElem? (i := 1065) (by decide +kernel)⟩
theorem lw_p95 : lw_okq (⟨"ErrorBudgetsModel", "readsPart", "(I)Z"⟩, 14) := ⟨⟨by decide +kernel, by decide +kernel⟩, List.mem_of_getElem? (i := 692) (by decide +kernel), List.mem_of_getElem? (i := 1068) (by decide +kernel), List.mem_of_getElem? (i := 1069) (by decide +kernel)⟩
def lw_privs_6 : List (MethodName × Nat) := [(⟨"ErrorBudgetsModel", "passHour", "()V"⟩, 14), (⟨"ErrorBudgetsModel", "beginWindow", "()V"⟩, 14), (⟨"ErrorBudgetsModel", "grant", "(I)V"⟩, 14), (⟨"ErrorBudgetsModel", "nextLoan", "()I"⟩, 14), (⟨"ErrorBudgetsModel", "doPlans", "()V"⟩, 14), (⟨"ErrorBudgetsModel", "nextPlan", "()I"⟩, 14), (⟨"ErrorBudgetsModel", "isAhead", "(II)Z"⟩, 14), (⟨"ErrorBudgetsModel", "owedOf", "(II)I"⟩, 14), (⟨"ErrorBudgetsModel", "plansOf", "(I)I"⟩, 14), (⟨"ErrorBudgetsModel", "frozenSet", "()I"⟩, 14), (⟨"ErrorBudgetsModel", "hoursTo", "(IZ)I"⟩, 14), (⟨"ErrorBudgetsModel", "faultOf", "()I"⟩, 14), (⟨"ErrorBudgetsModel", "readsOrder", "()I"⟩, 14), (⟨"ErrorBudgetsModel", "code", "()I"⟩, 14), (⟨"ErrorBudgetsModel", "orderOf", "(I)I"⟩, 14), (⟨"ErrorBudgetsModel", "readsPart", "(I)Z"⟩, 14)]
theorem lw_r6 : ∀ q ∈ lw_privs_6, lw_okq q := List.forall_mem_cons.mpr ⟨lw_p80, List.forall_mem_cons.mpr ⟨lw_p81, List.forall_mem_cons.mpr ⟨lw_p82, List.forall_mem_cons.mpr ⟨lw_p83, List.forall_mem_cons.mpr ⟨lw_p84, List.forall_mem_cons.mpr ⟨lw_p85, List.forall_mem_cons.mpr ⟨lw_p86, List.forall_mem_cons.mpr ⟨lw_p87, List.forall_mem_cons.mpr ⟨lw_p88, List.forall_mem_cons.mpr ⟨lw_p89, List.forall_mem_cons.mpr ⟨lw_p90, List.forall_mem_cons.mpr ⟨lw_p91, List.forall_mem_cons.mpr ⟨lw_p92, List.forall_mem_cons.mpr ⟨lw_p93, List.forall_mem_cons.mpr ⟨lw_p94, List.forall_mem_cons.mpr ⟨lw_p95, fun _ h => absurd h List.not_mem_nil⟩⟩⟩⟩⟩⟩⟩⟩⟩⟩⟩⟩⟩⟩⟩⟩
theorem lw_p96 : lw_okq (⟨"ErrorBudgetsModel", "readsDigit", "(I)Z"⟩, 14) := ⟨⟨by decide +kernel, by decide +kernel⟩, List.mem_of_getElem? (i := 692) (by decide +kernel), List.mem_of_getElem? (i := 1072) (by decide +kernel), List.mem_of_getElem? (i := 1073) (by decide +kernel)⟩
theorem lw_p97 : lw_okq (⟨"ErrorBudgetsModel", "readsNumber", "()Z"⟩, 14) := ⟨⟨by decide +kernel, by decide +kernel⟩, List.mem_of_getElem? (i := 692) (by decide +kernel), List.mem_of_getElem? (i := 1076) (by decide +kernel), List.mem_of_getElem? (i := 1077) (by decide +kernel)⟩
theorem lw_p98 : lw_okq (⟨"ErrorBudgetsModel", "isDigit", "()Z"⟩, 14) := ⟨⟨by decide +kernel, by decide +kernel⟩, List.mem_of_getElem? (i := 692) (by decide +kernel), List.mem_of_getElem? (i := 1080) (by decide +kernel), List.mem_of_getElem? (i := 1081) (by decide +kernel)⟩
theorem lw_p99 : lw_okq (⟨"ErrorBudgetsModel", "reads", "(I)Z"⟩, 14) := ⟨⟨by decide +kernel, by decide +kernel⟩, List.mem_of_getElem? (i := 692) (by decide +kernel), List.mem_of_getElem? (i := 1085) (by decide +kernel), List.mem_of_getElem? (i := 1086) (by decide +kernel)⟩
theorem lw_p100 : lw_okq (⟨"ErrorBudgetsModel", "does", "(I)Z"⟩, 14) := ⟨⟨by decide +kernel, by decide +kernel⟩, List.mem_of_getElem? (i := 692) (by decide +kernel), List.mem_of_getElem? (i := 1093) (by decide +kernel), List.mem_of_getElem? (i := 1094) (by decide +kernel)⟩
def lw_privs_7 : List (MethodName × Nat) := [(⟨"ErrorBudgetsModel", "readsDigit", "(I)Z"⟩, 14), (⟨"ErrorBudgetsModel", "readsNumber", "()Z"⟩, 14), (⟨"ErrorBudgetsModel", "isDigit", "()Z"⟩, 14), (⟨"ErrorBudgetsModel", "reads", "(I)Z"⟩, 14), (⟨"ErrorBudgetsModel", "does", "(I)Z"⟩, 14)]
theorem lw_r7 : ∀ q ∈ lw_privs_7, lw_okq q := List.forall_mem_cons.mpr ⟨lw_p96, List.forall_mem_cons.mpr ⟨lw_p97, List.forall_mem_cons.mpr ⟨lw_p98, List.forall_mem_cons.mpr ⟨lw_p99, List.forall_mem_cons.mpr ⟨lw_p100, fun _ h => absurd h List.not_mem_nil⟩⟩⟩⟩⟩
def lw_privs : List (MethodName × Nat) := lw_privs_1 ++ (lw_privs_2 ++ (lw_privs_3 ++ (lw_privs_4 ++ (lw_privs_5 ++ (lw_privs_6 ++ (lw_privs_7))))))
def lw_tbl : List Cond := k2_sels lw_privs ++ tables_1
theorem lw_privs_ok : ∀ q ∈ lw_privs, lw_okq q := by
  show ∀ q ∈ lw_privs_1 ++ (lw_privs_2 ++ (lw_privs_3 ++ (lw_privs_4 ++ (lw_privs_5 ++ (lw_privs_6 ++ (lw_privs_7)))))), lw_okq q
  exact List.forall_mem_append.mpr ⟨lw_r1, List.forall_mem_append.mpr ⟨lw_r2, List.forall_mem_append.mpr ⟨lw_r3, List.forall_mem_append.mpr ⟨lw_r4, List.forall_mem_append.mpr ⟨lw_r5, List.forall_mem_append.mpr ⟨lw_r6, lw_r7⟩⟩⟩⟩⟩⟩
end
section
def RX0 : String := "ErrorBudgets$History"
def TX0 : u_T := fun k => match k with
  | 0 => ("ErrorBudgets$History", "states", "[LErrorBudgets$House;", true)
  | 1 => ("ErrorBudgets$History", "oldest", "I", false)
  | _ => ("ErrorBudgets$History", "kept", "I", false)
def tyX0 : Nat → FieldType := fun k => match k with
  | 0 => .array (.object "ErrorBudgets$House")
  | 1 => .int
  | _ => .int
theorem nmX0 : ∀ a, a < 3 → ∀ b, b < 3 → a ≠ b → (TX0 a).2.1 ≠ (TX0 b).2.1 := by decide +kernel
theorem tyX0_ok : ∀ k, k < 3 → parseFieldDescriptor (TX0 k).2.2.1 = some (tyX0 k) := by decide +kernel
abbrev cX0_init : ByteArray := prog_2_method_1_code
def yX0_init : MethodName := ⟨RX0, "<init>", "()V"⟩
abbrev cX0_prepare : ByteArray := prog_2_method_2_code
def yX0_prepare : MethodName := ⟨RX0, "prepare", "(LErrorBudgets$House;)V"⟩
abbrev cX0_keep : ByteArray := prog_2_method_3_code
def yX0_keep : MethodName := ⟨RX0, "keep", "(I)I"⟩
abbrev cX0_takeLatest : ByteArray := prog_2_method_4_code
def yX0_takeLatest : MethodName := ⟨RX0, "takeLatest", "()LErrorBudgets$House;"⟩
def RX1 : String := "ErrorBudgets$House"
def TX1 : u_T := fun k => match k with
  | 0 => ("ErrorBudgets$House", "settings", "[I", true)
  | 1 => ("ErrorBudgets$House", "hour", "I", false)
  | 2 => ("ErrorBudgets$House", "window", "I", false)
  | 3 => ("ErrorBudgets$House", "windowStart", "I", false)
  | 4 => ("ErrorBudgets$House", "serviceCount", "I", false)
  | 5 => ("ErrorBudgets$House", "frozen", "I", false)
  | 6 => ("ErrorBudgets$House", "budgets", "[I", true)
  | 7 => ("ErrorBudgets$House", "exemptions", "[I", true)
  | 8 => ("ErrorBudgets$House", "releases", "[I", true)
  | 9 => ("ErrorBudgets$House", "droppedPlans", "[I", true)
  | 10 => ("ErrorBudgets$House", "freezes", "[I", true)
  | 11 => ("ErrorBudgets$House", "accounts", "[J", true)
  | 12 => ("ErrorBudgets$House", "loans", "LErrorBudgets$Loans;", true)
  | _ => ("ErrorBudgets$House", "plans", "LErrorBudgets$Plans;", true)
def tyX1 : Nat → FieldType := fun k => match k with
  | 0 => .array .int
  | 1 => .int
  | 2 => .int
  | 3 => .int
  | 4 => .int
  | 5 => .int
  | 6 => .array .int
  | 7 => .array .int
  | 8 => .array .int
  | 9 => .array .int
  | 10 => .array .int
  | 11 => .array .long
  | 12 => .object "ErrorBudgets$Loans"
  | _ => .object "ErrorBudgets$Plans"
theorem nmX1 : ∀ a, a < 14 → ∀ b, b < 14 → a ≠ b → (TX1 a).2.1 ≠ (TX1 b).2.1 := by decide +kernel
theorem tyX1_ok : ∀ k, k < 14 → parseFieldDescriptor (TX1 k).2.2.1 = some (tyX1 k) := by decide +kernel
abbrev cX1_init : ByteArray := prog_3_method_1_code
def yX1_init : MethodName := ⟨RX1, "<init>", "()V"⟩
abbrev cX1_copyFrom : ByteArray := prog_3_method_2_code
def yX1_copyFrom : MethodName := ⟨RX1, "copyFrom", "(LErrorBudgets$House;)V"⟩
abbrev cX1_hasService : ByteArray := prog_3_method_3_code
def yX1_hasService : MethodName := ⟨RX1, "hasService", "(I)Z"⟩
abbrev cX1_isFrozen : ByteArray := prog_3_method_4_code
def yX1_isFrozen : MethodName := ⟨RX1, "isFrozen", "(I)Z"⟩
abbrev cX1_minutesOf : ByteArray := prog_3_method_5_code
def yX1_minutesOf : MethodName := ⟨RX1, "minutesOf", "(II)J"⟩
abbrev cX1_thawLimit : ByteArray := prog_3_method_6_code
def yX1_thawLimit : MethodName := ⟨RX1, "thawLimit", "(I)I"⟩
abbrev cX1_addService : ByteArray := prog_3_method_7_code
def yX1_addService : MethodName := ⟨RX1, "addService", "(I)I"⟩
abbrev cX1_enter : ByteArray := prog_3_method_8_code
def yX1_enter : MethodName := ⟨RX1, "enter", "(IIJ)V"⟩
abbrev cX1_book : ByteArray := prog_3_method_9_code
def yX1_book : MethodName := ⟨RX1, "book", "(IIJ)V"⟩
abbrev cX1_doRelease : ByteArray := prog_3_method_10_code
def yX1_doRelease : MethodName := ⟨RX1, "doRelease", "(II)V"⟩
abbrev cX1_refusalOfLoan : ByteArray := prog_3_method_11_code
def yX1_refusalOfLoan : MethodName := ⟨RX1, "refusalOfLoan", "(III)I"⟩
abbrev cX1_addLoan : ByteArray := prog_3_method_12_code
def yX1_addLoan : MethodName := ⟨RX1, "addLoan", "(IIII)I"⟩
abbrev cX1_payBack : ByteArray := prog_3_method_13_code
def yX1_payBack : MethodName := ⟨RX1, "payBack", "(I)V"⟩
abbrev cX1_letPass : ByteArray := prog_3_method_14_code
def yX1_letPass : MethodName := ⟨RX1, "letPass", "(I)I"⟩
abbrev cX1_beginWindow : ByteArray := prog_3_method_15_code
def yX1_beginWindow : MethodName := ⟨RX1, "beginWindow", "()V"⟩
abbrev cX1_payDueLoans : ByteArray := prog_3_method_16_code
def yX1_payDueLoans : MethodName := ⟨RX1, "payDueLoans", "()V"⟩
abbrev cX1_takePlans : ByteArray := prog_3_method_17_code
def yX1_takePlans : MethodName := ⟨RX1, "takePlans", "()V"⟩
abbrev cX1_fateOf : ByteArray := prog_3_method_18_code
def yX1_fateOf : MethodName := ⟨RX1, "fateOf", "(I)I"⟩
def RX2 : String := "ErrorBudgets$Loans"
def TX2 : u_T := fun k => match k with
  | 0 => ("ErrorBudgets$Loans", "number", "I", false)
  | 1 => ("ErrorBudgets$Loans", "lender", "[I", true)
  | 2 => ("ErrorBudgets$Loans", "borrower", "[I", true)
  | 3 => ("ErrorBudgets$Loans", "minutes", "[I", true)
  | 4 => ("ErrorBudgets$Loans", "owed", "[I", true)
  | _ => ("ErrorBudgets$Loans", "due", "[I", true)
def tyX2 : Nat → FieldType := fun k => match k with
  | 0 => .int
  | 1 => .array .int
  | 2 => .array .int
  | 3 => .array .int
  | 4 => .array .int
  | _ => .array .int
theorem nmX2 : ∀ a, a < 6 → ∀ b, b < 6 → a ≠ b → (TX2 a).2.1 ≠ (TX2 b).2.1 := by decide +kernel
theorem tyX2_ok : ∀ k, k < 6 → parseFieldDescriptor (TX2 k).2.2.1 = some (tyX2 k) := by decide +kernel
abbrev cX2_init : ByteArray := prog_4_method_1_code
def yX2_init : MethodName := ⟨RX2, "<init>", "()V"⟩
abbrev cX2_copyFrom : ByteArray := prog_4_method_2_code
def yX2_copyFrom : MethodName := ⟨RX2, "copyFrom", "(LErrorBudgets$Loans;)V"⟩
abbrev cX2_has : ByteArray := prog_4_method_3_code
def yX2_has : MethodName := ⟨RX2, "has", "(I)Z"⟩
abbrev cX2_add : ByteArray := prog_4_method_4_code
def yX2_add : MethodName := ⟨RX2, "add", "(IIIII)I"⟩
abbrev cX2_countWith : ByteArray := prog_4_method_5_code
def yX2_countWith : MethodName := ⟨RX2, "countWith", "([II)I"⟩
abbrev cX2_owedWith : ByteArray := prog_4_method_6_code
def yX2_owedWith : MethodName := ⟨RX2, "owedWith", "([II)I"⟩
abbrev cX2_removePaid : ByteArray := prog_4_method_7_code
def yX2_removePaid : MethodName := ⟨RX2, "removePaid", "()V"⟩
def RX3 : String := "ErrorBudgets$Pad"
def TX3 : u_T := fun k => match k with
  | 0 => ("ErrorBudgets$Pad", "signs", "[C", true)
  | 1 => ("ErrorBudgets$Pad", "length", "I", false)
  | 2 => ("ErrorBudgets$Pad", "at", "I", false)
  | 3 => ("ErrorBudgets$Pad", "orders", "I", false)
  | 4 => ("ErrorBudgets$Pad", "kinds", "[C", true)
  | _ => ("ErrorBudgets$Pad", "values", "[I", true)
def tyX3 : Nat → FieldType := fun k => match k with
  | 0 => .array .char
  | 1 => .int
  | 2 => .int
  | 3 => .int
  | 4 => .array .char
  | _ => .array .int
theorem nmX3 : ∀ a, a < 6 → ∀ b, b < 6 → a ≠ b → (TX3 a).2.1 ≠ (TX3 b).2.1 := by decide +kernel
theorem tyX3_ok : ∀ k, k < 6 → parseFieldDescriptor (TX3 k).2.2.1 = some (tyX3 k) := by decide +kernel
abbrev cX3_init : ByteArray := prog_5_method_1_code
def yX3_init : MethodName := ⟨RX3, "<init>", "()V"⟩
abbrev cX3_append : ByteArray := prog_5_method_2_code
def yX3_append : MethodName := ⟨RX3, "append", "(I)V"⟩
abbrev cX3_kindOf : ByteArray := prog_5_method_3_code
def yX3_kindOf : MethodName := ⟨RX3, "kindOf", "(I)C"⟩
abbrev cX3_valueOf : ByteArray := prog_5_method_4_code
def yX3_valueOf : MethodName := ⟨RX3, "valueOf", "(II)I"⟩
abbrev cX3_readOrders : ByteArray := prog_5_method_5_code
def yX3_readOrders : MethodName := ⟨RX3, "readOrders", "()I"⟩
abbrev cX3_readOrder : ByteArray := prog_5_method_6_code
def yX3_readOrder : MethodName := ⟨RX3, "readOrder", "()Z"⟩
abbrev cX3_shapeOf : ByteArray := prog_5_method_7_code
def yX3_shapeOf : MethodName := ⟨RX3, "shapeOf", "(C)Ljava/lang/String;"⟩
abbrev cX3_isValue : ByteArray := prog_5_method_8_code
def yX3_isValue : MethodName := ⟨RX3, "isValue", "(C)Z"⟩
abbrev cX3_readPart : ByteArray := prog_5_method_9_code
def yX3_readPart : MethodName := ⟨RX3, "readPart", "(C)I"⟩
abbrev cX3_readSign : ByteArray := prog_5_method_10_code
def yX3_readSign : MethodName := ⟨RX3, "readSign", "(C)Z"⟩
abbrev cX3_readDigit : ByteArray := prog_5_method_11_code
def yX3_readDigit : MethodName := ⟨RX3, "readDigit", "(C)I"⟩
abbrev cX3_readNumber : ByteArray := prog_5_method_12_code
def yX3_readNumber : MethodName := ⟨RX3, "readNumber", "()I"⟩
abbrev cX3_signHere : ByteArray := prog_5_method_13_code
def yX3_signHere : MethodName := ⟨RX3, "signHere", "()C"⟩
def RX4 : String := "ErrorBudgets$Plans"
def TX4 : u_T := fun k => match k with
  | 0 => ("ErrorBudgets$Plans", "number", "I", false)
  | 1 => ("ErrorBudgets$Plans", "service", "[I", true)
  | 2 => ("ErrorBudgets$Plans", "hour", "[I", true)
  | 3 => ("ErrorBudgets$Plans", "size", "[I", true)
  | 4 => ("ErrorBudgets$Plans", "priority", "[I", true)
  | 5 => ("ErrorBudgets$Plans", "fate", "[I", true)
  | 6 => ("ErrorBudgets$Plans", "turns", "[I", true)
  | 7 => ("ErrorBudgets$Plans", "watched", "I", false)
  | _ => ("ErrorBudgets$Plans", "watchedFate", "I", false)
def tyX4 : Nat → FieldType := fun k => match k with
  | 0 => .int
  | 1 => .array .int
  | 2 => .array .int
  | 3 => .array .int
  | 4 => .array .int
  | 5 => .array .int
  | 6 => .array .int
  | 7 => .int
  | _ => .int
theorem nmX4 : ∀ a, a < 9 → ∀ b, b < 9 → a ≠ b → (TX4 a).2.1 ≠ (TX4 b).2.1 := by decide +kernel
theorem tyX4_ok : ∀ k, k < 9 → parseFieldDescriptor (TX4 k).2.2.1 = some (tyX4 k) := by decide +kernel
abbrev cX4_init : ByteArray := prog_6_method_1_code
def yX4_init : MethodName := ⟨RX4, "<init>", "()V"⟩
abbrev cX4_copyFrom : ByteArray := prog_6_method_2_code
def yX4_copyFrom : MethodName := ⟨RX4, "copyFrom", "(LErrorBudgets$Plans;)V"⟩
abbrev cX4_watch : ByteArray := prog_6_method_3_code
def yX4_watch : MethodName := ⟨RX4, "watch", "(I)V"⟩
abbrev cX4_has : ByteArray := prog_6_method_4_code
def yX4_has : MethodName := ⟨RX4, "has", "(I)Z"⟩
abbrev cX4_add : ByteArray := prog_6_method_5_code
def yX4_add : MethodName := ⟨RX4, "add", "(IIII)I"⟩
abbrev cX4_countWith : ByteArray := prog_6_method_6_code
def yX4_countWith : MethodName := ⟨RX4, "countWith", "(I)I"⟩
abbrev cX4_removeEnded : ByteArray := prog_6_method_7_code
def yX4_removeEnded : MethodName := ⟨RX4, "removeEnded", "()V"⟩
abbrev cX4_move : ByteArray := prog_6_method_8_code
def yX4_move : MethodName := ⟨RX4, "move", "(II)V"⟩
abbrev cX4_arrange : ByteArray := prog_6_method_9_code
def yX4_arrange : MethodName := ⟨RX4, "arrange", "()V"⟩
abbrev cX4_isBefore : ByteArray := prog_6_method_10_code
def yX4_isBefore : MethodName := ⟨RX4, "isBefore", "(II)Z"⟩
def RX5 : String := "ErrorBudgets"
def TX5 : u_T := fun k => match k with
  | 0 => ("ErrorBudgets", "now", "LErrorBudgets$House;", true)
  | 1 => ("ErrorBudgets", "trial", "LErrorBudgets$House;", true)
  | 2 => ("ErrorBudgets", "history", "LErrorBudgets$History;", true)
  | 3 => ("ErrorBudgets", "slots", "[LErrorBudgets$House;", true)
  | 4 => ("ErrorBudgets", "saved", "[Z", true)
  | 5 => ("ErrorBudgets", "pad", "LErrorBudgets$Pad;", true)
  | _ => ("ErrorBudgets", "reason", "I", false)
def tyX5 : Nat → FieldType := fun k => match k with
  | 0 => .object "ErrorBudgets$House"
  | 1 => .object "ErrorBudgets$House"
  | 2 => .object "ErrorBudgets$History"
  | 3 => .array (.object "ErrorBudgets$House")
  | 4 => .array .boolean
  | 5 => .object "ErrorBudgets$Pad"
  | _ => .int
theorem nmX5 : ∀ a, a < 7 → ∀ b, b < 7 → a ≠ b → (TX5 a).2.1 ≠ (TX5 b).2.1 := by decide +kernel
theorem tyX5_ok : ∀ k, k < 7 → parseFieldDescriptor (TX5 k).2.2.1 = some (tyX5 k) := by decide +kernel
abbrev cX5_init : ByteArray := prog_1_method_1_code
def yX5_init : MethodName := ⟨RX5, "<init>", "()V"⟩
abbrev cX5_set : ByteArray := prog_1_method_2_code
def yX5_set : MethodName := ⟨RX5, "set", "(II)I"⟩
abbrev cX5_service : ByteArray := prog_1_method_3_code
def yX5_service : MethodName := ⟨RX5, "service", "(I)I"⟩
abbrev cX5_budget : ByteArray := prog_1_method_4_code
def yX5_budget : MethodName := ⟨RX5, "budget", "(II)I"⟩
abbrev cX5_outage : ByteArray := prog_1_method_5_code
def yX5_outage : MethodName := ⟨RX5, "outage", "(III)I"⟩
abbrev cX5_release : ByteArray := prog_1_method_6_code
def yX5_release : MethodName := ⟨RX5, "release", "(III)I"⟩
abbrev cX5_lend : ByteArray := prog_1_method_7_code
def yX5_lend : MethodName := ⟨RX5, "lend", "(IIII)I"⟩
abbrev cX5_repay : ByteArray := prog_1_method_8_code
def yX5_repay : MethodName := ⟨RX5, "repay", "(I)I"⟩
abbrev cX5_plan : ByteArray := prog_1_method_9_code
def yX5_plan : MethodName := ⟨RX5, "plan", "(IIII)I"⟩
abbrev cX5_drop : ByteArray := prog_1_method_10_code
def yX5_drop : MethodName := ⟨RX5, "drop", "(I)I"⟩
abbrev cX5_hours : ByteArray := prog_1_method_11_code
def yX5_hours : MethodName := ⟨RX5, "hours", "(I)I"⟩
abbrev cX5_sufferOutage : ByteArray := prog_1_method_12_code
def yX5_sufferOutage : MethodName := ⟨RX5, "sufferOutage", "(III)I"⟩
abbrev cX5_tryRelease : ByteArray := prog_1_method_13_code
def yX5_tryRelease : MethodName := ⟨RX5, "tryRelease", "(III)I"⟩
abbrev cX5_tryLoan : ByteArray := prog_1_method_14_code
def yX5_tryLoan : MethodName := ⟨RX5, "tryLoan", "(IIII)I"⟩
abbrev cX5_addPlan : ByteArray := prog_1_method_15_code
def yX5_addPlan : MethodName := ⟨RX5, "addPlan", "(IIII)I"⟩
abbrev cX5_removePlan : ByteArray := prog_1_method_16_code
def yX5_removePlan : MethodName := ⟨RX5, "removePlan", "(I)I"⟩
abbrev cX5_obey : ByteArray := prog_1_method_17_code
def yX5_obey : MethodName := ⟨RX5, "obey", "(I)I"⟩
abbrev cX5_refuse : ByteArray := prog_1_method_18_code
def yX5_refuse : MethodName := ⟨RX5, "refuse", "(I)I"⟩
abbrev cX5_isWithin : ByteArray := prog_1_method_19_code
def yX5_isWithin : MethodName := ⟨RX5, "isWithin", "(III)Z"⟩
abbrev cX5_ofService : ByteArray := prog_1_method_20_code
def yX5_ofService : MethodName := ⟨RX5, "ofService", "(II)I"⟩
abbrev cX5_account : ByteArray := prog_1_method_21_code
def yX5_account : MethodName := ⟨RX5, "account", "(II)J"⟩
abbrev cX5_ofLoan : ByteArray := prog_1_method_22_code
def yX5_ofLoan : MethodName := ⟨RX5, "ofLoan", "(II)I"⟩
abbrev cX5_ofPlan : ByteArray := prog_1_method_23_code
def yX5_ofPlan : MethodName := ⟨RX5, "ofPlan", "(II)I"⟩
abbrev cX5_count : ByteArray := prog_1_method_24_code
def yX5_count : MethodName := ⟨RX5, "count", "(I)I"⟩
abbrev cX5_leftIn : ByteArray := prog_1_method_25_code
def yX5_leftIn : MethodName := ⟨RX5, "leftIn", "(II)J"⟩
abbrev cX5_frozenIn : ByteArray := prog_1_method_26_code
def yX5_frozenIn : MethodName := ⟨RX5, "frozenIn", "(I)I"⟩
abbrev cX5_thawsIn : ByteArray := prog_1_method_27_code
def yX5_thawsIn : MethodName := ⟨RX5, "thawsIn", "(I)I"⟩
abbrev cX5_hoursUntil : ByteArray := prog_1_method_28_code
def yX5_hoursUntil : MethodName := ⟨RX5, "hoursUntil", "(IZ)I"⟩
abbrev cX5_doneAt : ByteArray := prog_1_method_29_code
def yX5_doneAt : MethodName := ⟨RX5, "doneAt", "(I)I"⟩
abbrev cX5_bestLender : ByteArray := prog_1_method_30_code
def yX5_bestLender : MethodName := ⟨RX5, "bestLender", "(II)I"⟩
abbrev cX5_leastLoan : ByteArray := prog_1_method_31_code
def yX5_leastLoan : MethodName := ⟨RX5, "leastLoan", "(I)J"⟩
abbrev cX5_safeSize : ByteArray := prog_1_method_32_code
def yX5_safeSize : MethodName := ⟨RX5, "safeSize", "(I)I"⟩
abbrev cX5_put : ByteArray := prog_1_method_33_code
def yX5_put : MethodName := ⟨RX5, "put", "(J)I"⟩
abbrev cX5_charactersIn : ByteArray := prog_1_method_34_code
def yX5_charactersIn : MethodName := ⟨RX5, "charactersIn", "(J)I"⟩
abbrev cX5_codeAt : ByteArray := prog_1_method_35_code
def yX5_codeAt : MethodName := ⟨RX5, "codeAt", "(JI)I"⟩
abbrev cX5_wipe : ByteArray := prog_1_method_36_code
def yX5_wipe : MethodName := ⟨RX5, "wipe", "()I"⟩
abbrev cX5_fault : ByteArray := prog_1_method_37_code
def yX5_fault : MethodName := ⟨RX5, "fault", "()I"⟩
abbrev cX5_carryOut : ByteArray := prog_1_method_38_code
def yX5_carryOut : MethodName := ⟨RX5, "carryOut", "()I"⟩
abbrev cX5_undo : ByteArray := prog_1_method_39_code
def yX5_undo : MethodName := ⟨RX5, "undo", "()I"⟩
abbrev cX5_save : ByteArray := prog_1_method_40_code
def yX5_save : MethodName := ⟨RX5, "save", "(I)I"⟩
abbrev cX5_restore : ByteArray := prog_1_method_41_code
def yX5_restore : MethodName := ⟨RX5, "restore", "(I)I"⟩
def RX6 : String := "ErrorBudgetsModel"
def TX6 : u_T := fun k => match k with
  | 0 => ("ErrorBudgetsModel", "row", "[J", true)
  | 1 => ("ErrorBudgetsModel", "states", "I", false)
  | 2 => ("ErrorBudgetsModel", "isSaved", "[Z", true)
  | 3 => ("ErrorBudgetsModel", "reason", "I", false)
  | 4 => ("ErrorBudgetsModel", "pad", "[I", true)
  | 5 => ("ErrorBudgetsModel", "length", "I", false)
  | 6 => ("ErrorBudgetsModel", "watched", "I", false)
  | 7 => ("ErrorBudgetsModel", "watchedHour", "I", false)
  | 8 => ("ErrorBudgetsModel", "isGone", "[Z", true)
  | 9 => ("ErrorBudgetsModel", "isSeen", "[Z", true)
  | 10 => ("ErrorBudgetsModel", "forms", "[I", true)
  | 11 => ("ErrorBudgetsModel", "at", "I", false)
  | 12 => ("ErrorBudgetsModel", "numbers", "[I", true)
  | _ => ("ErrorBudgetsModel", "numberMany", "I", false)
def tyX6 : Nat → FieldType := fun k => match k with
  | 0 => .array .long
  | 1 => .int
  | 2 => .array .boolean
  | 3 => .int
  | 4 => .array .int
  | 5 => .int
  | 6 => .int
  | 7 => .int
  | 8 => .array .boolean
  | 9 => .array .boolean
  | 10 => .array .int
  | 11 => .int
  | 12 => .array .int
  | _ => .int
theorem nmX6 : ∀ a, a < 14 → ∀ b, b < 14 → a ≠ b → (TX6 a).2.1 ≠ (TX6 b).2.1 := by decide +kernel
theorem tyX6_ok : ∀ k, k < 14 → parseFieldDescriptor (TX6 k).2.2.1 = some (tyX6 k) := by decide +kernel
abbrev cX6_init : ByteArray := prog_8_method_1_code
def yX6_init : MethodName := ⟨RX6, "<init>", "()V"⟩
abbrev cX6_in : ByteArray := prog_8_method_2_code
def yX6_in : MethodName := ⟨RX6, "in", "(JJJ)Z"⟩
abbrev cX6_number : ByteArray := prog_8_method_3_code
def yX6_number : MethodName := ⟨RX6, "number", "(I)I"⟩
abbrev cX6_copy : ByteArray := prog_8_method_4_code
def yX6_copy : MethodName := ⟨RX6, "copy", "(II)V"⟩
abbrev cX6_record : ByteArray := prog_8_method_5_code
def yX6_record : MethodName := ⟨RX6, "record", "()V"⟩
abbrev cX6_undo : ByteArray := prog_8_method_6_code
def yX6_undo : MethodName := ⟨RX6, "undo", "()I"⟩
abbrev cX6_save : ByteArray := prog_8_method_7_code
def yX6_save : MethodName := ⟨RX6, "save", "(I)I"⟩
abbrev cX6_restore : ByteArray := prog_8_method_8_code
def yX6_restore : MethodName := ⟨RX6, "restore", "(I)I"⟩
abbrev cX6_refuse : ByteArray := prog_8_method_9_code
def yX6_refuse : MethodName := ⟨RX6, "refuse", "(I)I"⟩
abbrev cX6_isSetting : ByteArray := prog_8_method_10_code
def yX6_isSetting : MethodName := ⟨RX6, "isSetting", "(II)Z"⟩
abbrev cX6_set : ByteArray := prog_8_method_11_code
def yX6_set : MethodName := ⟨RX6, "set", "(II)I"⟩
abbrev cX6_of : ByteArray := prog_8_method_12_code
def yX6_of : MethodName := ⟨RX6, "of", "(II)I"⟩
abbrev cX6_accountOf : ByteArray := prog_8_method_13_code
def yX6_accountOf : MethodName := ⟨RX6, "accountOf", "(II)I"⟩
abbrev cX6_isService : ByteArray := prog_8_method_14_code
def yX6_isService : MethodName := ⟨RX6, "isService", "(I)Z"⟩
abbrev cX6_left : ByteArray := prog_8_method_15_code
def yX6_left : MethodName := ⟨RX6, "left", "(I)J"⟩
abbrev cX6_isFrozen : ByteArray := prog_8_method_16_code
def yX6_isFrozen : MethodName := ⟨RX6, "isFrozen", "(I)Z"⟩
abbrev cX6_thawing : ByteArray := prog_8_method_17_code
def yX6_thawing : MethodName := ⟨RX6, "thawing", "(I)J"⟩
abbrev cX6_change : ByteArray := prog_8_method_18_code
def yX6_change : MethodName := ⟨RX6, "change", "(IJ)V"⟩
abbrev cX6_service : ByteArray := prog_8_method_19_code
def yX6_service : MethodName := ⟨RX6, "service", "(I)I"⟩
abbrev cX6_budget : ByteArray := prog_8_method_20_code
def yX6_budget : MethodName := ⟨RX6, "budget", "(II)I"⟩
abbrev cX6_doOutage : ByteArray := prog_8_method_21_code
def yX6_doOutage : MethodName := ⟨RX6, "doOutage", "(III)I"⟩
abbrev cX6_noOutage : ByteArray := prog_8_method_22_code
def yX6_noOutage : MethodName := ⟨RX6, "noOutage", "(III)I"⟩
abbrev cX6_outage : ByteArray := prog_8_method_23_code
def yX6_outage : MethodName := ⟨RX6, "outage", "(III)I"⟩
abbrev cX6_spend : ByteArray := prog_8_method_24_code
def yX6_spend : MethodName := ⟨RX6, "spend", "(IJ)V"⟩
abbrev cX6_doRelease : ByteArray := prog_8_method_25_code
def yX6_doRelease : MethodName := ⟨RX6, "doRelease", "(II)I"⟩
abbrev cX6_noRelease : ByteArray := prog_8_method_26_code
def yX6_noRelease : MethodName := ⟨RX6, "noRelease", "(III)I"⟩
abbrev cX6_release : ByteArray := prog_8_method_27_code
def yX6_release : MethodName := ⟨RX6, "release", "(III)I"⟩
abbrev cX6_ofLoanAt : ByteArray := prog_8_method_28_code
def yX6_ofLoanAt : MethodName := ⟨RX6, "ofLoanAt", "(II)I"⟩
abbrev cX6_loansOf : ByteArray := prog_8_method_29_code
def yX6_loansOf : MethodName := ⟨RX6, "loansOf", "(II)I"⟩
abbrev cX6_owedOf : ByteArray := prog_8_method_30_code
def yX6_owedOf : MethodName := ⟨RX6, "owedOf", "(II)I"⟩
abbrev cX6_whyNot : ByteArray := prog_8_method_31_code
def yX6_whyNot : MethodName := ⟨RX6, "whyNot", "(III)I"⟩
abbrev cX6_noLend : ByteArray := prog_8_method_32_code
def yX6_noLend : MethodName := ⟨RX6, "noLend", "(IIII)I"⟩
abbrev cX6_doLend : ByteArray := prog_8_method_33_code
def yX6_doLend : MethodName := ⟨RX6, "doLend", "(IIII)I"⟩
abbrev cX6_lend : ByteArray := prog_8_method_34_code
def yX6_lend : MethodName := ⟨RX6, "lend", "(IIII)I"⟩
abbrev cX6_pay : ByteArray := prog_8_method_35_code
def yX6_pay : MethodName := ⟨RX6, "pay", "(I)V"⟩
abbrev cX6_clearLoans : ByteArray := prog_8_method_36_code
def yX6_clearLoans : MethodName := ⟨RX6, "clearLoans", "()V"⟩
abbrev cX6_isLoan : ByteArray := prog_8_method_37_code
def yX6_isLoan : MethodName := ⟨RX6, "isLoan", "(I)Z"⟩
abbrev cX6_repay : ByteArray := prog_8_method_38_code
def yX6_repay : MethodName := ⟨RX6, "repay", "(I)I"⟩
abbrev cX6_ofPlanAt : ByteArray := prog_8_method_39_code
def yX6_ofPlanAt : MethodName := ⟨RX6, "ofPlanAt", "(II)I"⟩
abbrev cX6_isPlan : ByteArray := prog_8_method_40_code
def yX6_isPlan : MethodName := ⟨RX6, "isPlan", "(I)Z"⟩
abbrev cX6_noPlan : ByteArray := prog_8_method_41_code
def yX6_noPlan : MethodName := ⟨RX6, "noPlan", "(IIII)I"⟩
abbrev cX6_doPlan : ByteArray := prog_8_method_42_code
def yX6_doPlan : MethodName := ⟨RX6, "doPlan", "(IIII)I"⟩
abbrev cX6_plan : ByteArray := prog_8_method_43_code
def yX6_plan : MethodName := ⟨RX6, "plan", "(IIII)I"⟩
abbrev cX6_clearPlans : ByteArray := prog_8_method_44_code
def yX6_clearPlans : MethodName := ⟨RX6, "clearPlans", "()V"⟩
abbrev cX6_doDrop : ByteArray := prog_8_method_45_code
def yX6_doDrop : MethodName := ⟨RX6, "doDrop", "(I)I"⟩
abbrev cX6_drop : ByteArray := prog_8_method_46_code
def yX6_drop : MethodName := ⟨RX6, "drop", "(I)I"⟩
abbrev cX6_isAhead : ByteArray := prog_8_method_47_code
def yX6_isAhead : MethodName := ⟨RX6, "isAhead", "(II)Z"⟩
abbrev cX6_nextPlan : ByteArray := prog_8_method_48_code
def yX6_nextPlan : MethodName := ⟨RX6, "nextPlan", "()I"⟩
abbrev cX6_doPlans : ByteArray := prog_8_method_49_code
def yX6_doPlans : MethodName := ⟨RX6, "doPlans", "()V"⟩
abbrev cX6_grant : ByteArray := prog_8_method_50_code
def yX6_grant : MethodName := ⟨RX6, "grant", "(I)V"⟩
abbrev cX6_nextLoan : ByteArray := prog_8_method_51_code
def yX6_nextLoan : MethodName := ⟨RX6, "nextLoan", "()I"⟩
abbrev cX6_beginWindow : ByteArray := prog_8_method_52_code
def yX6_beginWindow : MethodName := ⟨RX6, "beginWindow", "()V"⟩
abbrev cX6_passHour : ByteArray := prog_8_method_53_code
def yX6_passHour : MethodName := ⟨RX6, "passHour", "()V"⟩
abbrev cX6_pass : ByteArray := prog_8_method_54_code
def yX6_pass : MethodName := ⟨RX6, "pass", "(I)I"⟩
abbrev cX6_hours : ByteArray := prog_8_method_55_code
def yX6_hours : MethodName := ⟨RX6, "hours", "(I)I"⟩
abbrev cX6_plansOf : ByteArray := prog_8_method_56_code
def yX6_plansOf : MethodName := ⟨RX6, "plansOf", "(I)I"⟩
abbrev cX6_ofService : ByteArray := prog_8_method_57_code
def yX6_ofService : MethodName := ⟨RX6, "ofService", "(II)I"⟩
abbrev cX6_account : ByteArray := prog_8_method_58_code
def yX6_account : MethodName := ⟨RX6, "account", "(II)J"⟩
abbrev cX6_ofLoan : ByteArray := prog_8_method_59_code
def yX6_ofLoan : MethodName := ⟨RX6, "ofLoan", "(II)I"⟩
abbrev cX6_ofPlan : ByteArray := prog_8_method_60_code
def yX6_ofPlan : MethodName := ⟨RX6, "ofPlan", "(II)I"⟩
abbrev cX6_frozenSet : ByteArray := prog_8_method_61_code
def yX6_frozenSet : MethodName := ⟨RX6, "frozenSet", "()I"⟩
abbrev cX6_count : ByteArray := prog_8_method_62_code
def yX6_count : MethodName := ⟨RX6, "count", "(I)I"⟩
abbrev cX6_leftIn : ByteArray := prog_8_method_63_code
def yX6_leftIn : MethodName := ⟨RX6, "leftIn", "(II)J"⟩
abbrev cX6_hoursTo : ByteArray := prog_8_method_64_code
def yX6_hoursTo : MethodName := ⟨RX6, "hoursTo", "(IZ)I"⟩
abbrev cX6_frozenIn : ByteArray := prog_8_method_65_code
def yX6_frozenIn : MethodName := ⟨RX6, "frozenIn", "(I)I"⟩
abbrev cX6_thawsIn : ByteArray := prog_8_method_66_code
def yX6_thawsIn : MethodName := ⟨RX6, "thawsIn", "(I)I"⟩
abbrev cX6_doneAt : ByteArray := prog_8_method_67_code
def yX6_doneAt : MethodName := ⟨RX6, "doneAt", "(I)I"⟩
abbrev cX6_bestLender : ByteArray := prog_8_method_68_code
def yX6_bestLender : MethodName := ⟨RX6, "bestLender", "(II)I"⟩
abbrev cX6_leastLoan : ByteArray := prog_8_method_69_code
def yX6_leastLoan : MethodName := ⟨RX6, "leastLoan", "(I)J"⟩
abbrev cX6_safeSize : ByteArray := prog_8_method_70_code
def yX6_safeSize : MethodName := ⟨RX6, "safeSize", "(I)I"⟩
abbrev cX6_put : ByteArray := prog_8_method_71_code
def yX6_put : MethodName := ⟨RX6, "put", "(J)I"⟩
abbrev cX6_wipe : ByteArray := prog_8_method_72_code
def yX6_wipe : MethodName := ⟨RX6, "wipe", "()I"⟩
abbrev cX6_code : ByteArray := prog_8_method_73_code
def yX6_code : MethodName := ⟨RX6, "code", "()I"⟩
abbrev cX6_isDigit : ByteArray := prog_8_method_74_code
def yX6_isDigit : MethodName := ⟨RX6, "isDigit", "()Z"⟩
abbrev cX6_reads : ByteArray := prog_8_method_75_code
def yX6_reads : MethodName := ⟨RX6, "reads", "(I)Z"⟩
abbrev cX6_readsDigit : ByteArray := prog_8_method_76_code
def yX6_readsDigit : MethodName := ⟨RX6, "readsDigit", "(I)Z"⟩
abbrev cX6_readsNumber : ByteArray := prog_8_method_77_code
def yX6_readsNumber : MethodName := ⟨RX6, "readsNumber", "()Z"⟩
abbrev cX6_orderOf : ByteArray := prog_8_method_78_code
def yX6_orderOf : MethodName := ⟨RX6, "orderOf", "(I)I"⟩
abbrev cX6_readsPart : ByteArray := prog_8_method_79_code
def yX6_readsPart : MethodName := ⟨RX6, "readsPart", "(I)Z"⟩
abbrev cX6_readsOrder : ByteArray := prog_8_method_80_code
def yX6_readsOrder : MethodName := ⟨RX6, "readsOrder", "()I"⟩
abbrev cX6_faultOf : ByteArray := prog_8_method_81_code
def yX6_faultOf : MethodName := ⟨RX6, "faultOf", "()I"⟩
abbrev cX6_fault : ByteArray := prog_8_method_82_code
def yX6_fault : MethodName := ⟨RX6, "fault", "()I"⟩
abbrev cX6_does : ByteArray := prog_8_method_83_code
def yX6_does : MethodName := ⟨RX6, "does", "(I)Z"⟩
abbrev cX6_carryOut : ByteArray := prog_8_method_84_code
def yX6_carryOut : MethodName := ⟨RX6, "carryOut", "()I"⟩
def RJx8e188 : String := "java/lang/Cloneable"
def RJ9 : String := "java/lang/Math"
abbrev cJ9_max_7cf53 : ByteArray := prog_10_method_65_code
def yJ9_max_7cf53 : MethodName := ⟨RJ9, "max", "(II)I"⟩
abbrev cJ9_max_f86c9 : ByteArray := prog_10_method_66_code
def yJ9_max_f86c9 : MethodName := ⟨RJ9, "max", "(JJ)J"⟩
abbrev cJ9_min_7cf53 : ByteArray := prog_10_method_69_code
def yJ9_min_7cf53 : MethodName := ⟨RJ9, "min", "(II)I"⟩
abbrev cJ9_min_f86c9 : ByteArray := prog_10_method_70_code
def yJ9_min_f86c9 : MethodName := ⟨RJ9, "min", "(JJ)J"⟩
def RJ0 : String := "java/lang/String"
abbrev cJ0_length_8abf5 : ByteArray := prog_11_method_54_code
def yJ0_length_8abf5 : MethodName := ⟨RJ0, "length", "()I"⟩
abbrev cJ0_isEmpty_aae02 : ByteArray := prog_11_method_55_code
def yJ0_isEmpty_aae02 : MethodName := ⟨RJ0, "isEmpty", "()Z"⟩
abbrev cJ0_charAt_5068e : ByteArray := prog_11_method_56_code
def yJ0_charAt_5068e : MethodName := ⟨RJ0, "charAt", "(I)C"⟩
abbrev cJ0_coder_7d493 : ByteArray := prog_11_method_152_code
def yJ0_coder_7d493 : MethodName := ⟨RJ0, "coder", "()B"⟩
abbrev cJ0_isLatin1_aae02 : ByteArray := prog_11_method_154_code
def yJ0_isLatin1_aae02 : MethodName := ⟨RJ0, "isLatin1", "()Z"⟩
abbrev cJ0_checkIndex_df160 : ByteArray := prog_11_method_155_code
def yJ0_checkIndex_df160 : MethodName := ⟨RJ0, "checkIndex", "(II)V"⟩
def RJ1 : String := "java/lang/StringLatin1"
abbrev cJ1_charAt_3b067 : ByteArray := prog_12_method_2_code
def yJ1_charAt_3b067 : MethodName := ⟨RJ1, "charAt", "([BI)C"⟩
def RJ2 : String := "java/lang/StringUTF16"
abbrev cJ2_getChar_3b067 : ByteArray := prog_13_method_5_code
def yJ2_getChar_3b067 : MethodName := ⟨RJ2, "getChar", "([BI)C"⟩
abbrev cJ2_length_9d52b : ByteArray := prog_13_method_6_code
def yJ2_length_9d52b : MethodName := ⟨RJ2, "length", "([B)I"⟩
abbrev cJ2_charAt_3b067 : ByteArray := prog_13_method_83_code
def yJ2_charAt_3b067 : MethodName := ⟨RJ2, "charAt", "([BI)C"⟩
abbrev cJ2_checkIndex_2214a : ByteArray := prog_13_method_91_code
def yJ2_checkIndex_2214a : MethodName := ⟨RJ2, "checkIndex", "(I[B)V"⟩
def RJ10 : String := "java/lang/System"
def RJ3 : String := "jdk/internal/util/Preconditions"
abbrev cJ3_checkIndex_8e157 : ByteArray := prog_15_method_11_code
def yJ3_checkIndex_8e157 : MethodName := ⟨RJ3, "checkIndex", "(IILjava/util/function/BiFunction;)I"⟩
def RL : String := "ErrorBudgetsLaw"
abbrev cL_law : ByteArray := code
def yL_law : MethodName := ⟨RL, "law", "([I)Z"⟩
abbrev vwCl : List vw_C := [(RX0, TX0, 3), (RX1, TX1, 14), (RX2, TX2, 6), (RX3, TX3, 6), (RX4, TX4, 9), (RX5, TX5, 7), (RX6, TX6, 14)]
end
section

/-! The layer: a method's body over a world of cells, as a predicate of its pc, locals, operands and cells. -/
def zTBL : List Cond := lw_tbl.filter goodWord
def zNst : Cond → Bool
  | .fieldLinkNest .. => true
  | .methodLinkNest .. => true
  | _ => false
def zNST : List Cond := tables_1.filter zNst
theorem zT_in {w : Cond} (i : Nat) (h : lw_tbl[i]? = some w) (hg : goodWord w = true) : w ∈ zTBL := List.mem_filter.mpr ⟨List.mem_of_getElem? h, hg⟩
theorem zN_in {w : Cond} (i : Nat) (h : tables_1[i]? = some w) (hg : zNst w = true) : w ∈ zNST := List.mem_filter.mpr ⟨List.mem_of_getElem? h, hg⟩
theorem zNst_tab {w : Cond} (h : zNst w = true) : w.onTables = true := by
  cases w <;> first | rfl | (simp [zNst] at h; done)
theorem zN_tab {w : Cond} (h : w ∈ zNST) : w.onTables = true := zNst_tab (List.mem_filter.mp h).2
theorem zN_warm {s U : State} (hW : s.WarmedH U.vm) (h : ∀ w ∈ zNST, va_Nw w s) : ∀ w ∈ zNST, va_Nw w U := by
  intro w hw
  have h1 := h w hw
  have h2 := (List.mem_filter.mp hw).2
  cases w <;> first | exact va_Nw.warmF hW h1 | exact va_Nw.warmM hW h1 | (simp [zNst] at h2; done)
/-- the launch's class numbers, its array classes, the addresses of the three static arrays, of the String constants and their bytes -/
abbrev zG : Type := va_G × (Nat → ClassId) × (Nat → Nat) × (Nat → Nat) × (Nat → Nat)
def zty (c : Nat → ClassId) : List (ClassId × FieldType) := [(c 0, .int), (c 1, .long), (c 2, .boolean), (c 3, .char), (c 4, .object "ErrorBudgets$House")]
def zFI : Nat → Int32 := fun j => ([168, 25, 10, 10, 20, 48, 3, 1] : List Int32).getD j 0
def zLO : Nat → Int32 := fun j => ([12, 0, 0, 0, 0, 0, 0, 0] : List Int32).getD j 0
def zHI : Nat → Int32 := fun j => ([720, 100, 100, 100, 100, 300, 10, 9] : List Int32).getD j 0
def zSlen : List Nat := [5, 4, 7, 7, 1, 0]
def zSbyt : List (List Int32) := [[115, 42, 110, 37, 110], [115, 42, 110, 33], [115, 62, 115, 42, 110, 47, 100], [115, 64, 110, 42, 110, 94, 100], [110], []]
def zSidx (i : Nat) : Nat := 67 + 2 * i
def zStx (i : Nat) : String := (["s*n%n", "s*n!", "s>s*n/d", "s@n*n^d", "n", ""] : List String).getD i ""
def zFc (t : Nat) (cA : ClassId) (A : Nat → Prop) (H : Heap) : Prop := ∃ cell : Cell, H[t]? = some cell ∧ cell.cls = cA ∧ cell.vm = .none ∧ cell.slots = (vp_cell cA (8, .inl zFI)).slots ∧ ¬ A t
def zRF : String := "jdk/internal/util/Preconditions"
def zZ (g : zG) (A : Nat → Prop) (U : State) (H : Heap) : Prop :=
  va_Z "ErrorBudgets" "FIRST" "[I" (.ref (g.2.2.1 0)) A U H ∧ zFc (g.2.2.1 0) (g.2.1 0) A H ∧
  va_Z "ErrorBudgets" "LOWEST" "[I" (.ref (g.2.2.1 1)) A U H ∧ va_T .int (g.2.2.1 1) 8 (fun j => .int (zLO j)) A U H ∧
  va_Z "ErrorBudgets" "HIGHEST" "[I" (.ref (g.2.2.1 2)) A U H ∧ va_T .int (g.2.2.1 2) 8 (fun j => .int (zHI j)) A U H ∧
  vk_S 6 zSlen zSbyt g.2.2.2.1 g.2.2.2.2 A U H ∧ (∀ i : Nat, i < 6 → vk_R RX3 (zSidx i) (zStx i) (g.2.2.2.1 i) U) ∧
  va_Z "java/lang/String" "COMPACT_STRINGS" "Z" (.int 1) A U H ∧ va_Zq zRF "SIOOBE_FORMATTER" "Ljava/util/function/BiFunction;" A U H ∧
  va_AO "ErrorBudgets$House" U ∧ va_Nw (.castable "[I" "java/lang/Cloneable") U
theorem zFc.kept {t : Nat} {cA : ClassId} {A : Nat → Prop} {H H1 : Heap} (h : zFc t cA A H) (hq : ∀ a : Nat, a < H.size → ¬ A a → H1[a]? = H[a]?) : zFc t cA A H1 := by
  obtain ⟨cell, h1, h2, h3, h4, h5⟩ := h
  exact ⟨cell, by rw [hq t (Array.getElem?_eq_some_iff.mp h1).1 h5]; exact h1, h2, h3, h4, h5⟩
theorem zFc.narrow {t : Nat} {cA : ClassId} {A B : Nat → Prop} {H : Heap} (h : zFc t cA A H) (hAB : ∀ q, B q → A q) : zFc t cA B H := by
  obtain ⟨cell, h1, h2, h3, h4, h5⟩ := h
  exact ⟨cell, h1, h2, h3, h4, fun z => h5 (hAB _ z)⟩
theorem zZ.call {g : zG} {A B : Nat → Prop} {s U : State} {H : Heap} {locs : List Loc} (h : zZ g A s s.heap) (hW : s.WarmedH U.vm) (hS : va_S A s.heap H locs) (hAB : ∀ q, B q → A q) : zZ g B U H := by
  obtain ⟨h1, h2, h3, h4, h5, h6, h7, h8, h9, h10, h11, h12⟩ := h
  have hq := hS.2.1
  exact ⟨((h1.moved hW.alike).kept hq).narrow hAB, (h2.kept hq).narrow hAB, ((h3.moved hW.alike).kept hq).narrow hAB, ((h4.moved hW.alike).kept hq).narrow hAB, ((h5.moved hW.alike).kept hq).narrow hAB, ((h6.moved hW.alike).kept hq).narrow hAB,
    ((h7.moved hW.alike).kept hq).narrow hAB, fun i hi => (h8 i hi).warm hW, ((h9.moved hW.alike).kept hq).narrow hAB, ((h10.moved hW.alike).kept hq).narrow hAB, h11.moved hW.alike, va_Nw.warmC hW h12⟩
theorem zZ.same {g : zG} {A : Nat → Prop} {s U : State} {H : Heap} (h : zZ g A s H) (hv : s.vm = U.vm) : zZ g A U H := by
  obtain ⟨h1, h2, h3, h4, h5, h6, h7, h8, h9, h10, h11, h12⟩ := h
  have ha : s.vm.Alike U.vm := by rw [hv]; exact Vm.Alike.refl _
  exact ⟨h1.moved ha, h2, h3.moved ha, h4.moved ha, h5.moved ha, h6.moved ha, h7.moved ha, fun i hi => (h8 i hi).same hv.symm, h9.moved ha, h10.moved ha, h11.moved ha, va_Nw.same rfl hv h12⟩
/-- the walk's fixed things: machine, method, the cells that may change, the locals' number, the cells and slots that may be made -/
abbrev zX : Type := (Program × Launch × Env × Room × State) × (MethodId × Array Value × List Frame × Method × Code) × (Nat → Prop) × Nat × Nat × Nat
abbrev zp (x : zX) : Program := x.1.1
abbrev zl (x : zX) : Launch := x.1.2.1
abbrev ze (x : zX) : Env := x.1.2.2.1
abbrev zRm (x : zX) : Room := x.1.2.2.2.1
abbrev zs (x : zX) : State := x.1.2.2.2.2
abbrev zm (x : zX) : MethodId := x.2.1.1
abbrev za (x : zX) : Array Value := x.2.1.2.1
abbrev zb (x : zX) : List Frame := x.2.1.2.2.1
abbrev zk (x : zX) : Method := x.2.1.2.2.2.1
abbrev zc (x : zX) : Code := x.2.1.2.2.2.2
abbrev zA (x : zX) : Nat → Prop := x.2.2.1
abbrev zn (x : zX) : Nat := x.2.2.2.1
abbrev zmc (x : zX) : Nat := x.2.2.2.2.1
abbrev zms (x : zX) : Nat := x.2.2.2.2.2
def zrm (f mc ms : Nat) : Room := { frames := f, cells := mc, slots := ms, locals := 36 * f }
def zPst (g : zG) (A : Nat → Prop) (post : Option Value → va_W → Prop) : Array Value → State → Outcome → State → Prop := fun _ st oc t =>
  (∃ (r : Option Value) (w : va_W), oc = .returned r ∧ post r w ∧ va_P g.1 vwCl w t.heap ∧ va_K g.1 vwCl (zty g.2.1) t ∧ va_D A w) ∧ va_F A st t
def zPre (g : zG) (ws : va_W) (sz : Nat) : State → Prop := fun U =>
  U.heap.size = sz ∧ va_P g.1 vwCl ws U.heap ∧ va_K g.1 vwCl (zty g.2.1) U ∧ va_D (fun _ => True) ws ∧ (∀ w ∈ zNST, va_Nw w U) ∧ zZ g (va_A ws sz) U U.heap
/-- a contract: from the cells ws the method y of these arguments comes back, and 'post' says of its answer and of the cells -/
def zM (l : Launch) (g : zG) (y : MethodName) (cc : ByteArray) (nL : Nat) (ret : Option FieldType) (f mc ms : Nat) (args : List Value) (ws : va_W) (post : Option Value → va_W → Prop) : Prop :=
  ∀ sz : Nat, Met l y (.code y cc nL ret :: zTBL) (zrm f mc ms) (va_Pc args (zPre g ws sz)) (zPst g (va_A ws sz) post) mc ms (va_A ws sz)
abbrev zE (r : Option Value) (w : va_W) : Option Value → va_W → Prop := fun r1 w1 => r1 = r ∧ w1 = w
def zC (x : zX) (g : zG) (own : String) (cc : ByteArray) (ret : Option FieldType) (f : Nat) : Prop :=
  ((zp x).tables.exec = Jvm.exec ∧ (zc x).code = cc ∧ (zc x).maxLocals = zn x ∧ (zs x).vm.findClass own = some (zm x).cls) ∧ (∀ w ∈ zTBL, w.before (za x) (zs x) = true) ∧
  va_K g.1 vwCl (zty g.2.1) (zs x) ∧ (∀ w ∈ zNST, va_Nw w (zs x)) ∧ zRm x = zrm f (zmc x) (zms x) ∧ (zk x).locks = false ∧ (zk x).sig.returnType = ret ∧ (∀ q, (zs x).heap.size ≤ q → zA x q) ∧ zZ g (zA x) (zs x) (zs x).heap
def zR (x : zX) (g : zG) (post : Option Value → va_W → Prop) (n : Nat × Nat) (pc : Nat) (lv : List (Nat × Value)) (st : List Value) (ws : va_W) : Prop :=
  ∀ (H : Heap) (locs : List Loc) (ls : Array Slot), va_P g.1 vwCl ws H → va_D (zA x) ws → va_S (zA x) (zs x).heap H locs → lv_has ls (zn x) lv →
    W (zp x) (zl x) (ze x) (zRm x) (zs x) (zm x) (za x) (zb x) (zk x) (zc x) H locs n.1 n.2 (MQ (zb x) (zPst g (zA x) post) (za x) (zs x) (zmc x) (zms x) (zA x)) (F0 (zm x) pc ls st)
def zD (cc : ByteArray) (pc : Nat) (i : Instr) (len pc2 : Nat) : Prop := decode cc pc = .ok (i, len) ∧ pc2 = pc + len
def zJ (cc : ByteArray) (pc : Nat) (i : Instr) (off : Int) (tgt len pc2 : Nat) : Prop := decode cc pc = .ok (i, len) ∧ pc2 = pc + len ∧ (pc : Int) + off = (tgt : Int)
/-- a contract, from the walk of its body -/
theorem zM_of {l : Launch} {g : zG} {y : MethodName} {cc : ByteArray} {nL : Nat} {ret : Option FieldType} {f mc ms : Nat} {args : List Value} {ws : va_W} {post : Option Value → va_W → Prop} (hy : plainName y.cls = true) (hlen : (lg_sl args).length ≤ nL)
    (k : ∀ x : zX, zl x = l → zn x = nL → zmc x = mc → zms x = ms → ((zk x).name = y.name) → zC x g y.cls cc ret f → zR x g post (0, 0) 0 (lv_args 0 args) [] ws) : zM l g y cc nL ret f mc ms args ws post := by
  intro sz
  refine Met.ofW (cc := cc) (maxL := nL) (ret := ret) hy rfl ?_
  intro p e s m av below meth c s₁ B hml hv
  obtain ⟨rfl, hsz, hP, hK, hD0, hN, hZ⟩ := hv
  subst hsz
  have hts : ∀ w ∈ zTBL, w.before args.toArray s = true := fun w hw => atoms_spec (ws := .code y cc nL ret :: zTBL) B.pre w (List.mem_cons_of_mem _ hw)
  have hin : meth.name = y.name := (name_of_methodNamed B.named B.method).1
  have hl := lv_entry args (n := nL) hlen
  rw [lg_entry_eq]
  exact k ((p, l, e, zrm f mc ms, s), (m, args.toArray, below, meth, c), va_A ws s.heap.size, nL, mc, ms) rfl rfl rfl rfl hin
    ⟨⟨B.exec, B.bytes, hml, findClass_of_methodNamed B.named⟩, hts, hK, hN, rfl, B.notSynchronized, B.returns, fun q h => Or.inr h, hZ⟩ s.heap [] _ hP hD0.self va_S.rf hl
section ZR
variable {x : zX} {g : zG} {own : String} {cc : ByteArray} {ret : Option FieldType} {f : Nat} {post : Option Value → va_W → Prop} {n : Nat × Nat} {pc pc' : Nat} {lv : List (Nat × Value)} {st : List Value} {ws : va_W}
theorem zR_case {v : Int32} (c : Int32) (kt : v = c → zR x g post n pc lv (.int v :: st) ws) (kf : ¬ v = c → zR x g post n pc lv (.int v :: st) ws) : zR x g post n pc lv (.int v :: st) ws := if h : v = c then kt h else kf h
theorem zR_by {p : Prop} (kt : p → zR x g post n pc lv st ws) (kf : ¬ p → zR x g post n pc lv st ws) : zR x g post n pc lv st ws := (Classical.em p).elim kt kf
theorem zR_lv (lv' : List (Nat × Value)) (ks : List Nat) (h : lv_pick lv ks = lv') (k : zR x g post n pc lv' st ws) : zR x g post n pc lv st ws := fun H locs ls hP hD hS hl => k H locs ls hP hD hS (lv_sub hl ks h)
theorem zR_eq {lv' : List (Nat × Value)} {st' : List Value} {ws' : va_W} (h1 : lv = lv') (h2 : st = st') (h3 : ws = ws') (k : zR x g post n pc lv' st' ws') : zR x g post n pc lv st ws := by subst h1 h2 h3; exact k
theorem zR_topi {a : Int32} {b : Int32} (h : a = b) (k : zR x g post n pc lv (.int b :: st) ws) : zR x g post n pc lv (.int a :: st) ws := by subst h; exact k
theorem zR_topl {a : Int64} {b : Int64} (h : a = b) (k : zR x g post n pc lv (.long b :: st) ws) : zR x g post n pc lv (.long a :: st) ws := by subst h; exact k
theorem zR_ws (ws' : va_W) (h : ws = ws') (k : zR x g post n pc lv st ws') : zR x g post n pc lv st ws := by subst h; exact k

theorem zR_iconst (C : zC x g own cc ret f) {i : Int} {v : Int32} (d : zD cc pc (.iconst i) 1 pc') (hv : Int32.ofInt i = v) (k : zR x g post n pc' lv (.int v :: st) ws) : zR x g post n pc lv st ws := by
  obtain ⟨d, rfl⟩ := d
  exact fun H locs ls hP hD hS hl => lv_iconst C.1.1 C.1.2.1 d hv (k H locs ls hP hD hS hl)
theorem zR_bipush (C : zC x g own cc ret f) {i : Int} {v : Int32} (d : zD cc pc (.bipush i) 2 pc') (hv : (Int8.ofInt i).toInt32 = v) (k : zR x g post n pc' lv (.int v :: st) ws) : zR x g post n pc lv st ws := by
  obtain ⟨d, rfl⟩ := d
  exact fun H locs ls hP hD hS hl => lv_bipush C.1.1 C.1.2.1 d hv (k H locs ls hP hD hS hl)
theorem zR_sipush (C : zC x g own cc ret f) {i : Int} {v : Int32} (d : zD cc pc (.sipush i) 3 pc') (hv : (Int16.ofInt i).toInt32 = v) (k : zR x g post n pc' lv (.int v :: st) ws) : zR x g post n pc lv st ws := by
  obtain ⟨d, rfl⟩ := d
  exact fun H locs ls hP hD hS hl => lv_sipush C.1.1 C.1.2.1 d hv (k H locs ls hP hD hS hl)
theorem zR_lconst (C : zC x g own cc ret f) {i : Fin 2} {v : Int64} (d : zD cc pc (.lconst i) 1 pc') (hv : Int64.ofNat (i : Nat) = v) (k : zR x g post n pc' lv (.long v :: st) ws) : zR x g post n pc lv st ws := by
  obtain ⟨d, rfl⟩ := d
  exact fun H locs ls hP hD hS hl => lv_lconst C.1.1 C.1.2.1 d hv (k H locs ls hP hD hS hl)
theorem zR_iload_n (C : zC x g own cc ret f) {q : Fin 4} {j : Nat} {v : Int32} (d : zD cc pc (.iload_n q) 1 pc') (p : Nat) (hj : lv[p]? = some (j, .int v)) (hq : (q : Nat) = j) (k : zR x g post n pc' lv (.int v :: st) ws) : zR x g post n pc lv st ws := by
  obtain ⟨d, rfl⟩ := d
  exact fun H locs ls hP hD hS hl => lv_iload_n C.1.1 C.1.2.1 d hq (lv_at hl p hj) (k H locs ls hP hD hS hl)
theorem zR_iload (C : zC x g own cc ret f) {j : Nat} {v : Int32} (d : zD cc pc (.iload j) 2 pc') (p : Nat) (hj : lv[p]? = some (j, .int v)) (k : zR x g post n pc' lv (.int v :: st) ws) : zR x g post n pc lv st ws := by
  obtain ⟨d, rfl⟩ := d
  exact fun H locs ls hP hD hS hl => lv_iload C.1.1 C.1.2.1 d (lv_at hl p hj) (k H locs ls hP hD hS hl)
theorem zR_lload_n (C : zC x g own cc ret f) {q : Fin 4} {j : Nat} {v : Int64} (d : zD cc pc (.lload_n q) 1 pc') (p : Nat) (hj : lv[p]? = some (j, .long v)) (hq : (q : Nat) = j) (k : zR x g post n pc' lv (.long v :: st) ws) : zR x g post n pc lv st ws := by
  obtain ⟨d, rfl⟩ := d
  exact fun H locs ls hP hD hS hl => lv_lload_n C.1.1 C.1.2.1 d hq (lv_at hl p hj) (k H locs ls hP hD hS hl)
theorem zR_lload (C : zC x g own cc ret f) {j : Nat} {v : Int64} (d : zD cc pc (.lload j) 2 pc') (p : Nat) (hj : lv[p]? = some (j, .long v)) (k : zR x g post n pc' lv (.long v :: st) ws) : zR x g post n pc lv st ws := by
  obtain ⟨d, rfl⟩ := d
  exact fun H locs ls hP hD hS hl => lv_lload C.1.1 C.1.2.1 d (lv_at hl p hj) (k H locs ls hP hD hS hl)
theorem zR_aload_n (C : zC x g own cc ret f) {q : Fin 4} {j v : Nat} (d : zD cc pc (.aload_n q) 1 pc') (p : Nat) (hj : lv[p]? = some (j, .ref v)) (hq : (q : Nat) = j) (k : zR x g post n pc' lv (.ref v :: st) ws) : zR x g post n pc lv st ws := by
  obtain ⟨d, rfl⟩ := d
  exact fun H locs ls hP hD hS hl => lv_aload_n C.1.1 C.1.2.1 d hq (lv_at hl p hj) (k H locs ls hP hD hS hl)
theorem zR_aload (C : zC x g own cc ret f) {j v : Nat} (d : zD cc pc (.aload j) 2 pc') (p : Nat) (hj : lv[p]? = some (j, .ref v)) (k : zR x g post n pc' lv (.ref v :: st) ws) : zR x g post n pc lv st ws := by
  obtain ⟨d, rfl⟩ := d
  exact fun H locs ls hP hD hS hl => lv_aload C.1.1 C.1.2.1 d (lv_at hl p hj) (k H locs ls hP hD hS hl)
theorem zR_istore_n (C : zC x g own cc ret f) {q : Fin 4} {i : Nat} {v : Int32} {lv' : List (Nat × Value)} (d : zD cc pc (.istore_n q) 1 pc') (hq : (q : Nat) = i) (hi : i < zn x) (hlv : (i, Value.int v) :: lv.filter (fun q => !(q.1 == i) && !(q.1 + 1 == i && q.2.category == 2)) = lv') (k : zR x g post n pc' lv' st ws) : zR x g post n pc lv (.int v :: st) ws := by
  obtain ⟨d, rfl⟩ := d
  exact fun H locs ls hP hD hS hl => lv_istore_n C.1.1 C.1.2.1 d hq hl hi hlv (fun ls' hl' => k H locs ls' hP hD hS hl')
theorem zR_istore (C : zC x g own cc ret f) {i : Nat} {v : Int32} {lv' : List (Nat × Value)} (d : zD cc pc (.istore i) 2 pc') (hi : i < zn x) (hlv : (i, Value.int v) :: lv.filter (fun q => !(q.1 == i) && !(q.1 + 1 == i && q.2.category == 2)) = lv') (k : zR x g post n pc' lv' st ws) : zR x g post n pc lv (.int v :: st) ws := by
  obtain ⟨d, rfl⟩ := d
  exact fun H locs ls hP hD hS hl => lv_istore C.1.1 C.1.2.1 d hl hi hlv (fun ls' hl' => k H locs ls' hP hD hS hl')
theorem zR_lstore_n (C : zC x g own cc ret f) {q : Fin 4} {i : Nat} {v : Int64} {lv' : List (Nat × Value)} (d : zD cc pc (.lstore_n q) 1 pc') (hq : (q : Nat) = i) (hi : i + 1 < zn x) (hlv : (i, Value.long v) :: lv.filter (fun q => !(q.1 == i) && (!(q.1 == i + 1) && !(q.1 + 1 == i && q.2.category == 2))) = lv') (k : zR x g post n pc' lv' st ws) : zR x g post n pc lv (.long v :: st) ws := by
  obtain ⟨d, rfl⟩ := d
  exact fun H locs ls hP hD hS hl => lv_lstore_n C.1.1 C.1.2.1 d hq hl hi hlv (fun ls' hl' => k H locs ls' hP hD hS hl')
theorem zR_lstore (C : zC x g own cc ret f) {i : Nat} {v : Int64} {lv' : List (Nat × Value)} (d : zD cc pc (.lstore i) 2 pc') (hi : i + 1 < zn x) (hlv : (i, Value.long v) :: lv.filter (fun q => !(q.1 == i) && (!(q.1 == i + 1) && !(q.1 + 1 == i && q.2.category == 2))) = lv') (k : zR x g post n pc' lv' st ws) : zR x g post n pc lv (.long v :: st) ws := by
  obtain ⟨d, rfl⟩ := d
  exact fun H locs ls hP hD hS hl => lv_lstore C.1.1 C.1.2.1 d hl hi hlv (fun ls' hl' => k H locs ls' hP hD hS hl')
theorem zR_astore_n (C : zC x g own cc ret f) {q : Fin 4} {i : Nat} {v : Nat} {lv' : List (Nat × Value)} (d : zD cc pc (.astore_n q) 1 pc') (hq : (q : Nat) = i) (hi : i < zn x) (hlv : (i, Value.ref v) :: lv.filter (fun q => !(q.1 == i) && !(q.1 + 1 == i && q.2.category == 2)) = lv') (k : zR x g post n pc' lv' st ws) : zR x g post n pc lv (.ref v :: st) ws := by
  obtain ⟨d, rfl⟩ := d
  exact fun H locs ls hP hD hS hl => lv_astore_n C.1.1 C.1.2.1 d hq hl hi hlv (fun ls' hl' => k H locs ls' hP hD hS hl')
theorem zR_astore (C : zC x g own cc ret f) {i : Nat} {v : Nat} {lv' : List (Nat × Value)} (d : zD cc pc (.astore i) 2 pc') (hi : i < zn x) (hlv : (i, Value.ref v) :: lv.filter (fun q => !(q.1 == i) && !(q.1 + 1 == i && q.2.category == 2)) = lv') (k : zR x g post n pc' lv' st ws) : zR x g post n pc lv (.ref v :: st) ws := by
  obtain ⟨d, rfl⟩ := d
  exact fun H locs ls hP hD hS hl => lv_astore C.1.1 C.1.2.1 d hl hi hlv (fun ls' hl' => k H locs ls' hP hD hS hl')
theorem zR_iinc (C : zC x g own cc ret f) {i : Nat} {a : Int} {v v' : Int32} {lv' : List (Nat × Value)} (d : zD cc pc (.iinc i a) 3 pc') (p : Nat) (hj : lv[p]? = some (i, .int v)) (hv : v + Int32.ofInt a = v') (hi : i < zn x) (hlv : (i, Value.int v') :: lv.filter (fun q => !(q.1 == i) && !(q.1 + 1 == i && q.2.category == 2)) = lv') (k : zR x g post n pc' lv' st ws) : zR x g post n pc lv st ws := by
  obtain ⟨d, rfl⟩ := d
  exact fun H locs ls hP hD hS hl => lv_iinc C.1.1 C.1.2.1 d hl hj hv hi hlv (fun ls' hl' => k H locs ls' hP hD hS hl')
theorem zR_iadd (C : zC x g own cc ret f) {a b : Int32} (d : zD cc pc (.iadd) 1 pc') (k : zR x g post n pc' lv (.int (a + b) :: st) ws) : zR x g post n pc lv (.int b :: .int a :: st) ws := by
  obtain ⟨d, rfl⟩ := d
  exact fun H locs ls hP hD hS hl => lv_iadd C.1.1 C.1.2.1 d (k H locs ls hP hD hS hl)
theorem zR_isub (C : zC x g own cc ret f) {a b : Int32} (d : zD cc pc (.isub) 1 pc') (k : zR x g post n pc' lv (.int (a - b) :: st) ws) : zR x g post n pc lv (.int b :: .int a :: st) ws := by
  obtain ⟨d, rfl⟩ := d
  exact fun H locs ls hP hD hS hl => lv_isub C.1.1 C.1.2.1 d (k H locs ls hP hD hS hl)
theorem zR_imul (C : zC x g own cc ret f) {a b : Int32} (d : zD cc pc (.imul) 1 pc') (k : zR x g post n pc' lv (.int (a * b) :: st) ws) : zR x g post n pc lv (.int b :: .int a :: st) ws := by
  obtain ⟨d, rfl⟩ := d
  exact fun H locs ls hP hD hS hl => lv_imul C.1.1 C.1.2.1 d (k H locs ls hP hD hS hl)
theorem zR_iand (C : zC x g own cc ret f) {a b : Int32} (d : zD cc pc (.iand) 1 pc') (k : zR x g post n pc' lv (.int (a &&& b) :: st) ws) : zR x g post n pc lv (.int b :: .int a :: st) ws := by
  obtain ⟨d, rfl⟩ := d
  exact fun H locs ls hP hD hS hl => lv_iand C.1.1 C.1.2.1 d (k H locs ls hP hD hS hl)
theorem zR_ior (C : zC x g own cc ret f) {a b : Int32} (d : zD cc pc (.ior) 1 pc') (k : zR x g post n pc' lv (.int (a ||| b) :: st) ws) : zR x g post n pc lv (.int b :: .int a :: st) ws := by
  obtain ⟨d, rfl⟩ := d
  exact fun H locs ls hP hD hS hl => lv_ior C.1.1 C.1.2.1 d (k H locs ls hP hD hS hl)
theorem zR_ixor (C : zC x g own cc ret f) {a b : Int32} (d : zD cc pc (.ixor) 1 pc') (k : zR x g post n pc' lv (.int (a ^^^ b) :: st) ws) : zR x g post n pc lv (.int b :: .int a :: st) ws := by
  obtain ⟨d, rfl⟩ := d
  exact fun H locs ls hP hD hS hl => lv_ixor C.1.1 C.1.2.1 d (k H locs ls hP hD hS hl)
theorem zR_ladd (C : zC x g own cc ret f) {a b : Int64} (d : zD cc pc (.ladd) 1 pc') (k : zR x g post n pc' lv (.long (a + b) :: st) ws) : zR x g post n pc lv (.long b :: .long a :: st) ws := by
  obtain ⟨d, rfl⟩ := d
  exact fun H locs ls hP hD hS hl => lv_ladd C.1.1 C.1.2.1 d (k H locs ls hP hD hS hl)
theorem zR_lsub (C : zC x g own cc ret f) {a b : Int64} (d : zD cc pc (.lsub) 1 pc') (k : zR x g post n pc' lv (.long (a - b) :: st) ws) : zR x g post n pc lv (.long b :: .long a :: st) ws := by
  obtain ⟨d, rfl⟩ := d
  exact fun H locs ls hP hD hS hl => lv_lsub C.1.1 C.1.2.1 d (k H locs ls hP hD hS hl)
theorem zR_lmul (C : zC x g own cc ret f) {a b : Int64} (d : zD cc pc (.lmul) 1 pc') (k : zR x g post n pc' lv (.long (a * b) :: st) ws) : zR x g post n pc lv (.long b :: .long a :: st) ws := by
  obtain ⟨d, rfl⟩ := d
  exact fun H locs ls hP hD hS hl => lv_lmul C.1.1 C.1.2.1 d (k H locs ls hP hD hS hl)
theorem zR_land (C : zC x g own cc ret f) {a b : Int64} (d : zD cc pc (.land) 1 pc') (k : zR x g post n pc' lv (.long (a &&& b) :: st) ws) : zR x g post n pc lv (.long b :: .long a :: st) ws := by
  obtain ⟨d, rfl⟩ := d
  exact fun H locs ls hP hD hS hl => lv_land C.1.1 C.1.2.1 d (k H locs ls hP hD hS hl)
theorem zR_lor (C : zC x g own cc ret f) {a b : Int64} (d : zD cc pc (.lor) 1 pc') (k : zR x g post n pc' lv (.long (a ||| b) :: st) ws) : zR x g post n pc lv (.long b :: .long a :: st) ws := by
  obtain ⟨d, rfl⟩ := d
  exact fun H locs ls hP hD hS hl => lv_lor C.1.1 C.1.2.1 d (k H locs ls hP hD hS hl)
theorem zR_idiv (C : zC x g own cc ret f) {a b : Int32} (d : zD cc pc (.idiv) 1 pc') (h0 : ¬ b = 0) (k : zR x g post n pc' lv (.int (a / b) :: st) ws) : zR x g post n pc lv (.int b :: .int a :: st) ws := by
  obtain ⟨d, rfl⟩ := d
  exact fun H locs ls hP hD hS hl => lv_idiv C.1.1 C.1.2.1 d h0 (k H locs ls hP hD hS hl)
theorem zR_irem (C : zC x g own cc ret f) {a b : Int32} (d : zD cc pc (.irem) 1 pc') (h0 : ¬ b = 0) (k : zR x g post n pc' lv (.int (a - a / b * b) :: st) ws) : zR x g post n pc lv (.int b :: .int a :: st) ws := by
  obtain ⟨d, rfl⟩ := d
  exact fun H locs ls hP hD hS hl => lv_irem C.1.1 C.1.2.1 d h0 (k H locs ls hP hD hS hl)
theorem zR_ldiv (C : zC x g own cc ret f) {a b : Int64} (d : zD cc pc (.ldiv) 1 pc') (h0 : ¬ b = 0) (k : zR x g post n pc' lv (.long (a / b) :: st) ws) : zR x g post n pc lv (.long b :: .long a :: st) ws := by
  obtain ⟨d, rfl⟩ := d
  exact fun H locs ls hP hD hS hl => lv_ldiv C.1.1 C.1.2.1 d h0 (k H locs ls hP hD hS hl)
theorem zR_ineg (C : zC x g own cc ret f) {a : Int32} (d : zD cc pc (.ineg) 1 pc') (k : zR x g post n pc' lv (.int (-a) :: st) ws) : zR x g post n pc lv (.int a :: st) ws := by
  obtain ⟨d, rfl⟩ := d
  exact fun H locs ls hP hD hS hl => lv_ineg C.1.1 C.1.2.1 d (k H locs ls hP hD hS hl)
theorem zR_lneg (C : zC x g own cc ret f) {a : Int64} (d : zD cc pc (.lneg) 1 pc') (k : zR x g post n pc' lv (.long (-a) :: st) ws) : zR x g post n pc lv (.long a :: st) ws := by
  obtain ⟨d, rfl⟩ := d
  exact fun H locs ls hP hD hS hl => lv_lneg C.1.1 C.1.2.1 d (k H locs ls hP hD hS hl)
theorem zR_ishl (C : zC x g own cc ret f) {a b : Int32} (d : zD cc pc (.ishl) 1 pc') (k : zR x g post n pc' lv (.int (a <<< (b &&& 31)) :: st) ws) : zR x g post n pc lv (.int b :: .int a :: st) ws := by
  obtain ⟨d, rfl⟩ := d
  exact fun H locs ls hP hD hS hl => lv_ishl C.1.1 C.1.2.1 d (k H locs ls hP hD hS hl)
theorem zR_ishr (C : zC x g own cc ret f) {a b : Int32} (d : zD cc pc (.ishr) 1 pc') (k : zR x g post n pc' lv (.int (a >>> (b &&& 31)) :: st) ws) : zR x g post n pc lv (.int b :: .int a :: st) ws := by
  obtain ⟨d, rfl⟩ := d
  exact fun H locs ls hP hD hS hl => lv_ishr C.1.1 C.1.2.1 d (k H locs ls hP hD hS hl)
theorem zR_i2l (C : zC x g own cc ret f) {a : Int32} (d : zD cc pc (.i2l) 1 pc') (k : zR x g post n pc' lv (.long a.toInt64 :: st) ws) : zR x g post n pc lv (.int a :: st) ws := by
  obtain ⟨d, rfl⟩ := d
  exact fun H locs ls hP hD hS hl => lv_i2l C.1.1 C.1.2.1 d rfl (k H locs ls hP hD hS hl)
theorem zR_l2i (C : zC x g own cc ret f) {a : Int64} {v : Int32} (d : zD cc pc (.l2i) 1 pc') (hv : a.toInt32 = v) (k : zR x g post n pc' lv (.int v :: st) ws) : zR x g post n pc lv (.long a :: st) ws := by
  obtain ⟨d, rfl⟩ := d
  exact fun H locs ls hP hD hS hl => lv_l2i C.1.1 C.1.2.1 d hv (k H locs ls hP hD hS hl)
theorem zR_dup (C : zC x g own cc ret f) {v : Value} (d : zD cc pc (.dup) 1 pc') (hc : v.category = 1) (k : zR x g post n pc' lv (v :: v :: st) ws) : zR x g post n pc lv (v :: st) ws := by
  obtain ⟨d, rfl⟩ := d
  exact fun H locs ls hP hD hS hl => lv_dup C.1.1 C.1.2.1 d hc (k H locs ls hP hD hS hl)
theorem zR_pop (C : zC x g own cc ret f) {v : Value} (d : zD cc pc (.pop) 1 pc') (hc : v.category = 1) (k : zR x g post n pc' lv st ws) : zR x g post n pc lv (v :: st) ws := by
  obtain ⟨d, rfl⟩ := d
  exact fun H locs ls hP hD hS hl => lv_pop C.1.1 C.1.2.1 d hc (k H locs ls hP hD hS hl)
theorem zR_dup2 (C : zC x g own cc ret f) {v w : Value} (d : zD cc pc (.dup2) 1 pc') (hc : v.category = 1) (hw : w.category = 1) (k : zR x g post n pc' lv (v :: w :: v :: w :: st) ws) : zR x g post n pc lv (v :: w :: st) ws := by
  obtain ⟨d, rfl⟩ := d
  exact fun H locs ls hP hD hS hl => lv_dup2_11 C.1.1 C.1.2.1 d hc hw (k H locs ls hP hD hS hl)
theorem zR_goto (C : zC x g own cc ret f) {off : Int} {tgt : Nat} (d : zJ cc pc (.goto off) off tgt 3 pc') (k : zR x g post n tgt lv st ws) : zR x g post n pc lv st ws := fun H locs ls hP hD hS hl => lv_goto C.1.1 C.1.2.1 d.1 d.2.2 (k H locs ls hP hD hS hl)
theorem zR_ifeq (C : zC x g own cc ret f) {a : Int32} {off : Int} {tgt : Nat} (d : zJ cc pc (.ifCond .eq off) off tgt 3 pc') (kt : a = 0 → zR x g post n tgt lv st ws) (kf : ¬ a = 0 → zR x g post n pc' lv st ws) : zR x g post n pc lv (.int a :: st) ws := by
  obtain ⟨d, rfl, dj⟩ := d
  exact fun H locs ls hP hD hS hl => lv_if_eq C.1.1 C.1.2.1 d dj (fun h => kt (h) H locs ls hP hD hS hl) (fun h => kf (h) H locs ls hP hD hS hl)
theorem zR_ifne (C : zC x g own cc ret f) {a : Int32} {off : Int} {tgt : Nat} (d : zJ cc pc (.ifCond .ne off) off tgt 3 pc') (kt : ¬ a = 0 → zR x g post n tgt lv st ws) (kf : a = 0 → zR x g post n pc' lv st ws) : zR x g post n pc lv (.int a :: st) ws := by
  obtain ⟨d, rfl, dj⟩ := d
  exact fun H locs ls hP hD hS hl => lv_if_ne C.1.1 C.1.2.1 d dj (fun h => kt (h) H locs ls hP hD hS hl) (fun h => kf (h) H locs ls hP hD hS hl)
theorem zR_iflt (C : zC x g own cc ret f) {a : Int32} {off : Int} {tgt : Nat} (d : zJ cc pc (.ifCond .lt off) off tgt 3 pc') (kt : a < 0 → zR x g post n tgt lv st ws) (kf : ¬ a < 0 → zR x g post n pc' lv st ws) : zR x g post n pc lv (.int a :: st) ws := by
  obtain ⟨d, rfl, dj⟩ := d
  exact fun H locs ls hP hD hS hl => lv_if_lt C.1.1 C.1.2.1 d dj (fun h => kt (h) H locs ls hP hD hS hl) (fun h => kf (h) H locs ls hP hD hS hl)
theorem zR_ifge (C : zC x g own cc ret f) {a : Int32} {off : Int} {tgt : Nat} (d : zJ cc pc (.ifCond .ge off) off tgt 3 pc') (kt : ¬ a < 0 → zR x g post n tgt lv st ws) (kf : a < 0 → zR x g post n pc' lv st ws) : zR x g post n pc lv (.int a :: st) ws := by
  obtain ⟨d, rfl, dj⟩ := d
  exact fun H locs ls hP hD hS hl => lv_if_ge C.1.1 C.1.2.1 d dj (fun h => kt (Int32.not_lt.mpr h) H locs ls hP hD hS hl) (fun h => kf (Int32.not_le.mp h) H locs ls hP hD hS hl)
theorem zR_ifgt (C : zC x g own cc ret f) {a : Int32} {off : Int} {tgt : Nat} (d : zJ cc pc (.ifCond .gt off) off tgt 3 pc') (kt : ¬ a ≤ 0 → zR x g post n tgt lv st ws) (kf : a ≤ 0 → zR x g post n pc' lv st ws) : zR x g post n pc lv (.int a :: st) ws := by
  obtain ⟨d, rfl, dj⟩ := d
  exact fun H locs ls hP hD hS hl => lv_if_gt C.1.1 C.1.2.1 d dj (fun h => kt (Int32.not_le.mpr h) H locs ls hP hD hS hl) (fun h => kf (Int32.not_lt.mp h) H locs ls hP hD hS hl)
theorem zR_ifle (C : zC x g own cc ret f) {a : Int32} {off : Int} {tgt : Nat} (d : zJ cc pc (.ifCond .le off) off tgt 3 pc') (kt : a ≤ 0 → zR x g post n tgt lv st ws) (kf : ¬ a ≤ 0 → zR x g post n pc' lv st ws) : zR x g post n pc lv (.int a :: st) ws := by
  obtain ⟨d, rfl, dj⟩ := d
  exact fun H locs ls hP hD hS hl => lv_if_le C.1.1 C.1.2.1 d dj (fun h => kt (h) H locs ls hP hD hS hl) (fun h => kf (h) H locs ls hP hD hS hl)
theorem zR_icmp_eq (C : zC x g own cc ret f) {a b : Int32} {off : Int} {tgt : Nat} (d : zJ cc pc (.if_icmp .eq off) off tgt 3 pc') (kt : a = b → zR x g post n tgt lv st ws) (kf : ¬ a = b → zR x g post n pc' lv st ws) : zR x g post n pc lv (.int b :: .int a :: st) ws := by
  obtain ⟨d, rfl, dj⟩ := d
  exact fun H locs ls hP hD hS hl => lv_icmp_eq C.1.1 C.1.2.1 d dj (fun h => kt (h) H locs ls hP hD hS hl) (fun h => kf (h) H locs ls hP hD hS hl)
theorem zR_icmp_ne (C : zC x g own cc ret f) {a b : Int32} {off : Int} {tgt : Nat} (d : zJ cc pc (.if_icmp .ne off) off tgt 3 pc') (kt : ¬ a = b → zR x g post n tgt lv st ws) (kf : a = b → zR x g post n pc' lv st ws) : zR x g post n pc lv (.int b :: .int a :: st) ws := by
  obtain ⟨d, rfl, dj⟩ := d
  exact fun H locs ls hP hD hS hl => lv_icmp_ne C.1.1 C.1.2.1 d dj (fun h => kt (h) H locs ls hP hD hS hl) (fun h => kf (h) H locs ls hP hD hS hl)
theorem zR_icmp_lt (C : zC x g own cc ret f) {a b : Int32} {off : Int} {tgt : Nat} (d : zJ cc pc (.if_icmp .lt off) off tgt 3 pc') (kt : a < b → zR x g post n tgt lv st ws) (kf : ¬ a < b → zR x g post n pc' lv st ws) : zR x g post n pc lv (.int b :: .int a :: st) ws := by
  obtain ⟨d, rfl, dj⟩ := d
  exact fun H locs ls hP hD hS hl => lv_icmp_lt C.1.1 C.1.2.1 d dj (fun h => kt (h) H locs ls hP hD hS hl) (fun h => kf (h) H locs ls hP hD hS hl)
theorem zR_icmp_ge (C : zC x g own cc ret f) {a b : Int32} {off : Int} {tgt : Nat} (d : zJ cc pc (.if_icmp .ge off) off tgt 3 pc') (kt : ¬ a < b → zR x g post n tgt lv st ws) (kf : a < b → zR x g post n pc' lv st ws) : zR x g post n pc lv (.int b :: .int a :: st) ws := by
  obtain ⟨d, rfl, dj⟩ := d
  exact fun H locs ls hP hD hS hl => lv_icmp_ge C.1.1 C.1.2.1 d dj (fun h => kt (Int32.not_lt.mpr h) H locs ls hP hD hS hl) (fun h => kf (Int32.not_le.mp h) H locs ls hP hD hS hl)
theorem zR_icmp_gt (C : zC x g own cc ret f) {a b : Int32} {off : Int} {tgt : Nat} (d : zJ cc pc (.if_icmp .gt off) off tgt 3 pc') (kt : ¬ a ≤ b → zR x g post n tgt lv st ws) (kf : a ≤ b → zR x g post n pc' lv st ws) : zR x g post n pc lv (.int b :: .int a :: st) ws := by
  obtain ⟨d, rfl, dj⟩ := d
  exact fun H locs ls hP hD hS hl => lv_icmp_gt C.1.1 C.1.2.1 d dj (fun h => kt (Int32.not_le.mpr h) H locs ls hP hD hS hl) (fun h => kf (Int32.not_lt.mp h) H locs ls hP hD hS hl)
theorem zR_icmp_le (C : zC x g own cc ret f) {a b : Int32} {off : Int} {tgt : Nat} (d : zJ cc pc (.if_icmp .le off) off tgt 3 pc') (kt : a ≤ b → zR x g post n tgt lv st ws) (kf : ¬ a ≤ b → zR x g post n pc' lv st ws) : zR x g post n pc lv (.int b :: .int a :: st) ws := by
  obtain ⟨d, rfl, dj⟩ := d
  exact fun H locs ls hP hD hS hl => lv_icmp_le C.1.1 C.1.2.1 d dj (fun h => kt (h) H locs ls hP hD hS hl) (fun h => kf (h) H locs ls hP hD hS hl)
def zB (b : Bool) : Int32 := cond b 1 0
theorem zB_0 {b : Bool} : zB b = 0 ↔ ¬ b = true := by cases b <;> decide
theorem zB_nar (b : Bool) : narrow .boolean (.int (zB b)) = .int (zB b) := by cases b <;> rfl
theorem zR_bfeq (C : zC x g own cc ret f) {b : Bool} {off : Int} {tgt : Nat} (d : zJ cc pc (.ifCond .eq off) off tgt 3 pc') (kt : ¬ b = true → zR x g post n tgt lv st ws) (kf : b = true → zR x g post n pc' lv st ws) : zR x g post n pc lv (.int (zB b) :: st) ws := zR_ifeq C d (fun h => kt (zB_0.mp h)) (fun h => kf (Classical.byContradiction fun q => h (zB_0.mpr q)))
theorem zR_bfne (C : zC x g own cc ret f) {b : Bool} {off : Int} {tgt : Nat} (d : zJ cc pc (.ifCond .ne off) off tgt 3 pc') (kt : b = true → zR x g post n tgt lv st ws) (kf : ¬ b = true → zR x g post n pc' lv st ws) : zR x g post n pc lv (.int (zB b) :: st) ws := zR_ifne C d (fun h => kt (Classical.byContradiction fun q => h (zB_0.mpr q))) (fun h => kf (zB_0.mp h))
theorem zR_ifeq_t (C : zC x g own cc ret f) {a : Int32} {off : Int} {tgt : Nat} (d : zJ cc pc (.ifCond .eq off) off tgt 3 pc') (h0 : a = 0) (k : zR x g post n tgt lv st ws) : zR x g post n pc lv (.int a :: st) ws := zR_ifeq C d (fun _ => k) (fun h => absurd h0 h)
theorem zR_ifeq_f (C : zC x g own cc ret f) {a : Int32} {off : Int} {tgt : Nat} (d : zJ cc pc (.ifCond .eq off) off tgt 3 pc') (h0 : ¬ a = 0) (k : zR x g post n pc' lv st ws) : zR x g post n pc lv (.int a :: st) ws := zR_ifeq C d (fun h => absurd h h0) (fun _ => k)
theorem zR_ifne_t (C : zC x g own cc ret f) {a : Int32} {off : Int} {tgt : Nat} (d : zJ cc pc (.ifCond .ne off) off tgt 3 pc') (h0 : ¬ a = 0) (k : zR x g post n tgt lv st ws) : zR x g post n pc lv (.int a :: st) ws := zR_ifne C d (fun _ => k) (fun h => absurd h h0)
theorem zR_ifne_f (C : zC x g own cc ret f) {a : Int32} {off : Int} {tgt : Nat} (d : zJ cc pc (.ifCond .ne off) off tgt 3 pc') (h0 : a = 0) (k : zR x g post n pc' lv st ws) : zR x g post n pc lv (.int a :: st) ws := zR_ifne C d (fun h => absurd h0 h) (fun _ => k)
theorem zR_iflt_t (C : zC x g own cc ret f) {a : Int32} {off : Int} {tgt : Nat} (d : zJ cc pc (.ifCond .lt off) off tgt 3 pc') (h0 : a < 0) (k : zR x g post n tgt lv st ws) : zR x g post n pc lv (.int a :: st) ws := zR_iflt C d (fun _ => k) (fun h => absurd h0 h)
theorem zR_iflt_f (C : zC x g own cc ret f) {a : Int32} {off : Int} {tgt : Nat} (d : zJ cc pc (.ifCond .lt off) off tgt 3 pc') (h0 : ¬ a < 0) (k : zR x g post n pc' lv st ws) : zR x g post n pc lv (.int a :: st) ws := zR_iflt C d (fun h => absurd h h0) (fun _ => k)
theorem zR_ifge_t (C : zC x g own cc ret f) {a : Int32} {off : Int} {tgt : Nat} (d : zJ cc pc (.ifCond .ge off) off tgt 3 pc') (h0 : ¬ a < 0) (k : zR x g post n tgt lv st ws) : zR x g post n pc lv (.int a :: st) ws := zR_ifge C d (fun _ => k) (fun h => absurd h h0)
theorem zR_ifge_f (C : zC x g own cc ret f) {a : Int32} {off : Int} {tgt : Nat} (d : zJ cc pc (.ifCond .ge off) off tgt 3 pc') (h0 : a < 0) (k : zR x g post n pc' lv st ws) : zR x g post n pc lv (.int a :: st) ws := zR_ifge C d (fun h => absurd h0 h) (fun _ => k)
theorem zR_lcmp (C : zC x g own cc ret f) {a b : Int64} (d : zD cc pc (.lcmp) 1 pc') (k : zR x g post n pc' lv (.int (lg_cmp a b) :: st) ws) : zR x g post n pc lv (.long b :: .long a :: st) ws := by
  obtain ⟨d, rfl⟩ := d
  exact fun H locs ls hP hD hS hl => W.lcmp C.1.1 C.1.2.1 d (k H locs ls hP hD hS hl)
theorem zR_cifeq (C : zC x g own cc ret f) {a b : Int64} {off : Int} {tgt p2 : Nat} (d : zD cc pc .lcmp 1 pc') (d2 : zJ cc pc' (.ifCond .eq off) off tgt 3 p2) (kt : a = b → zR x g post n tgt lv st ws) (kf : ¬ a = b → zR x g post n p2 lv st ws) : zR x g post n pc lv (.long b :: .long a :: st) ws := zR_lcmp C d (zR_ifeq C d2 (fun h => kt ((lg_cmp_eq a b).mp h)) (fun h => kf (fun q => h ((lg_cmp_eq a b).mpr q))))
theorem zR_cifne (C : zC x g own cc ret f) {a b : Int64} {off : Int} {tgt p2 : Nat} (d : zD cc pc .lcmp 1 pc') (d2 : zJ cc pc' (.ifCond .ne off) off tgt 3 p2) (kt : ¬ a = b → zR x g post n tgt lv st ws) (kf : a = b → zR x g post n p2 lv st ws) : zR x g post n pc lv (.long b :: .long a :: st) ws := zR_lcmp C d (zR_ifne C d2 (fun h => kt (fun q => h ((lg_cmp_eq a b).mpr q))) (fun h => kf ((lg_cmp_eq a b).mp h)))
theorem zR_ciflt (C : zC x g own cc ret f) {a b : Int64} {off : Int} {tgt p2 : Nat} (d : zD cc pc .lcmp 1 pc') (d2 : zJ cc pc' (.ifCond .lt off) off tgt 3 p2) (kt : a < b → zR x g post n tgt lv st ws) (kf : ¬ a < b → zR x g post n p2 lv st ws) : zR x g post n pc lv (.long b :: .long a :: st) ws := zR_lcmp C d (zR_iflt C d2 (fun h => kt ((lg_cmp_lt a b).mp h)) (fun h => kf (fun q => h ((lg_cmp_lt a b).mpr q))))
theorem zR_cifge (C : zC x g own cc ret f) {a b : Int64} {off : Int} {tgt p2 : Nat} (d : zD cc pc .lcmp 1 pc') (d2 : zJ cc pc' (.ifCond .ge off) off tgt 3 p2) (kt : ¬ a < b → zR x g post n tgt lv st ws) (kf : a < b → zR x g post n p2 lv st ws) : zR x g post n pc lv (.long b :: .long a :: st) ws := zR_lcmp C d (zR_ifge C d2 (fun h => kt (fun q => h ((lg_cmp_lt a b).mpr q))) (fun h => kf ((lg_cmp_lt a b).mp h)))
theorem zR_cifgt (C : zC x g own cc ret f) {a b : Int64} {off : Int} {tgt p2 : Nat} (d : zD cc pc .lcmp 1 pc') (d2 : zJ cc pc' (.ifCond .gt off) off tgt 3 p2) (kt : ¬ a ≤ b → zR x g post n tgt lv st ws) (kf : a ≤ b → zR x g post n p2 lv st ws) : zR x g post n pc lv (.long b :: .long a :: st) ws := zR_lcmp C d (zR_ifgt C d2 (fun h => kt (fun q => h ((lg_cmp_le a b).mpr q))) (fun h => kf ((lg_cmp_le a b).mp h)))
theorem zR_cifle (C : zC x g own cc ret f) {a b : Int64} {off : Int} {tgt p2 : Nat} (d : zD cc pc .lcmp 1 pc') (d2 : zJ cc pc' (.ifCond .le off) off tgt 3 p2) (kt : a ≤ b → zR x g post n tgt lv st ws) (kf : ¬ a ≤ b → zR x g post n p2 lv st ws) : zR x g post n pc lv (.long b :: .long a :: st) ws := zR_lcmp C d (zR_ifle C d2 (fun h => kt ((lg_cmp_le a b).mp h)) (fun h => kf (fun q => h ((lg_cmp_le a b).mpr q))))
end ZR
end
section

/-! The layer's rows of cells, calls and ends. -/
def zF (own : String) (idx ci k : Nat) : Prop := ∃ (C : String) (T : u_T) (N : Nat), vwCl[ci]? = some (C, T, N) ∧ (∀ w ∈ u_ws C T N, w ∈ zTBL) ∧ k < N ∧
  (Cond.fieldLink own idx (T k).1 (T k).2.1 (T k).2.2.1 ∈ zTBL ∨ ∃ host : String, Cond.fieldLinkNest own idx (T k).1 (T k).2.1 (T k).2.2.1 host ∈ zNST)
def zFp (own : String) (idx ci k : Nat) (ty : FieldType) (fin : Bool) : Prop := ∃ (C : String) (T : u_T) (N : Nat) (ty0 : Nat → FieldType), vwCl[ci]? = some (C, T, N) ∧ (∀ w ∈ u_ws C T N, w ∈ zTBL) ∧ k < N ∧
  (Cond.fieldLink own idx (T k).1 (T k).2.1 (T k).2.2.1 ∈ zTBL ∨ ∃ host : String, Cond.fieldLinkNest own idx (T k).1 (T k).2.1 (T k).2.2.1 host ∈ zNST) ∧
  (∀ k, k < N → parseFieldDescriptor (T k).2.2.1 = some (ty0 k)) ∧ (∀ a, a < N → ∀ b, b < N → a ≠ b → (T a).2.1 ≠ (T b).2.1) ∧ (T k).2.2.2 = fin ∧ parseFieldDescriptor (T k).2.2.1 = some ty ∧ ((T k).1 = own ∨ fin = false)
def zrep (ws : va_W) : List Nat → va_W → va_W
  | i :: is, e :: es => zrep (ws.set i e) is es
  | _, _ => ws
theorem zrep_fst : ∀ (is : List Nat) (es : va_W) (ws : va_W), is.map (fun i => (ws[i]?).map Prod.fst) = es.map (fun e => some e.1) → (zrep ws is es).map Prod.fst = ws.map Prod.fst
  | [], [], ws, _ => rfl
  | [], _ :: _, ws, h => by simp at h
  | _ :: _, [], ws, h => by simp at h
  | i :: is, e :: es, ws, h => by
    simp only [List.map_cons, List.cons.injEq] at h
    have h1 : (ws.set i e).map Prod.fst = ws.map Prod.fst := by
      apply List.ext_getElem?
      intro j
      rw [List.getElem?_map, List.getElem?_map, List.getElem?_set]
      by_cases hij : i = j
      · subst hij
        by_cases hl : i < ws.length
        · simp only [if_true, if_pos hl, Option.map_some]; exact h.1.symm
        · have : ws[i]? = none := List.getElem?_eq_none (Nat.not_lt.mp hl)
          rw [this] at h; simp at h
      · simp [hij]
    have h2 := zrep_fst is es (ws.set i e) (by
      rw [← h.2]
      apply List.map_congr_left
      intro j _
      have := congrArg (fun l => l[j]?) h1
      simpa only [List.getElem?_map] using this)
    show (zrep (ws.set i e) is es).map Prod.fst = _
    rw [h2, h1]
theorem zrep_get : ∀ (is : List Nat) (es : va_W) (ws : va_W), is.length = es.length → ∀ (k : Nat) (q : Nat × va_E), (zrep ws is es)[k]? = some q → q ∈ es ∨ (ws[k]? = some q ∧ k ∉ is)
  | [], [], ws, _, k, q, h => Or.inr ⟨h, by simp⟩
  | [], _ :: _, ws, hl, k, q, h => by simp at hl
  | _ :: _, [], ws, hl, k, q, h => by simp at hl
  | i :: is, e :: es, ws, hl, k, q, h => by
    rcases zrep_get is es (ws.set i e) (by simpa using hl) k q h with h1 | ⟨h1, h2⟩
    · exact Or.inl (List.mem_cons_of_mem _ h1)
    · rw [List.getElem?_set] at h1
      by_cases hij : i = k
      · rw [if_pos hij] at h1
        split at h1
        · cases h1; exact Or.inl List.mem_cons_self
        · cases h1
      · rw [if_neg hij] at h1
        exact Or.inr ⟨h1, by simp only [List.mem_cons, not_or]; exact ⟨fun z => hij z.symm, h2⟩⟩
theorem zD_fst {A : Nat → Prop} {w1 w2 : va_W} (h : va_D A w1) (e : w2.map Prod.fst = w1.map Prod.fst) : va_D A w2 := by
  have key : ∀ (k : Nat) (q : Nat × va_E), w2[k]? = some q → ∃ q1, w1[k]? = some q1 ∧ q1.1 = q.1 := by
    intro k q hq
    have := congrArg (fun l => l[k]?) e
    simp only [List.getElem?_map, hq, Option.map_some] at this
    obtain ⟨q1, h1, h2⟩ := Option.map_eq_some_iff.mp this.symm
    exact ⟨q1, h1, h2⟩
  refine ⟨fun i j p q hp hq hpq => ?_, fun k q hq => ?_⟩
  · obtain ⟨p1, h1, h2⟩ := key i p hp
    obtain ⟨q1, h3, h4⟩ := key j q hq
    exact h.1 i j p1 q1 h1 h3 (by rw [h2, h4, hpq])
  · obtain ⟨q1, h1, h2⟩ := key k q hq
    rw [← h2]; exact h.2 k q1 h1
/-- behind a call: the callee's cells in their places, those that it made at the end -/
theorem zjoin {A0 : Nat → Prop} {D : va_G} {ws wc wa wn : va_W} {H H1 : Heap} (hP : va_P D vwCl ws H) (hD : va_D A0 ws) (isC : List Nat) (hC : isC.map (fun i => ws[i]?) = wc.map some) (hfst : wa.map Prod.fst = wc.map Prod.fst)
    (hk : ∀ q : Nat, q < H.size → ¬ va_A wc H.size q → H1[q]? = H[q]?) (hF : ∀ q, va_A wc H.size q → A0 q) (hP1 : va_P D vwCl (wa ++ wn) H1) (hD1 : va_D (va_A wc H.size) (wa ++ wn)) :
    va_P D vwCl (zrep ws isC wa ++ wn) H1 ∧ va_D A0 (zrep ws isC wa ++ wn) := by
  have hlen : isC.length = wa.length := by
    have h1 := congrArg List.length hC
    have h2 := congrArg List.length hfst
    simp only [List.length_map] at h1 h2
    omega
  have hfst2 : (zrep ws isC wa).map Prod.fst = ws.map Prod.fst := by
    apply zrep_fst
    have h1 := congrArg (List.map (Option.map Prod.fst)) hC
    simp only [List.map_map] at h1
    rw [show (isC.map fun i => (ws[i]?).map Prod.fst) = isC.map (Option.map Prod.fst ∘ fun i => ws[i]?) from rfl, h1]
    have h2 := congrArg (List.map some) hfst
    simp only [List.map_map] at h2
    rw [show (wa.map fun e => some e.1) = wa.map (some ∘ Prod.fst) from rfl, h2]
    rfl
  have hwc : ∀ (j : Nat) (q : Nat × va_E), wc[j]? = some q → ∃ i, isC[j]? = some i ∧ ws[i]? = some q := by
    intro j q hq
    have := congrArg (fun l => l[j]?) hC
    simp only [List.getElem?_map, hq, Option.map_some] at this
    obtain ⟨i, h1, h2⟩ := Option.map_eq_some_iff.mp this
    exact ⟨i, h1, h2⟩
  have hDr : va_D A0 (zrep ws isC wa) := zD_fst hD hfst2
  have hold : ∀ (k : Nat) (q : Nat × va_E), (zrep ws isC wa)[k]? = some q → q.1 < H.size := by
    intro k q hq
    have := congrArg (fun l => l[k]?) hfst2
    simp only [List.getElem?_map, hq, Option.map_some] at this
    obtain ⟨q1, h1, h2⟩ := Option.map_eq_some_iff.mp this.symm
    rw [← h2]; exact (hP k q1 h1).lt
  refine ⟨va_P.app (fun k q hq => ?_) (fun k q hq => hP1 (wa.length + k) q (by rw [List.getElem?_append_right (Nat.le_add_right _ _), Nat.add_sub_cancel_left]; exact hq)), va_D.app hDr ?_ ?_⟩
  · rcases zrep_get isC wa ws hlen k q hq with h1 | ⟨h1, h2⟩
    · obtain ⟨j, hj⟩ := List.mem_iff_getElem?.mp h1
      exact hP1 j q (by rw [List.getElem?_append_left (List.getElem?_eq_some_iff.mp hj).1]; exact hj)
    · refine (hP k q h1).kept (hk q.1 (hP k q h1).lt ?_)
      rintro (⟨j, e, hj⟩ | hge)
      · obtain ⟨i, h3, h4⟩ := hwc j _ hj
        have := hD.1 k i q _ h1 h4 rfl
        subst this
        exact h2 (List.mem_of_getElem? h3)
      · exact absurd (hP k q h1).lt (Nat.not_lt.mpr hge)
  · refine ⟨fun i j p q hp hq hpq => ?_, fun k q hq => hF _ (hD1.2 (wa.length + k) q (by rw [List.getElem?_append_right (Nat.le_add_right _ _), Nat.add_sub_cancel_left]; exact hq))⟩
    have := hD1.1 (wa.length + i) (wa.length + j) p q (by rw [List.getElem?_append_right (Nat.le_add_right _ _), Nat.add_sub_cancel_left]; exact hp) (by rw [List.getElem?_append_right (Nat.le_add_right _ _), Nat.add_sub_cancel_left]; exact hq) hpq
    omega
  · intro i j p q hp hq hpq
    have hlt := hold i p hp
    have hqn : (wa ++ wn)[wa.length + j]? = some q := by rw [List.getElem?_append_right (Nat.le_add_right _ _), Nat.add_sub_cancel_left]; exact hq
    rcases hD1.2 _ q hqn with ⟨j2, e2, hj2⟩ | hge
    · have := congrArg (fun l => l[j2]?) hfst
      simp only [List.getElem?_map, hj2, Option.map_some] at this
      obtain ⟨q2, h5, h6⟩ := Option.map_eq_some_iff.mp this
      have hlt2 := (List.getElem?_eq_some_iff.mp h5).1
      have := hD1.1 j2 (wa.length + j) q2 q (by rw [List.getElem?_append_left hlt2]; exact h5) hqn h6
      omega
    · omega
theorem zPre_blind {args : List Value} {g : zG} {ws : va_W} {sz : Nat} : FrameBlind (va_Pc args (zPre g ws sz)) := by
  intro a U fr mk q
  obtain ⟨q0, q1, qP, qK, qD, qN, qZ⟩ := q
  exact ⟨q0, q1, qP, va_K.moved (u := U) (U := U.calling fr mk a) (Vm.Alike.refl U.vm) qK, qD, fun w hw => va_Nw.same (zN_tab hw) (u := U) (U := U.calling fr mk a) rfl (qN w hw), zZ.same (s := U) (U := U.calling fr mk a) qZ rfl⟩
theorem zGood {y : MethodName} {cc : ByteArray} {nL : Nat} {ret : Option FieldType} (h : Cond.code y cc nL ret ∈ zTBL) : GoodIn zTBL (.code y cc nL ret :: zTBL) := by
  intro w hw
  rcases List.mem_cons.mp hw with rfl | hw
  · exact ⟨h, good_of_word (List.mem_filter.mp h).2⟩
  · exact ⟨hw, good_of_word (List.mem_filter.mp hw).2⟩
def zK0 (y : MethodName) (cc : ByteArray) (nL : Nat) (ret : Option FieldType) (n : Nat) : Prop :=
  Cond.code y cc nL ret ∈ zTBL ∧ Cond.initialized y.cls ∈ zTBL ∧ (y.cls ≠ "java/lang/invoke/MethodHandle" ∧ y.cls ≠ "java/lang/invoke/VarHandle") ∧ (parseMethodDescriptor y.desc).map (fun d => d.parameters.length) = some n
def zKl (own : String) (idx : Nat) (y : MethodName) : Prop := Cond.methodLink own idx y ∈ zTBL ∨ ∃ host : String, Cond.methodLinkNest own idx y host ∈ zNST
def zKv (own : String) (idx : Nat) (y : MethodName) (cc : ByteArray) (nL : Nat) (ret : Option FieldType) (n : Nat) : Prop := zK0 y cc nL ret n ∧ zKl own idx y ∧ Cond.instanceMethod y ∈ zTBL ∧ Cond.selects y.cls y y ∈ zTBL
def zKs (own : String) (idx : Nat) (y : MethodName) (cc : ByteArray) (nL : Nat) (ret : Option FieldType) (n : Nat) : Prop := zK0 y cc nL ret n ∧ zKl own idx y ∧ Cond.static y ∈ zTBL
def zKi (own : String) (idx : Nat) (y : MethodName) (cc : ByteArray) (nL : Nat) (n : Nat) : Prop := zK0 y cc nL none n ∧ zKl own idx y ∧ Cond.instanceMethod y ∈ zTBL ∧ y.name = "<init>"
section ZR2
variable {x : zX} {g : zG} {own : String} {cc : ByteArray} {ret : Option FieldType} {f : Nat} {post : Option Value → va_W → Prop} {n : Nat × Nat} {pc pc' : Nat} {lv : List (Nat × Value)} {st rest : List Value} {ws : va_W}
theorem zR_caseK {v : Int32} (c : Int32) (kt : v = c → zR x g post n pc lv (.int c :: st) ws) (kf : ¬ v = c → zR x g post n pc lv (.int v :: st) ws) : zR x g post n pc lv (.int v :: st) ws := if h : v = c then (by have k := kt h; subst h; exact k) else kf h
theorem zR_get (C : zC x g own cc ret f) {idx ci k a : Nat} {fs : List Value} {v : Value} (F : zF own idx ci k) (d : zD cc pc (.getfield idx) 3 pc') (p : Nat) (he : ws[p]? = some (a, .inr (ci, fs))) (hv : fs[k]? = some v) (kk : zR x g post n pc' lv (v :: st) ws) : zR x g post n pc lv (.ref a :: st) ws := by
  obtain ⟨d, rfl⟩ := d
  obtain ⟨⟨hx, hb, hml, hown⟩, hts, hK, hN, -⟩ := C
  obtain ⟨cl, T, N, hc, hin, hk, hlink | ⟨host, hlink⟩⟩ := F
  · exact fun H locs ls hP hD hS hl => va_get hx hb hts hin hown hK hP p he hc k hk (hts _ hlink) (fun _ h => h) hv d (kk H locs ls hP hD hS hl)
  · exact fun H locs ls hP hD hS hl => va_getN hx hb hts hin hown hK hP p he hc k hk (va_Nw.use rfl (hN _ hlink)) (fun _ h => h) hv d (kk H locs ls hP hD hS hl)
theorem zR_put (C : zC x g own cc ret f) {idx ci k a : Nat} {fs : List Value} {v : Int32} {ws1 : va_W} (F : zFp own idx ci k .int false) (d : zD cc pc (.putfield idx) 3 pc') (p : Nat) (he : ws[p]? = some (a, .inr (ci, fs))) (hl0 : k < fs.length) (hw : ws.set p (a, .inr (ci, fs.set k (.int v))) = ws1) (kk : zR x g post n pc' lv st ws1) : zR x g post n pc lv (.int v :: .ref a :: st) ws := by
  subst hw
  obtain ⟨d, rfl⟩ := d
  obtain ⟨⟨hx, hb, hml, hown⟩, hts, hK, hN, -⟩ := C
  obtain ⟨cl, T, N, ty0, hc, hin, hk, hlink | ⟨host, hlink⟩, hty, hnm, hfin, hd, -⟩ := F
  · exact fun H locs ls hP hD hS hl => va_put hx hb hts hin ty0 hty hnm hown hK hP hD hS p he hc k hk (hts _ hlink) (fun _ h => h) hfin hd rfl rfl hl0 d (fun H1 locs1 hP hD hS => kk H1 locs1 ls hP hD hS hl)
  · exact fun H locs ls hP hD hS hl => va_putN hx hb hts hin ty0 hty hnm hown hK hP hD hS p he hc k hk (va_Nw.use rfl (hN _ hlink)) (fun _ h => h) hfin hd rfl rfl hl0 d (fun H1 locs1 hP hD hS => kk H1 locs1 ls hP hD hS hl)

theorem zR_iald (C : zC x g own cc ret f) {a N : Nat} {h : Nat → Int32} {i : Int32} (d : zD cc pc .iaload 1 pc') (p : Nat) (ha : ws[p]? = some (a, .inl (g.2.1 0, N, .inl h))) (hi : vp_in i N) (k : zR x g post n pc' lv (.int (h i.toNatClampNeg) :: st) ws) : zR x g post n pc lv (.int i :: .ref a :: st) ws := by
  obtain ⟨d, rfl⟩ := d
  exact fun H locs ls hP hD hS hl => va_iald C.1.1 C.1.2.1 C.2.2.1 hP p 0 ha rfl hi d (k H locs ls hP hD hS hl)
theorem zR_zald (C : zC x g own cc ret f) {a N : Nat} {h : Nat → Int32} {i : Int32} (d : zD cc pc .baload 1 pc') (p : Nat) (ha : ws[p]? = some (a, .inl (g.2.1 2, N, .inl h))) (hi : vp_in i N) (k : zR x g post n pc' lv (.int (h i.toNatClampNeg) :: st) ws) : zR x g post n pc lv (.int i :: .ref a :: st) ws := by
  obtain ⟨d, rfl⟩ := d
  exact fun H locs ls hP hD hS hl => va_zald C.1.1 C.1.2.1 C.2.2.1 hP p 2 ha rfl hi d (k H locs ls hP hD hS hl)
theorem zR_cald (C : zC x g own cc ret f) {a N : Nat} {h : Nat → Int32} {i : Int32} (d : zD cc pc .caload 1 pc') (p : Nat) (ha : ws[p]? = some (a, .inl (g.2.1 3, N, .inl h))) (hi : vp_in i N) (k : zR x g post n pc' lv (.int (h i.toNatClampNeg) :: st) ws) : zR x g post n pc lv (.int i :: .ref a :: st) ws := by
  obtain ⟨d, rfl⟩ := d
  exact fun H locs ls hP hD hS hl => va_cald C.1.1 C.1.2.1 C.2.2.1 hP p 3 ha rfl hi d (k H locs ls hP hD hS hl)
theorem zR_lald (C : zC x g own cc ret f) {a N : Nat} {h : Nat → Int64} {i : Int32} (d : zD cc pc .laload 1 pc') (p : Nat) (ha : ws[p]? = some (a, .inl (g.2.1 1, N, .inr (.inl h)))) (hi : vp_in i N) (k : zR x g post n pc' lv (.long (h i.toNatClampNeg) :: st) ws) : zR x g post n pc lv (.int i :: .ref a :: st) ws := by
  obtain ⟨d, rfl⟩ := d
  exact fun H locs ls hP hD hS hl => va_lald C.1.1 C.1.2.1 C.2.2.1 hP p 1 ha rfl hi d (k H locs ls hP hD hS hl)
theorem zR_aald (C : zC x g own cc ret f) {a N : Nat} {h : Nat → Option Nat} {i : Int32} {v : Value} (d : zD cc pc .aaload 1 pc') (p : Nat) (ha : ws[p]? = some (a, .inl (g.2.1 4, N, .inr (.inr (.inr (.inr h)))))) (hi : vp_in i N) (hv : va_rf (h i.toNatClampNeg) = v) (k : zR x g post n pc' lv (v :: st) ws) : zR x g post n pc lv (.int i :: .ref a :: st) ws := by
  obtain ⟨d, rfl⟩ := d
  subst hv
  exact fun H locs ls hP hD hS hl => va_aldq C.1.1 C.1.2.1 C.2.2.1 hP p 4 ha rfl hi d (k H locs ls hP hD hS hl)
theorem zR_iast (C : zC x g own cc ret f) {a N : Nat} {h : Nat → Int32} {i : Int32} {v : Int32} {ws1 : va_W} (d : zD cc pc .iastore 1 pc') (p : Nat) (ha : ws[p]? = some (a, .inl (g.2.1 0, N, .inl h))) (hi : vp_in i N) (hw : ws.set p (a, .inl (g.2.1 0, N, .inl (upd h i.toNatClampNeg v))) = ws1) (k : zR x g post n pc' lv st ws1) : zR x g post n pc lv (.int v :: .int i :: .ref a :: st) ws := by
  obtain ⟨d, rfl⟩ := d
  subst hw
  exact fun H locs ls hP hD hS hl => va_iast C.1.1 C.1.2.1 C.2.2.1 hP hD hS p 0 ha rfl hi d (fun H1 locs1 hP hD hS => k H1 locs1 ls hP hD hS hl)
theorem zR_last (C : zC x g own cc ret f) {a N : Nat} {h : Nat → Int64} {i : Int32} {v : Int64} {ws1 : va_W} (d : zD cc pc .lastore 1 pc') (p : Nat) (ha : ws[p]? = some (a, .inl (g.2.1 1, N, .inr (.inl h)))) (hi : vp_in i N) (hw : ws.set p (a, .inl (g.2.1 1, N, .inr (.inl (vp_updL h i.toNatClampNeg v)))) = ws1) (k : zR x g post n pc' lv st ws1) : zR x g post n pc lv (.long v :: .int i :: .ref a :: st) ws := by
  obtain ⟨d, rfl⟩ := d
  subst hw
  exact fun H locs ls hP hD hS hl => va_last C.1.1 C.1.2.1 C.2.2.1 hP hD hS p 1 ha rfl hi d (fun H1 locs1 hP hD hS => k H1 locs1 ls hP hD hS hl)
theorem zR_zast (C : zC x g own cc ret f) {a N : Nat} {h : Nat → Int32} {i : Int32} {v : Int32} {ws1 : va_W} (d : zD cc pc .bastore 1 pc') (p : Nat) (ha : ws[p]? = some (a, .inl (g.2.1 2, N, .inl h))) (hi : vp_in i N) {v' : Int32} (hv : vp_nar .boolean v = v') (hw : ws.set p (a, .inl (g.2.1 2, N, .inl (upd h i.toNatClampNeg v'))) = ws1) (k : zR x g post n pc' lv st ws1) : zR x g post n pc lv (.int v :: .int i :: .ref a :: st) ws := by
  obtain ⟨d, rfl⟩ := d
  subst hw
  exact fun H locs ls hP hD hS hl => va_zast C.1.1 C.1.2.1 C.2.2.1 hP hD hS p 2 ha rfl hi d (fun H1 locs1 hP hD hS => k H1 locs1 ls (by rw [← hv]; exact hP) (by rw [← hv]; exact hD) hS hl)
theorem zR_cast (C : zC x g own cc ret f) {a N : Nat} {h : Nat → Int32} {i : Int32} {v : Int32} {ws1 : va_W} (d : zD cc pc .castore 1 pc') (p : Nat) (ha : ws[p]? = some (a, .inl (g.2.1 3, N, .inl h))) (hi : vp_in i N) {v' : Int32} (hv : vp_nar .char v = v') (hw : ws.set p (a, .inl (g.2.1 3, N, .inl (upd h i.toNatClampNeg v'))) = ws1) (k : zR x g post n pc' lv st ws1) : zR x g post n pc lv (.int v :: .int i :: .ref a :: st) ws := by
  obtain ⟨d, rfl⟩ := d
  subst hw
  exact fun H locs ls hP hD hS hl => va_cast C.1.1 C.1.2.1 C.2.2.1 hP hD hS p 3 ha rfl hi d (fun H1 locs1 hP hD hS => k H1 locs1 ls (by rw [← hv]; exact hP) (by rw [← hv]; exact hD) hS hl)

theorem zR_ldc (C : zC x g own cc ret f) {idx : Nat} {v : Int32} (hw : Cond.constant own idx v ∈ zTBL) (d : zD cc pc (.ldc idx) 2 pc') (k : zR x g post n pc' lv (.int v :: st) ws) : zR x g post n pc lv st ws := by
  obtain ⟨d, rfl⟩ := d
  exact fun H locs ls hP hD hS hl => lv_ldc C.1.1 C.1.2.1 C.1.2.2.2 (C.2.1 _ hw) d (k H locs ls hP hD hS hl)
theorem zR_ldc2 (C : zC x g own cc ret f) {idx : Nat} {v : Int64} (hw : Cond.constantLong own idx v ∈ zTBL) (d : zD cc pc (.ldc2_w idx) 3 pc') (k : zR x g post n pc' lv (.long v :: st) ws) : zR x g post n pc lv st ws := by
  obtain ⟨d, rfl⟩ := d
  exact fun H locs ls hP hD hS hl => lv_ldc2 C.1.1 C.1.2.1 C.1.2.2.2 (C.2.1 _ hw) d (k H locs ls hP hD hS hl)
theorem zR_tswIn (C : zC x g own cc ret f) {dflt lo hi off : Int} {offs : Array Int} {len tgt : Nat} {v : Int32} (d : zD cc pc (.tableswitch dflt lo hi offs) len pc') (h1 : ¬ v.toInt < lo) (h2 : ¬ hi < v.toInt) (ho : offs[(v.toInt - lo).toNat]? = some off) (ht : (pc : Int) + off = (tgt : Int)) (k : zR x g post n tgt lv st ws) : zR x g post n pc lv (.int v :: st) ws :=
  fun H locs ls hP hD hS hl => lv_tableIn C.1.1 C.1.2.1 d.1 h1 h2 ho ht (k H locs ls hP hD hS hl)
theorem zR_tswOut (C : zC x g own cc ret f) {dflt lo hi : Int} {offs : Array Int} {len tgt : Nat} {v : Int32} (d : zD cc pc (.tableswitch dflt lo hi offs) len pc') (h : v.toInt < lo ∨ hi < v.toInt) (ht : (pc : Int) + dflt = (tgt : Int)) (k : zR x g post n tgt lv st ws) : zR x g post n pc lv (.int v :: st) ws :=
  fun H locs ls hP hD hS hl => lv_tableOut C.1.1 C.1.2.1 d.1 h ht (k H locs ls hP hD hS hl)
theorem zR_lsw (C : zC x g own cc ret f) {dflt off : Int} {ps : Array (Int × Int)} {len tgt : Nat} {v : Int32} (d : zD cc pc (.lookupswitch dflt ps) len pc') (hp : (ps.toList.zip (ps.toList.drop 1)).all (fun (a, next) => a.1 < next.1) = true) (ho : Op.lookupswitch.offset ps.toList dflt v.toInt = off) (ht : (pc : Int) + off = (tgt : Int)) (k : zR x g post n tgt lv st ws) : zR x g post n pc lv (.int v :: st) ws :=
  fun H locs ls hP hD hS hl => lv_lookup C.1.1 C.1.2.1 d.1 hp ho ht (k H locs ls hP hD hS hl)
theorem zPst_end {r : Option Value} {ws : va_W} {H : Heap} {locs : List Loc} (C : zC x g own cc ret f) (hP : va_P g.1 vwCl ws H) (hD : va_D (zA x) ws) (hS : va_S (zA x) (zs x).heap H locs) (hp : post r ws) : ∀ t : State, t.heap = H → (zs x).WarmedH t.vm → zPst g (zA x) post (za x) (zs x) (.returned r) t :=
  fun t ht hW => ⟨⟨r, ws, rfl, hp, by rw [ht]; exact hP, va_K.moved hW.alike C.2.2.1, hD⟩, hS.F ht⟩
theorem zR_vret (C : zC x g own cc ret f) (hr : ret = none) (d : zD cc pc .return_ 1 pc') (hn1 : n.1 ≤ zmc x) (hn2 : n.2 ≤ zms x) (hp : post none ws) : zR x g post n pc lv [] ws :=
  fun H locs ls hP hD hS hl => W.widen hn1 hn2 (W.vret C.1.1 C.1.2.1 (C.2.2.2.2.2.2.1.trans hr) (zPst_end C hP hD hS hp) hS.2.2 d.1 C.2.2.2.2.2.1)
theorem zR_iret (C : zC x g own cc ret f) {ty : FieldType} {v : Int32} (hr : ret = some ty) (hnar : narrow ty (.int v) = .int v) (d : zD cc pc .ireturn 1 pc') (hn1 : n.1 ≤ zmc x) (hn2 : n.2 ≤ zms x) (hp : post (some (.int v)) ws) : zR x g post n pc lv [.int v] ws :=
  fun H locs ls hP hD hS hl => W.widen hn1 hn2 (W.zret C.1.1 C.1.2.1 (C.2.2.2.2.2.2.1.trans hr) hnar (zPst_end C hP hD hS hp) hS.2.2 d.1 C.2.2.2.2.2.1)
theorem zR_lret (C : zC x g own cc ret f) {v : Int64} (hr : ret = some .long) (d : zD cc pc .lreturn 1 pc') (hn1 : n.1 ≤ zmc x) (hn2 : n.2 ≤ zms x) (hp : post (some (.long v)) ws) : zR x g post n pc lv [.long v] ws :=
  fun H locs ls hP hD hS hl => W.widen hn1 hn2 (W.lret C.1.1 C.1.2.1 (C.2.2.2.2.2.2.1.trans hr) (zPst_end C hP hD hS hp) hS.2.2 d.1 C.2.2.2.2.2.1)
theorem zR_aret (C : zC x g own cc ret f) {a : Nat} {nm : String} (hr : ret = some (.object nm)) (d : zD cc pc .areturn 1 pc') (hn1 : n.1 ≤ zmc x) (hn2 : n.2 ≤ zms x) (hp : post (some (.ref a)) ws) : zR x g post n pc lv [.ref a] ws :=
  fun H locs ls hP hD hS hl => W.widen hn1 hn2 (W.aret C.1.1 C.1.2.1 (C.2.2.2.2.2.2.1.trans hr) (Or.inl ⟨nm, rfl⟩) (Or.inr ⟨a, rfl⟩) (zPst_end C hP hD hS hp) hS.2.2 d.1 C.2.2.2.2.2.1)
/-- what a call's contract asks at the call -/
theorem zPre_at (C : zC x g own cc ret f) {wc : va_W} {isC : List Nat} {args : List Value} (hC : isC.map (fun i => ws[i]?) = wc.map some) (hnd : va_nd isC = true) {H : Heap} {locs : List Loc} (hP : va_P g.1 vwCl ws H) (hD : va_D (zA x) ws) (hS : va_S (zA x) (zs x).heap H locs) :
    ∀ U : State, U.heap = H → (zs x).WarmedH U.vm → va_Pc args (zPre g wc H.size) args.toArray U := by
  intro U hU hW
  have hPc : va_P g.1 vwCl wc H := by
    intro k q hq
    have := congrArg (fun l => l[k]?) hC
    simp only [List.getElem?_map, hq, Option.map_some] at this
    obtain ⟨i, -, h2⟩ := Option.map_eq_some_iff.mp this
    exact hP i q h2
  exact ⟨rfl, by rw [hU], by rw [hU]; exact hPc, va_K.moved hW.alike C.2.2.1, (hD.sub isC hnd hC).weaken (fun _ _ _ _ => trivial), zN_warm hW C.2.2.2.1, by
    rw [hU]; exact C.2.2.2.2.2.2.2.2.call hW hS (va_free hD hS C.2.2.2.2.2.2.2.1 isC hC)⟩
/-- behind a call -/
theorem zR_run (C : zC x g own cc ret f) {mc ms : Nat} {wc : va_W} {isC : List Nat} {cpost : Option Value → va_W → Prop} {a : Array Value} (hC : isC.map (fun i => ws[i]?) = wc.map some)
    (hrun : ∀ (H : Heap) (locs : List Loc) (ls : Array Slot), va_P g.1 vwCl ws H → va_D (zA x) ws → va_S (zA x) (zs x).heap H locs → lv_has ls (zn x) lv →
      va_Run (zp x) (zl x) (ze x) (zRm x) (zs x) (zm x) (za x) (zb x) (zk x) (zc x) H locs n.1 n.2 mc ms (F0 (zm x) pc ls st) rest (zPst g (va_A wc H.size) cpost a) (va_A wc H.size))
    (hw : ∀ r w, cpost r w → ∃ wa wn : va_W, w = wa ++ wn ∧ wa.map Prod.fst = wc.map Prod.fst ∧ zR x g post (n.1 + mc, n.2 + ms) (pc + 3) lv (r.toList ++ rest) (zrep ws isC wa ++ wn)) : zR x g post n pc lv st ws := by
  intro H locs ls hP hD hS hl T hT X
  have hF := va_free hD hS C.2.2.2.2.2.2.2.1 isC hC
  obtain ⟨v, st₀, t, T', L, h0, X', hL, e1, e2, ⟨⟨r, w, hv, hp, hP1, hK1, hD1⟩, hz, hk⟩, stp⟩ := hrun H locs ls hP hD hS hl T hT X
  cases hv
  rw [h0] at hz hk
  obtain ⟨wa, wn, rfl, hfst, kk⟩ := hw v w hp
  have hj := zjoin hP hD isC hC hfst (fun q h1 h2 => hk q h1 h2) hF hP1 hD1
  obtain ⟨t2, a1, b1⟩ := kk T'.heap (locs ++ L) ls (by rw [e1]; exact hj.1) hj.2 ⟨Nat.le_trans hS.1 (by rw [e1]; exact hz), fun q h1 h2 => by rw [e1, hk q (Nat.lt_of_lt_of_le h1 hS.1) (fun z => h2 (hF q z))]; exact hS.2.1 q h1 h2, fun q hq => by
      rcases List.mem_append.mp hq with h | h
      · exact hS.2.2 q h
      · exact hF _ (hL q h)⟩ hl T' rfl X'
  exact ⟨t2, stp t2 a1, b1⟩
theorem zCallB (C : zC x g own cc ret f) {idx : Nat} {y : MethodName} {cc' : ByteArray} {nL' : Nat} {ret' : Option FieldType} {f' mc ms nn : Nat} (K : zK0 y cc' nL' ret' nn) (hl : Cond.methodLink own idx y ∈ zTBL) (hf : f' + 1 ≤ f) (hnl : nL' ≤ 17) :
    CallB (zRm x) (zs x) (za x) own idx y cc' nL' ret' (.code y cc' nL' ret' :: zTBL) (zrm f' mc ms) mc ms nn := by
  obtain ⟨k1, k2, k3, k4⟩ := K
  rw [C.2.2.2.2.1]
  exact ⟨rfl, rfl, hf, (show 8 + (nL' + 11) + 36 * f' ≤ 36 * f by omega), pay_in C.2.1 (zGood k1), List.mem_cons_self, C.2.1 _ k1, C.2.1 _ k2, k3, fun sig h => by rw [h] at k4; exact (Option.some.inj k4).symm, C.2.1 _ hl⟩
theorem zCallN (C : zC x g own cc ret f) {idx : Nat} {y : MethodName} {cc' : ByteArray} {nL' : Nat} {ret' : Option FieldType} {f' mc ms nn : Nat} {host : String} (K : zK0 y cc' nL' ret' nn) (hl : Cond.methodLinkNest own idx y host ∈ zNST) (hf : f' + 1 ≤ f) (hnl : nL' ≤ 17) :
    va_CN (zRm x) (zs x) (za x) own idx y host cc' nL' ret' (.code y cc' nL' ret' :: zTBL) (zrm f' mc ms) mc ms nn := by
  obtain ⟨k1, k2, k3, k4⟩ := K
  rw [C.2.2.2.2.1]
  exact ⟨⟨rfl, rfl, hf, (show 8 + (nL' + 11) + 36 * f' ≤ 36 * f by omega), pay_in C.2.1 (zGood k1), List.mem_cons_self⟩, C.2.1 _ k1, C.2.1 _ k2, k3, fun sig h => by rw [h] at k4; exact (Option.some.inj k4).symm, va_Nw.use rfl (C.2.2.2.1 _ hl)⟩
theorem zFits (C : zC x g own cc ret f) {mc ms : Nat} (h1 : n.1 + mc ≤ zmc x) (h2 : n.2 + ms ≤ zms x) : n.1 + mc ≤ (zRm x).cells ∧ n.2 + ms ≤ (zRm x).slots := by
  rw [C.2.2.2.2.1]; exact ⟨h1, h2⟩
/-- invokevirtual, any contract -/
theorem zR_callV0 (C : zC x g own cc ret f) {idx : Nat} {y : MethodName} {cc' : ByteArray} {nL' : Nat} {ret' : Option FieldType} {f' mc ms nn : Nat} {b : Nat} {As : List Value} {wc : va_W} {cpost : Option Value → va_W → Prop} (K : zKv own idx y cc' nL' ret' nn) (d : zD cc pc (.invokevirtual idx) 3 pc')
    (M : zM (zl x) g y cc' nL' ret' f' mc ms (.ref b :: As) wc cpost) (q0 ci : Nat) {fs : List Value} (he : ws[q0]? = some (b, .inr (ci, fs))) {rw : vw_C} (hci : vwCl[ci]? = some rw) (hcl : rw.1 = y.cls) (isC : List Nat) (hC : isC.map (fun i => ws[i]?) = wc.map some) (hnd : va_nd isC = true)
    (hst : st = As.reverse ++ .ref b :: rest) (hn : As.length = nn) (hf : f' + 1 ≤ f) (hnl : nL' ≤ 17) (hcat : (rest.map fun v => v.category).sum ≤ 8) (hr1 : n.1 + mc ≤ zmc x) (hr2 : n.2 + ms ≤ zms x)
    (hw : ∀ r w, cpost r w → ∃ wa wn : va_W, w = wa ++ wn ∧ wa.map Prod.fst = wc.map Prod.fst ∧ zR x g post (n.1 + mc, n.2 + ms) pc' lv (r.toList ++ rest) (zrep ws isC wa ++ wn)) : zR x g post n pc lv st ws := by
  obtain ⟨d, rfl⟩ := d
  obtain ⟨K0, hl | ⟨host, hl⟩, ki, ks⟩ := K
  · exact zR_run C hC (fun H locs ls hP hD hS hl' => va_runV ⟨C.1.1, C.1.2.1, C.1.2.2.1, C.1.2.2.2, C.2.1⟩ (M H.size) ⟨zCallB C K0 hl hf hnl, C.2.1 _ ki, C.2.1 _ ks⟩ ⟨zPre_blind, by rw [← hcl]; exact va_recv C.2.2.1 hP hci he, zPre_at C hC hnd hP hD hS⟩ rfl hn hl'.1 hst (lv_room hcat) d (zFits C hr1 hr2)) hw
  · exact zR_run C hC (fun H locs ls hP hD hS hl' => va_runVN ⟨C.1.1, C.1.2.1, C.1.2.2.1, C.1.2.2.2, C.2.1⟩ (M H.size) ⟨zCallN C K0 hl hf hnl, C.2.1 _ ki, C.2.1 _ ks⟩ ⟨zPre_blind, by rw [← hcl]; exact va_recv C.2.2.1 hP hci he, zPre_at C hC hnd hP hD hS⟩ rfl hn hl'.1 hst (lv_room hcat) d (zFits C hr1 hr2)) hw
theorem zR_callS0 (C : zC x g own cc ret f) {idx : Nat} {y : MethodName} {cc' : ByteArray} {nL' : Nat} {ret' : Option FieldType} {f' mc ms nn : Nat} {As : List Value} {wc : va_W} {cpost : Option Value → va_W → Prop} (K : zKs own idx y cc' nL' ret' nn) (d : zD cc pc (.invokestatic idx) 3 pc')
    (M : zM (zl x) g y cc' nL' ret' f' mc ms As wc cpost) (isC : List Nat) (hC : isC.map (fun i => ws[i]?) = wc.map some) (hnd : va_nd isC = true)
    (hst : st = As.reverse ++ rest) (hn : As.length = nn) (hf : f' + 1 ≤ f) (hnl : nL' ≤ 17) (hcat : (rest.map fun v => v.category).sum ≤ 8) (hr1 : n.1 + mc ≤ zmc x) (hr2 : n.2 + ms ≤ zms x)
    (hw : ∀ r w, cpost r w → ∃ wa wn : va_W, w = wa ++ wn ∧ wa.map Prod.fst = wc.map Prod.fst ∧ zR x g post (n.1 + mc, n.2 + ms) pc' lv (r.toList ++ rest) (zrep ws isC wa ++ wn)) : zR x g post n pc lv st ws := by
  obtain ⟨d, rfl⟩ := d
  obtain ⟨K0, hl | ⟨host, hl⟩, ks⟩ := K
  · exact zR_run C hC (fun H locs ls hP hD hS hl' => va_runS ⟨C.1.1, C.1.2.1, C.1.2.2.1, C.1.2.2.2, C.2.1⟩ (M H.size) ⟨zCallB C K0 hl hf hnl, C.2.1 _ ks⟩ ⟨zPre_blind, zPre_at C hC hnd hP hD hS⟩ rfl hn hl'.1 hst (lv_room hcat) d (zFits C hr1 hr2)) hw
  · exact zR_run C hC (fun H locs ls hP hD hS hl' => va_runSN ⟨C.1.1, C.1.2.1, C.1.2.2.1, C.1.2.2.2, C.2.1⟩ (M H.size) ⟨zCallN C K0 hl hf hnl, C.2.1 _ ks, trivial⟩ ⟨zPre_blind, zPre_at C hC hnd hP hD hS⟩ rfl hn hl'.1 hst (lv_room hcat) d (zFits C hr1 hr2)) hw
theorem zR_callI0 (C : zC x g own cc ret f) {idx : Nat} {y : MethodName} {cc' : ByteArray} {nL' : Nat} {f' mc ms nn : Nat} {b : Nat} {As : List Value} {wc : va_W} {cpost : Option Value → va_W → Prop} (K : zKi own idx y cc' nL' nn) (d : zD cc pc (.invokespecial idx) 3 pc')
    (M : zM (zl x) g y cc' nL' none f' mc ms (.ref b :: As) wc cpost) (isC : List Nat) (hC : isC.map (fun i => ws[i]?) = wc.map some) (hnd : va_nd isC = true)
    (hst : st = As.reverse ++ .ref b :: rest) (hn : As.length = nn) (hf : f' + 1 ≤ f) (hnl : nL' ≤ 17) (hcat : (rest.map fun v => v.category).sum ≤ 8) (hr1 : n.1 + mc ≤ zmc x) (hr2 : n.2 + ms ≤ zms x)
    (hw : ∀ r w, cpost r w → ∃ wa wn : va_W, w = wa ++ wn ∧ wa.map Prod.fst = wc.map Prod.fst ∧ zR x g post (n.1 + mc, n.2 + ms) pc' lv (r.toList ++ rest) (zrep ws isC wa ++ wn)) : zR x g post n pc lv st ws := by
  obtain ⟨d, rfl⟩ := d
  obtain ⟨K0, hl | ⟨host, hl⟩, ki, kn⟩ := K
  · exact zR_run C hC (fun H locs ls hP hD hS hl' => va_runI ⟨C.1.1, C.1.2.1, C.1.2.2.1, C.1.2.2.2, C.2.1⟩ (M H.size) ⟨zCallB C K0 hl hf hnl, kn, C.2.1 _ ki⟩ ⟨zPre_blind, zPre_at C hC hnd hP hD hS⟩ rfl hn hl'.1 hst (lv_room hcat) d (zFits C hr1 hr2)) hw
  · exact zR_run C hC (fun H locs ls hP hD hS hl' => va_runIN ⟨C.1.1, C.1.2.1, C.1.2.2.1, C.1.2.2.2, C.2.1⟩ (M H.size) ⟨zCallN C K0 hl hf hnl, kn, C.2.1 _ ki⟩ ⟨zPre_blind, zPre_at C hC hnd hP hD hS⟩ rfl hn hl'.1 hst (lv_room hcat) d (zFits C hr1 hr2)) hw
/-- invokevirtual of a contract that tells its answer and its cells -/
theorem zR_callV (C : zC x g own cc ret f) {idx : Nat} {y : MethodName} {cc' : ByteArray} {nL' : Nat} {ret' : Option FieldType} {f' nn : Nat} {b : Nat} {As : List Value} {wc w0 ws1 : va_W} {r0 : Option Value} (K : zKv own idx y cc' nL' ret' nn) (d : zD cc pc (.invokevirtual idx) 3 pc')
    (M : zM (zl x) g y cc' nL' ret' f' 0 0 (.ref b :: As) wc (zE r0 w0)) (hst : st = As.reverse ++ .ref b :: rest) (q0 ci : Nat) {fs : List Value} (he : ws[q0]? = some (b, .inr (ci, fs))) {rw : vw_C} (hci : vwCl[ci]? = some rw) (hcl : rw.1 = y.cls) (isC : List Nat) (hC : isC.map (fun i => ws[i]?) = wc.map some) (hnd : va_nd isC = true)
    (hn : As.length = nn) (hf : f' + 1 ≤ f) (hnl : nL' ≤ 17) (hcat : (rest.map fun v => v.category).sum ≤ 8) (hr1 : n.1 ≤ zmc x) (hr2 : n.2 ≤ zms x) (hfst : w0.map Prod.fst = wc.map Prod.fst) (hw : zrep ws isC w0 = ws1)
    (k : zR x g post n pc' lv (r0.toList ++ rest) ws1) : zR x g post n pc lv st ws :=
  zR_callV0 C K d M q0 ci he hci hcl isC hC hnd hst hn hf hnl hcat hr1 hr2 (fun r w h => ⟨w, [], (List.append_nil _).symm, by rw [h.2]; exact hfst, by rw [List.append_nil, h.1, h.2, hw]; exact k⟩)
theorem zR_callS (C : zC x g own cc ret f) {idx : Nat} {y : MethodName} {cc' : ByteArray} {nL' : Nat} {ret' : Option FieldType} {f' nn : Nat} {As : List Value} {r0 : Option Value} (K : zKs own idx y cc' nL' ret' nn) (d : zD cc pc (.invokestatic idx) 3 pc')
    (M : zM (zl x) g y cc' nL' ret' f' 0 0 As [] (zE r0 [])) (hst : st = As.reverse ++ rest) (hn : As.length = nn) (hf : f' + 1 ≤ f) (hnl : nL' ≤ 17) (hcat : (rest.map fun v => v.category).sum ≤ 8) (hr1 : n.1 ≤ zmc x) (hr2 : n.2 ≤ zms x)
    (k : zR x g post n pc' lv (r0.toList ++ rest) ws) : zR x g post n pc lv st ws :=
  zR_callS0 C K d M [] rfl rfl hst hn hf hnl hcat hr1 hr2 (fun r w h => ⟨[], [], by rw [h.2]; rfl, rfl, by rw [List.append_nil, h.1]; exact k⟩)
def zKm (own : String) (idx : Nat) (y : MethodName) (cc : ByteArray) (nL : Nat) (ret : Option FieldType) : Prop := Cond.methodLink own idx y ∈ zTBL ∧ Cond.static y ∈ zTBL ∧ Cond.initialized "java/lang/Math" ∈ zTBL ∧ Cond.code y cc nL ret ∈ zTBL
theorem zlv_size {ls : Array Slot} {nL : Nat} {lv : List (Nat × Value)} (h : lv_has ls nL lv) : nL = ls.size := h.1.symm
theorem zR_mmaxi (C : zC x g own cc ret f) {idx : Nat} {a b : Int32} (K : zKm own idx Lib.Math.max.name Lib.Math.max.code 2 (some .int)) (d : zD cc pc (.invokestatic idx) 3 pc') (hf : 1 ≤ f) (hcat : (st.map fun v => v.category).sum ≤ 8) (hr1 : n.1 ≤ zmc x) (hr2 : n.2 ≤ zms x) (k : zR x g post n pc' lv (.int (if a < b then b else a) :: st) ws) : zR x g post n pc lv (.int b :: .int a :: st) ws := by
  obtain ⟨d, rfl⟩ := d
  obtain ⟨k1, k2, k3, k4⟩ := K
  have hR := C.2.2.2.2.1
  exact fun H locs ls hP hD hS hl => va_mmax C.1.1 C.1.2.1 (C.1.2.2.1.trans (zlv_size hl)) C.1.2.2.2 (C.2.1 _ k1) (C.2.1 _ k2) (C.2.1 _ k3) (C.2.1 _ k4) (by rw [hR]; exact hf) (by rw [hR]; show _ ≤ 36 * f; omega) (by rw [hR]; exact hr1) (by rw [hR]; exact hr2) d (k H locs ls hP hD hS hl)
theorem zR_mmaxl (C : zC x g own cc ret f) {idx : Nat} {a b : Int64} (K : zKm own idx Lib.MathLoose.max_long.x Lib.MathLoose.max_long.code 4 (some .long)) (d : zD cc pc (.invokestatic idx) 3 pc') (hf : 1 ≤ f) (hcat : (st.map fun v => v.category).sum ≤ 8) (hr1 : n.1 ≤ zmc x) (hr2 : n.2 ≤ zms x) (k : zR x g post n pc' lv (.long (if b < a then a else b) :: st) ws) : zR x g post n pc lv (.long b :: .long a :: st) ws := by
  obtain ⟨d, rfl⟩ := d
  obtain ⟨k1, k2, k3, k4⟩ := K
  have hR := C.2.2.2.2.1
  exact fun H locs ls hP hD hS hl => va_mmax_long C.1.1 C.1.2.1 (C.1.2.2.1.trans (zlv_size hl)) C.1.2.2.2 (C.2.1 _ k1) (C.2.1 _ k2) (C.2.1 _ k3) (C.2.1 _ k4) (by rw [hR]; exact hf) (by rw [hR]; show _ ≤ 36 * f; omega) (by rw [hR]; exact hr1) (by rw [hR]; exact hr2) d (k H locs ls hP hD hS hl)
theorem zR_mminl (C : zC x g own cc ret f) {idx : Nat} {a b : Int64} (K : zKm own idx Lib.MathLoose.min_long.x Lib.MathLoose.min_long.code 4 (some .long)) (d : zD cc pc (.invokestatic idx) 3 pc') (hf : 1 ≤ f) (hcat : (st.map fun v => v.category).sum ≤ 8) (hr1 : n.1 ≤ zmc x) (hr2 : n.2 ≤ zms x) (k : zR x g post n pc' lv (.long (if b < a then b else a) :: st) ws) : zR x g post n pc lv (.long b :: .long a :: st) ws := by
  obtain ⟨d, rfl⟩ := d
  obtain ⟨k1, k2, k3, k4⟩ := K
  have hR := C.2.2.2.2.1
  exact fun H locs ls hP hD hS hl => va_mmin_long C.1.1 C.1.2.1 (C.1.2.2.1.trans (zlv_size hl)) C.1.2.2.2 (C.2.1 _ k1) (C.2.1 _ k2) (C.2.1 _ k3) (C.2.1 _ k4) (by rw [hR]; exact hf) (by rw [hR]; show _ ≤ 36 * f; omega) (by rw [hR]; exact hr1) (by rw [hR]; exact hr2) d (k H locs ls hP hD hS hl)
theorem zR_mmini (C : zC x g own cc ret f) {idx : Nat} {a b : Int32} (K : zKm own idx Lib.Math.min.name Lib.Math.min.code 2 (some .int)) (d : zD cc pc (.invokestatic idx) 3 pc') (hf : 1 ≤ f) (hcat : (st.map fun v => v.category).sum ≤ 8) (hr1 : n.1 ≤ zmc x) (hr2 : n.2 ≤ zms x) (k : zR x g post n pc' lv (.int (if b < a then b else a) :: st) ws) : zR x g post n pc lv (.int b :: .int a :: st) ws := by
  obtain ⟨d, rfl⟩ := d
  obtain ⟨k1, k2, k3, k4⟩ := K
  have hR := C.2.2.2.2.1
  exact fun H locs ls hP hD hS hl => va_mmin C.1.1 C.1.2.1 (C.1.2.2.1.trans (zlv_size hl)) C.1.2.2.2 (C.2.1 _ k1) (C.2.1 _ k2) (C.2.1 _ k3) (C.2.1 _ k4) (by rw [hR]; exact hf) (by rw [hR]; show _ ≤ 36 * f; omega) (by rw [hR]; exact hr1) (by rw [hR]; exact hr2) d (k H locs ls hP hD hS hl)
end ZR2
end
