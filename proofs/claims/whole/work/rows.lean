section
-- ===== PART A: goes FIRST, ahead of the names: the tables' words, and 'selects' of the private methods out of them =====
/-- a private method of a class that the tables say can be made, by its rows of tables_1 -/
def lw_okq (q : MethodName × Nat) : Prop := (q.1.cls ≠ "java/lang/invoke/MethodHandle" ∧ q.1.cls ≠ "java/lang/invoke/VarHandle") ∧ Cond.instantiable q.1.cls q.2 ∈ tables_1 ∧ Cond.privateMethod q.1 ∈ tables_1 ∧ Cond.instanceMethod q.1 ∈ tables_1
theorem lw_p0 : lw_okq (⟨"ErrorBudgets$History", "prepare", "(LErrorBudgets$House;)V"⟩, 3) := ⟨⟨by decide +kernel, by decide +kernel⟩, List.mem_of_getElem? (i := 179) (by decide +kernel), List.mem_of_getElem? (i := 261) (by decide +kernel), List.mem_of_getElem? (i := 262) (by decide +kernel)⟩
theorem lw_p1 : lw_okq (⟨"ErrorBudgets$House", "copyFrom", "(LErrorBudgets$House;)V"⟩, 14) := ⟨⟨by decide +kernel, by decide +kernel⟩, List.mem_of_getElem? (i := 23) (by decide +kernel), List.mem_of_getElem? (i := 265) (by decide +kernel), List.mem_of_getElem? (i := 266) (by decide +kernel)⟩
theorem lw_p2 : lw_okq (⟨"ErrorBudgets$Loans", "copyFrom", "(LErrorBudgets$Loans;)V"⟩, 6) := ⟨⟨by decide +kernel, by decide +kernel⟩, List.mem_of_getElem? (i := 38) (by decide +kernel), List.mem_of_getElem? (i := 272) (by decide +kernel), List.mem_of_getElem? (i := 273) (by decide +kernel)⟩
theorem lw_p3 : lw_okq (⟨"ErrorBudgets$Plans", "copyFrom", "(LErrorBudgets$Plans;)V"⟩, 9) := ⟨⟨by decide +kernel, by decide +kernel⟩, List.mem_of_getElem? (i := 76) (by decide +kernel), List.mem_of_getElem? (i := 277) (by decide +kernel), List.mem_of_getElem? (i := 278) (by decide +kernel)⟩
theorem lw_p4 : lw_okq (⟨"ErrorBudgets$Plans", "watch", "(I)V"⟩, 9) := ⟨⟨by decide +kernel, by decide +kernel⟩, List.mem_of_getElem? (i := 76) (by decide +kernel), List.mem_of_getElem? (i := 282) (by decide +kernel), List.mem_of_getElem? (i := 283) (by decide +kernel)⟩
theorem lw_p5 : lw_okq (⟨"ErrorBudgets$History", "keep", "(I)I"⟩, 3) := ⟨⟨by decide +kernel, by decide +kernel⟩, List.mem_of_getElem? (i := 179) (by decide +kernel), List.mem_of_getElem? (i := 286) (by decide +kernel), List.mem_of_getElem? (i := 287) (by decide +kernel)⟩
theorem lw_p6 : lw_okq (⟨"ErrorBudgets$House", "addService", "(I)I"⟩, 14) := ⟨⟨by decide +kernel, by decide +kernel⟩, List.mem_of_getElem? (i := 23) (by decide +kernel), List.mem_of_getElem? (i := 294) (by decide +kernel), List.mem_of_getElem? (i := 295) (by decide +kernel)⟩
theorem lw_p7 : lw_okq (⟨"ErrorBudgets$House", "book", "(IIJ)V"⟩, 14) := ⟨⟨by decide +kernel, by decide +kernel⟩, List.mem_of_getElem? (i := 23) (by decide +kernel), List.mem_of_getElem? (i := 298) (by decide +kernel), List.mem_of_getElem? (i := 299) (by decide +kernel)⟩
theorem lw_p8 : lw_okq (⟨"ErrorBudgets$House", "enter", "(IIJ)V"⟩, 14) := ⟨⟨by decide +kernel, by decide +kernel⟩, List.mem_of_getElem? (i := 23) (by decide +kernel), List.mem_of_getElem? (i := 302) (by decide +kernel), List.mem_of_getElem? (i := 303) (by decide +kernel)⟩
theorem lw_p9 : lw_okq (⟨"ErrorBudgets$House", "minutesOf", "(II)J"⟩, 14) := ⟨⟨by decide +kernel, by decide +kernel⟩, List.mem_of_getElem? (i := 23) (by decide +kernel), List.mem_of_getElem? (i := 306) (by decide +kernel), List.mem_of_getElem? (i := 307) (by decide +kernel)⟩
theorem lw_p10 : lw_okq (⟨"ErrorBudgets$House", "isFrozen", "(I)Z"⟩, 14) := ⟨⟨by decide +kernel, by decide +kernel⟩, List.mem_of_getElem? (i := 23) (by decide +kernel), List.mem_of_getElem? (i := 310) (by decide +kernel), List.mem_of_getElem? (i := 311) (by decide +kernel)⟩
theorem lw_p11 : lw_okq (⟨"ErrorBudgets$House", "thawLimit", "(I)I"⟩, 14) := ⟨⟨by decide +kernel, by decide +kernel⟩, List.mem_of_getElem? (i := 23) (by decide +kernel), List.mem_of_getElem? (i := 314) (by decide +kernel), List.mem_of_getElem? (i := 315) (by decide +kernel)⟩
theorem lw_p12 : lw_okq (⟨"ErrorBudgets$House", "hasService", "(I)Z"⟩, 14) := ⟨⟨by decide +kernel, by decide +kernel⟩, List.mem_of_getElem? (i := 23) (by decide +kernel), List.mem_of_getElem? (i := 322) (by decide +kernel), List.mem_of_getElem? (i := 323) (by decide +kernel)⟩
theorem lw_p13 : lw_okq (⟨"ErrorBudgets", "sufferOutage", "(III)I"⟩, 7) := ⟨⟨by decide +kernel, by decide +kernel⟩, List.mem_of_getElem? (i := 15) (by decide +kernel), List.mem_of_getElem? (i := 330) (by decide +kernel), List.mem_of_getElem? (i := 331) (by decide +kernel)⟩
theorem lw_p14 : lw_okq (⟨"ErrorBudgets", "tryRelease", "(III)I"⟩, 7) := ⟨⟨by decide +kernel, by decide +kernel⟩, List.mem_of_getElem? (i := 15) (by decide +kernel), List.mem_of_getElem? (i := 340) (by decide +kernel), List.mem_of_getElem? (i := 341) (by decide +kernel)⟩
theorem lw_p15 : lw_okq (⟨"ErrorBudgets", "refuse", "(I)I"⟩, 7) := ⟨⟨by decide +kernel, by decide +kernel⟩, List.mem_of_getElem? (i := 15) (by decide +kernel), List.mem_of_getElem? (i := 344) (by decide +kernel), List.mem_of_getElem? (i := 345) (by decide +kernel)⟩
def lw_privs_1 : List (MethodName × Nat) := [(⟨"ErrorBudgets$History", "prepare", "(LErrorBudgets$House;)V"⟩, 3), (⟨"ErrorBudgets$House", "copyFrom", "(LErrorBudgets$House;)V"⟩, 14), (⟨"ErrorBudgets$Loans", "copyFrom", "(LErrorBudgets$Loans;)V"⟩, 6), (⟨"ErrorBudgets$Plans", "copyFrom", "(LErrorBudgets$Plans;)V"⟩, 9), (⟨"ErrorBudgets$Plans", "watch", "(I)V"⟩, 9), (⟨"ErrorBudgets$History", "keep", "(I)I"⟩, 3), (⟨"ErrorBudgets$House", "addService", "(I)I"⟩, 14), (⟨"ErrorBudgets$House", "book", "(IIJ)V"⟩, 14), (⟨"ErrorBudgets$House", "enter", "(IIJ)V"⟩, 14), (⟨"ErrorBudgets$House", "minutesOf", "(II)J"⟩, 14), (⟨"ErrorBudgets$House", "isFrozen", "(I)Z"⟩, 14), (⟨"ErrorBudgets$House", "thawLimit", "(I)I"⟩, 14), (⟨"ErrorBudgets$House", "hasService", "(I)Z"⟩, 14), (⟨"ErrorBudgets", "sufferOutage", "(III)I"⟩, 7), (⟨"ErrorBudgets", "tryRelease", "(III)I"⟩, 7), (⟨"ErrorBudgets", "refuse", "(I)I"⟩, 7)]
theorem lw_r1 : ∀ q ∈ lw_privs_1, lw_okq q := List.forall_mem_cons.mpr ⟨lw_p0, List.forall_mem_cons.mpr ⟨lw_p1, List.forall_mem_cons.mpr ⟨lw_p2, List.forall_mem_cons.mpr ⟨lw_p3, List.forall_mem_cons.mpr ⟨lw_p4, List.forall_mem_cons.mpr ⟨lw_p5, List.forall_mem_cons.mpr ⟨lw_p6, List.forall_mem_cons.mpr ⟨lw_p7, List.forall_mem_cons.mpr ⟨lw_p8, List.forall_mem_cons.mpr ⟨lw_p9, List.forall_mem_cons.mpr ⟨lw_p10, List.forall_mem_cons.mpr ⟨lw_p11, List.forall_mem_cons.mpr ⟨lw_p12, List.forall_mem_cons.mpr ⟨lw_p13, List.forall_mem_cons.mpr ⟨lw_p14, List.forall_mem_cons.mpr ⟨lw_p15, fun _ h => absurd h List.not_mem_nil⟩⟩⟩⟩⟩⟩⟩⟩⟩⟩⟩⟩⟩⟩⟩⟩
theorem lw_p16 : lw_okq (⟨"ErrorBudgets$House", "doRelease", "(II)V"⟩, 14) := ⟨⟨by decide +kernel, by decide +kernel⟩, List.mem_of_getElem? (i := 23) (by decide +kernel), List.mem_of_getElem? (i := 348) (by decide +kernel), List.mem_of_getElem? (i := 349) (by decide +kernel)⟩
theorem lw_p17 : lw_okq (⟨"ErrorBudgets", "tryLoan", "(IIII)I"⟩, 7) := ⟨⟨by decide +kernel, by decide +kernel⟩, List.mem_of_getElem? (i := 15) (by decide +kernel), List.mem_of_getElem? (i := 356) (by decide +kernel), List.mem_of_getElem? (i := 357) (by decide +kernel)⟩
theorem lw_p18 : lw_okq (⟨"ErrorBudgets$House", "refusalOfLoan", "(III)I"⟩, 14) := ⟨⟨by decide +kernel, by decide +kernel⟩, List.mem_of_getElem? (i := 23) (by decide +kernel), List.mem_of_getElem? (i := 360) (by decide +kernel), List.mem_of_getElem? (i := 361) (by decide +kernel)⟩
theorem lw_p19 : lw_okq (⟨"ErrorBudgets$Loans", "countWith", "([II)I"⟩, 6) := ⟨⟨by decide +kernel, by decide +kernel⟩, List.mem_of_getElem? (i := 38) (by decide +kernel), List.mem_of_getElem? (i := 364) (by decide +kernel), List.mem_of_getElem? (i := 365) (by decide +kernel)⟩
theorem lw_p20 : lw_okq (⟨"ErrorBudgets$House", "addLoan", "(IIII)I"⟩, 14) := ⟨⟨by decide +kernel, by decide +kernel⟩, List.mem_of_getElem? (i := 23) (by decide +kernel), List.mem_of_getElem? (i := 368) (by decide +kernel), List.mem_of_getElem? (i := 369) (by decide +kernel)⟩
theorem lw_p21 : lw_okq (⟨"ErrorBudgets$Loans", "add", "(IIIII)I"⟩, 6) := ⟨⟨by decide +kernel, by decide +kernel⟩, List.mem_of_getElem? (i := 38) (by decide +kernel), List.mem_of_getElem? (i := 372) (by decide +kernel), List.mem_of_getElem? (i := 373) (by decide +kernel)⟩
theorem lw_p22 : lw_okq (⟨"ErrorBudgets$Loans", "has", "(I)Z"⟩, 6) := ⟨⟨by decide +kernel, by decide +kernel⟩, List.mem_of_getElem? (i := 38) (by decide +kernel), List.mem_of_getElem? (i := 380) (by decide +kernel), List.mem_of_getElem? (i := 381) (by decide +kernel)⟩
theorem lw_p23 : lw_okq (⟨"ErrorBudgets$House", "payBack", "(I)V"⟩, 14) := ⟨⟨by decide +kernel, by decide +kernel⟩, List.mem_of_getElem? (i := 23) (by decide +kernel), List.mem_of_getElem? (i := 384) (by decide +kernel), List.mem_of_getElem? (i := 385) (by decide +kernel)⟩
theorem lw_p24 : lw_okq (⟨"ErrorBudgets$Loans", "removePaid", "()V"⟩, 6) := ⟨⟨by decide +kernel, by decide +kernel⟩, List.mem_of_getElem? (i := 38) (by decide +kernel), List.mem_of_getElem? (i := 391) (by decide +kernel), List.mem_of_getElem? (i := 392) (by decide +kernel)⟩
theorem lw_p25 : lw_okq (⟨"ErrorBudgets", "addPlan", "(IIII)I"⟩, 7) := ⟨⟨by decide +kernel, by decide +kernel⟩, List.mem_of_getElem? (i := 15) (by decide +kernel), List.mem_of_getElem? (i := 399) (by decide +kernel), List.mem_of_getElem? (i := 400) (by decide +kernel)⟩
theorem lw_p26 : lw_okq (⟨"ErrorBudgets$Plans", "add", "(IIII)I"⟩, 9) := ⟨⟨by decide +kernel, by decide +kernel⟩, List.mem_of_getElem? (i := 76) (by decide +kernel), List.mem_of_getElem? (i := 403) (by decide +kernel), List.mem_of_getElem? (i := 404) (by decide +kernel)⟩
theorem lw_p27 : lw_okq (⟨"ErrorBudgets$Plans", "arrange", "()V"⟩, 9) := ⟨⟨by decide +kernel, by decide +kernel⟩, List.mem_of_getElem? (i := 76) (by decide +kernel), List.mem_of_getElem? (i := 407) (by decide +kernel), List.mem_of_getElem? (i := 408) (by decide +kernel)⟩
theorem lw_p28 : lw_okq (⟨"ErrorBudgets$Plans", "isBefore", "(II)Z"⟩, 9) := ⟨⟨by decide +kernel, by decide +kernel⟩, List.mem_of_getElem? (i := 76) (by decide +kernel), List.mem_of_getElem? (i := 411) (by decide +kernel), List.mem_of_getElem? (i := 412) (by decide +kernel)⟩
theorem lw_p29 : lw_okq (⟨"ErrorBudgets", "removePlan", "(I)I"⟩, 7) := ⟨⟨by decide +kernel, by decide +kernel⟩, List.mem_of_getElem? (i := 15) (by decide +kernel), List.mem_of_getElem? (i := 419) (by decide +kernel), List.mem_of_getElem? (i := 420) (by decide +kernel)⟩
theorem lw_p30 : lw_okq (⟨"ErrorBudgets$Plans", "has", "(I)Z"⟩, 9) := ⟨⟨by decide +kernel, by decide +kernel⟩, List.mem_of_getElem? (i := 76) (by decide +kernel), List.mem_of_getElem? (i := 423) (by decide +kernel), List.mem_of_getElem? (i := 424) (by decide +kernel)⟩
theorem lw_p31 : lw_okq (⟨"ErrorBudgets$Plans", "removeEnded", "()V"⟩, 9) := ⟨⟨by decide +kernel, by decide +kernel⟩, List.mem_of_getElem? (i := 76) (by decide +kernel), List.mem_of_getElem? (i := 427) (by decide +kernel), List.mem_of_getElem? (i := 428) (by decide +kernel)⟩
def lw_privs_2 : List (MethodName × Nat) := [(⟨"ErrorBudgets$House", "doRelease", "(II)V"⟩, 14), (⟨"ErrorBudgets", "tryLoan", "(IIII)I"⟩, 7), (⟨"ErrorBudgets$House", "refusalOfLoan", "(III)I"⟩, 14), (⟨"ErrorBudgets$Loans", "countWith", "([II)I"⟩, 6), (⟨"ErrorBudgets$House", "addLoan", "(IIII)I"⟩, 14), (⟨"ErrorBudgets$Loans", "add", "(IIIII)I"⟩, 6), (⟨"ErrorBudgets$Loans", "has", "(I)Z"⟩, 6), (⟨"ErrorBudgets$House", "payBack", "(I)V"⟩, 14), (⟨"ErrorBudgets$Loans", "removePaid", "()V"⟩, 6), (⟨"ErrorBudgets", "addPlan", "(IIII)I"⟩, 7), (⟨"ErrorBudgets$Plans", "add", "(IIII)I"⟩, 9), (⟨"ErrorBudgets$Plans", "arrange", "()V"⟩, 9), (⟨"ErrorBudgets$Plans", "isBefore", "(II)Z"⟩, 9), (⟨"ErrorBudgets", "removePlan", "(I)I"⟩, 7), (⟨"ErrorBudgets$Plans", "has", "(I)Z"⟩, 9), (⟨"ErrorBudgets$Plans", "removeEnded", "()V"⟩, 9)]
theorem lw_r2 : ∀ q ∈ lw_privs_2, lw_okq q := List.forall_mem_cons.mpr ⟨lw_p16, List.forall_mem_cons.mpr ⟨lw_p17, List.forall_mem_cons.mpr ⟨lw_p18, List.forall_mem_cons.mpr ⟨lw_p19, List.forall_mem_cons.mpr ⟨lw_p20, List.forall_mem_cons.mpr ⟨lw_p21, List.forall_mem_cons.mpr ⟨lw_p22, List.forall_mem_cons.mpr ⟨lw_p23, List.forall_mem_cons.mpr ⟨lw_p24, List.forall_mem_cons.mpr ⟨lw_p25, List.forall_mem_cons.mpr ⟨lw_p26, List.forall_mem_cons.mpr ⟨lw_p27, List.forall_mem_cons.mpr ⟨lw_p28, List.forall_mem_cons.mpr ⟨lw_p29, List.forall_mem_cons.mpr ⟨lw_p30, List.forall_mem_cons.mpr ⟨lw_p31, fun _ h => absurd h List.not_mem_nil⟩⟩⟩⟩⟩⟩⟩⟩⟩⟩⟩⟩⟩⟩⟩⟩
theorem lw_p32 : lw_okq (⟨"ErrorBudgets$Plans", "move", "(II)V"⟩, 9) := ⟨⟨by decide +kernel, by decide +kernel⟩, List.mem_of_getElem? (i := 76) (by decide +kernel), List.mem_of_getElem? (i := 431) (by decide +kernel), List.mem_of_getElem? (i := 432) (by decide +kernel)⟩
theorem lw_p33 : lw_okq (⟨"ErrorBudgets$House", "letPass", "(I)I"⟩, 14) := ⟨⟨by decide +kernel, by decide +kernel⟩, List.mem_of_getElem? (i := 23) (by decide +kernel), List.mem_of_getElem? (i := 439) (by decide +kernel), List.mem_of_getElem? (i := 440) (by decide +kernel)⟩
theorem lw_p34 : lw_okq (⟨"ErrorBudgets$House", "beginWindow", "()V"⟩, 14) := ⟨⟨by decide +kernel, by decide +kernel⟩, List.mem_of_getElem? (i := 23) (by decide +kernel), List.mem_of_getElem? (i := 444) (by decide +kernel), List.mem_of_getElem? (i := 445) (by decide +kernel)⟩
theorem lw_p35 : lw_okq (⟨"ErrorBudgets$House", "payDueLoans", "()V"⟩, 14) := ⟨⟨by decide +kernel, by decide +kernel⟩, List.mem_of_getElem? (i := 23) (by decide +kernel), List.mem_of_getElem? (i := 452) (by decide +kernel), List.mem_of_getElem? (i := 453) (by decide +kernel)⟩
theorem lw_p36 : lw_okq (⟨"ErrorBudgets$House", "takePlans", "()V"⟩, 14) := ⟨⟨by decide +kernel, by decide +kernel⟩, List.mem_of_getElem? (i := 23) (by decide +kernel), List.mem_of_getElem? (i := 462) (by decide +kernel), List.mem_of_getElem? (i := 463) (by decide +kernel)⟩
theorem lw_p37 : lw_okq (⟨"ErrorBudgets$House", "fateOf", "(I)I"⟩, 14) := ⟨⟨by decide +kernel, by decide +kernel⟩, List.mem_of_getElem? (i := 23) (by decide +kernel), List.mem_of_getElem? (i := 466) (by decide +kernel), List.mem_of_getElem? (i := 467) (by decide +kernel)⟩
theorem lw_p38 : lw_okq (⟨"ErrorBudgets$Loans", "owedWith", "([II)I"⟩, 6) := ⟨⟨by decide +kernel, by decide +kernel⟩, List.mem_of_getElem? (i := 38) (by decide +kernel), List.mem_of_getElem? (i := 477) (by decide +kernel), List.mem_of_getElem? (i := 478) (by decide +kernel)⟩
theorem lw_p39 : lw_okq (⟨"ErrorBudgets$Plans", "countWith", "(I)I"⟩, 9) := ⟨⟨by decide +kernel, by decide +kernel⟩, List.mem_of_getElem? (i := 76) (by decide +kernel), List.mem_of_getElem? (i := 481) (by decide +kernel), List.mem_of_getElem? (i := 482) (by decide +kernel)⟩
theorem lw_p40 : lw_okq (⟨"ErrorBudgets", "hoursUntil", "(IZ)I"⟩, 7) := ⟨⟨by decide +kernel, by decide +kernel⟩, List.mem_of_getElem? (i := 15) (by decide +kernel), List.mem_of_getElem? (i := 513) (by decide +kernel), List.mem_of_getElem? (i := 514) (by decide +kernel)⟩
theorem lw_p41 : lw_okq (⟨"ErrorBudgets$Pad", "append", "(I)V"⟩, 6) := ⟨⟨by decide +kernel, by decide +kernel⟩, List.mem_of_getElem? (i := 199) (by decide +kernel), List.mem_of_getElem? (i := 552) (by decide +kernel), List.mem_of_getElem? (i := 553) (by decide +kernel)⟩
theorem lw_p42 : lw_okq (⟨"ErrorBudgets$Pad", "readOrders", "()I"⟩, 6) := ⟨⟨by decide +kernel, by decide +kernel⟩, List.mem_of_getElem? (i := 199) (by decide +kernel), List.mem_of_getElem? (i := 564) (by decide +kernel), List.mem_of_getElem? (i := 565) (by decide +kernel)⟩
theorem lw_p43 : lw_okq (⟨"ErrorBudgets$Pad", "readOrder", "()Z"⟩, 6) := ⟨⟨by decide +kernel, by decide +kernel⟩, List.mem_of_getElem? (i := 199) (by decide +kernel), List.mem_of_getElem? (i := 568) (by decide +kernel), List.mem_of_getElem? (i := 569) (by decide +kernel)⟩
theorem lw_p44 : lw_okq (⟨"ErrorBudgets$Pad", "signHere", "()C"⟩, 6) := ⟨⟨by decide +kernel, by decide +kernel⟩, List.mem_of_getElem? (i := 199) (by decide +kernel), List.mem_of_getElem? (i := 572) (by decide +kernel), List.mem_of_getElem? (i := 573) (by decide +kernel)⟩
theorem lw_p45 : lw_okq (⟨"ErrorBudgets$Pad", "readPart", "(C)I"⟩, 6) := ⟨⟨by decide +kernel, by decide +kernel⟩, List.mem_of_getElem? (i := 199) (by decide +kernel), List.mem_of_getElem? (i := 637) (by decide +kernel), List.mem_of_getElem? (i := 638) (by decide +kernel)⟩
theorem lw_p46 : lw_okq (⟨"ErrorBudgets$Pad", "readDigit", "(C)I"⟩, 6) := ⟨⟨by decide +kernel, by decide +kernel⟩, List.mem_of_getElem? (i := 199) (by decide +kernel), List.mem_of_getElem? (i := 641) (by decide +kernel), List.mem_of_getElem? (i := 642) (by decide +kernel)⟩
theorem lw_p47 : lw_okq (⟨"ErrorBudgets$Pad", "readNumber", "()I"⟩, 6) := ⟨⟨by decide +kernel, by decide +kernel⟩, List.mem_of_getElem? (i := 199) (by decide +kernel), List.mem_of_getElem? (i := 645) (by decide +kernel), List.mem_of_getElem? (i := 646) (by decide +kernel)⟩
def lw_privs_3 : List (MethodName × Nat) := [(⟨"ErrorBudgets$Plans", "move", "(II)V"⟩, 9), (⟨"ErrorBudgets$House", "letPass", "(I)I"⟩, 14), (⟨"ErrorBudgets$House", "beginWindow", "()V"⟩, 14), (⟨"ErrorBudgets$House", "payDueLoans", "()V"⟩, 14), (⟨"ErrorBudgets$House", "takePlans", "()V"⟩, 14), (⟨"ErrorBudgets$House", "fateOf", "(I)I"⟩, 14), (⟨"ErrorBudgets$Loans", "owedWith", "([II)I"⟩, 6), (⟨"ErrorBudgets$Plans", "countWith", "(I)I"⟩, 9), (⟨"ErrorBudgets", "hoursUntil", "(IZ)I"⟩, 7), (⟨"ErrorBudgets$Pad", "append", "(I)V"⟩, 6), (⟨"ErrorBudgets$Pad", "readOrders", "()I"⟩, 6), (⟨"ErrorBudgets$Pad", "readOrder", "()Z"⟩, 6), (⟨"ErrorBudgets$Pad", "signHere", "()C"⟩, 6), (⟨"ErrorBudgets$Pad", "readPart", "(C)I"⟩, 6), (⟨"ErrorBudgets$Pad", "readDigit", "(C)I"⟩, 6), (⟨"ErrorBudgets$Pad", "readNumber", "()I"⟩, 6)]
theorem lw_r3 : ∀ q ∈ lw_privs_3, lw_okq q := List.forall_mem_cons.mpr ⟨lw_p32, List.forall_mem_cons.mpr ⟨lw_p33, List.forall_mem_cons.mpr ⟨lw_p34, List.forall_mem_cons.mpr ⟨lw_p35, List.forall_mem_cons.mpr ⟨lw_p36, List.forall_mem_cons.mpr ⟨lw_p37, List.forall_mem_cons.mpr ⟨lw_p38, List.forall_mem_cons.mpr ⟨lw_p39, List.forall_mem_cons.mpr ⟨lw_p40, List.forall_mem_cons.mpr ⟨lw_p41, List.forall_mem_cons.mpr ⟨lw_p42, List.forall_mem_cons.mpr ⟨lw_p43, List.forall_mem_cons.mpr ⟨lw_p44, List.forall_mem_cons.mpr ⟨lw_p45, List.forall_mem_cons.mpr ⟨lw_p46, List.forall_mem_cons.mpr ⟨lw_p47, fun _ h => absurd h List.not_mem_nil⟩⟩⟩⟩⟩⟩⟩⟩⟩⟩⟩⟩⟩⟩⟩⟩
theorem lw_p48 : lw_okq (⟨"ErrorBudgets$Pad", "readSign", "(C)Z"⟩, 6) := ⟨⟨by decide +kernel, by decide +kernel⟩, List.mem_of_getElem? (i := 199) (by decide +kernel), List.mem_of_getElem? (i := 649) (by decide +kernel), List.mem_of_getElem? (i := 650) (by decide +kernel)⟩
theorem lw_p49 : lw_okq (⟨"ErrorBudgets", "obey", "(I)I"⟩, 7) := ⟨⟨by decide +kernel, by decide +kernel⟩, List.mem_of_getElem? (i := 15) (by decide +kernel), List.mem_of_getElem? (i := 661) (by decide +kernel), List.mem_of_getElem? (i := 662) (by decide +kernel)⟩
theorem lw_p50 : lw_okq (⟨"ErrorBudgets$Pad", "valueOf", "(II)I"⟩, 6) := ⟨⟨by decide +kernel, by decide +kernel⟩, List.mem_of_getElem? (i := 199) (by decide +kernel), List.mem_of_getElem? (i := 665) (by decide +kernel), List.mem_of_getElem? (i := 666) (by decide +kernel)⟩
theorem lw_p51 : lw_okq (⟨"ErrorBudgets$Pad", "kindOf", "(I)C"⟩, 6) := ⟨⟨by decide +kernel, by decide +kernel⟩, List.mem_of_getElem? (i := 199) (by decide +kernel), List.mem_of_getElem? (i := 669) (by decide +kernel), List.mem_of_getElem? (i := 670) (by decide +kernel)⟩
theorem lw_p52 : lw_okq (⟨"ErrorBudgets$History", "takeLatest", "()LErrorBudgets$House;"⟩, 3) := ⟨⟨by decide +kernel, by decide +kernel⟩, List.mem_of_getElem? (i := 179) (by decide +kernel), List.mem_of_getElem? (i := 677) (by decide +kernel), List.mem_of_getElem? (i := 678) (by decide +kernel)⟩
theorem lw_p53 : lw_okq (⟨"ErrorBudgetsModel", "copy", "(II)V"⟩, 14) := ⟨⟨by decide +kernel, by decide +kernel⟩, List.mem_of_getElem? (i := 692) (by decide +kernel), List.mem_of_getElem? (i := 751) (by decide +kernel), List.mem_of_getElem? (i := 752) (by decide +kernel)⟩
theorem lw_p54 : lw_okq (⟨"ErrorBudgetsModel", "number", "(I)I"⟩, 14) := ⟨⟨by decide +kernel, by decide +kernel⟩, List.mem_of_getElem? (i := 692) (by decide +kernel), List.mem_of_getElem? (i := 762) (by decide +kernel), List.mem_of_getElem? (i := 763) (by decide +kernel)⟩
theorem lw_p55 : lw_okq (⟨"ErrorBudgetsModel", "record", "()V"⟩, 14) := ⟨⟨by decide +kernel, by decide +kernel⟩, List.mem_of_getElem? (i := 692) (by decide +kernel), List.mem_of_getElem? (i := 770) (by decide +kernel), List.mem_of_getElem? (i := 771) (by decide +kernel)⟩
theorem lw_p56 : lw_okq (⟨"ErrorBudgetsModel", "isService", "(I)Z"⟩, 14) := ⟨⟨by decide +kernel, by decide +kernel⟩, List.mem_of_getElem? (i := 692) (by decide +kernel), List.mem_of_getElem? (i := 803) (by decide +kernel), List.mem_of_getElem? (i := 804) (by decide +kernel)⟩
theorem lw_p57 : lw_okq (⟨"ErrorBudgetsModel", "noOutage", "(III)I"⟩, 14) := ⟨⟨by decide +kernel, by decide +kernel⟩, List.mem_of_getElem? (i := 692) (by decide +kernel), List.mem_of_getElem? (i := 811) (by decide +kernel), List.mem_of_getElem? (i := 812) (by decide +kernel)⟩
theorem lw_p58 : lw_okq (⟨"ErrorBudgetsModel", "doOutage", "(III)I"⟩, 14) := ⟨⟨by decide +kernel, by decide +kernel⟩, List.mem_of_getElem? (i := 692) (by decide +kernel), List.mem_of_getElem? (i := 816) (by decide +kernel), List.mem_of_getElem? (i := 817) (by decide +kernel)⟩
theorem lw_p59 : lw_okq (⟨"ErrorBudgetsModel", "change", "(IJ)V"⟩, 14) := ⟨⟨by decide +kernel, by decide +kernel⟩, List.mem_of_getElem? (i := 692) (by decide +kernel), List.mem_of_getElem? (i := 820) (by decide +kernel), List.mem_of_getElem? (i := 821) (by decide +kernel)⟩
theorem lw_p60 : lw_okq (⟨"ErrorBudgetsModel", "left", "(I)J"⟩, 14) := ⟨⟨by decide +kernel, by decide +kernel⟩, List.mem_of_getElem? (i := 692) (by decide +kernel), List.mem_of_getElem? (i := 824) (by decide +kernel), List.mem_of_getElem? (i := 825) (by decide +kernel)⟩
theorem lw_p61 : lw_okq (⟨"ErrorBudgetsModel", "isFrozen", "(I)Z"⟩, 14) := ⟨⟨by decide +kernel, by decide +kernel⟩, List.mem_of_getElem? (i := 692) (by decide +kernel), List.mem_of_getElem? (i := 828) (by decide +kernel), List.mem_of_getElem? (i := 829) (by decide +kernel)⟩
theorem lw_p62 : lw_okq (⟨"ErrorBudgetsModel", "thawing", "(I)J"⟩, 14) := ⟨⟨by decide +kernel, by decide +kernel⟩, List.mem_of_getElem? (i := 692) (by decide +kernel), List.mem_of_getElem? (i := 832) (by decide +kernel), List.mem_of_getElem? (i := 833) (by decide +kernel)⟩
theorem lw_p63 : lw_okq (⟨"ErrorBudgetsModel", "noRelease", "(III)I"⟩, 14) := ⟨⟨by decide +kernel, by decide +kernel⟩, List.mem_of_getElem? (i := 692) (by decide +kernel), List.mem_of_getElem? (i := 840) (by decide +kernel), List.mem_of_getElem? (i := 841) (by decide +kernel)⟩
def lw_privs_4 : List (MethodName × Nat) := [(⟨"ErrorBudgets$Pad", "readSign", "(C)Z"⟩, 6), (⟨"ErrorBudgets", "obey", "(I)I"⟩, 7), (⟨"ErrorBudgets$Pad", "valueOf", "(II)I"⟩, 6), (⟨"ErrorBudgets$Pad", "kindOf", "(I)C"⟩, 6), (⟨"ErrorBudgets$History", "takeLatest", "()LErrorBudgets$House;"⟩, 3), (⟨"ErrorBudgetsModel", "copy", "(II)V"⟩, 14), (⟨"ErrorBudgetsModel", "number", "(I)I"⟩, 14), (⟨"ErrorBudgetsModel", "record", "()V"⟩, 14), (⟨"ErrorBudgetsModel", "isService", "(I)Z"⟩, 14), (⟨"ErrorBudgetsModel", "noOutage", "(III)I"⟩, 14), (⟨"ErrorBudgetsModel", "doOutage", "(III)I"⟩, 14), (⟨"ErrorBudgetsModel", "change", "(IJ)V"⟩, 14), (⟨"ErrorBudgetsModel", "left", "(I)J"⟩, 14), (⟨"ErrorBudgetsModel", "isFrozen", "(I)Z"⟩, 14), (⟨"ErrorBudgetsModel", "thawing", "(I)J"⟩, 14), (⟨"ErrorBudgetsModel", "noRelease", "(III)I"⟩, 14)]
theorem lw_r4 : ∀ q ∈ lw_privs_4, lw_okq q := List.forall_mem_cons.mpr ⟨lw_p48, List.forall_mem_cons.mpr ⟨lw_p49, List.forall_mem_cons.mpr ⟨lw_p50, List.forall_mem_cons.mpr ⟨lw_p51, List.forall_mem_cons.mpr ⟨lw_p52, List.forall_mem_cons.mpr ⟨lw_p53, List.forall_mem_cons.mpr ⟨lw_p54, List.forall_mem_cons.mpr ⟨lw_p55, List.forall_mem_cons.mpr ⟨lw_p56, List.forall_mem_cons.mpr ⟨lw_p57, List.forall_mem_cons.mpr ⟨lw_p58, List.forall_mem_cons.mpr ⟨lw_p59, List.forall_mem_cons.mpr ⟨lw_p60, List.forall_mem_cons.mpr ⟨lw_p61, List.forall_mem_cons.mpr ⟨lw_p62, List.forall_mem_cons.mpr ⟨lw_p63, fun _ h => absurd h List.not_mem_nil⟩⟩⟩⟩⟩⟩⟩⟩⟩⟩⟩⟩⟩⟩⟩⟩
theorem lw_p64 : lw_okq (⟨"ErrorBudgetsModel", "refuse", "(I)I"⟩, 14) := ⟨⟨by decide +kernel, by decide +kernel⟩, List.mem_of_getElem? (i := 692) (by decide +kernel), List.mem_of_getElem? (i := 845) (by decide +kernel), List.mem_of_getElem? (i := 846) (by decide +kernel)⟩
theorem lw_p65 : lw_okq (⟨"ErrorBudgetsModel", "doRelease", "(II)I"⟩, 14) := ⟨⟨by decide +kernel, by decide +kernel⟩, List.mem_of_getElem? (i := 692) (by decide +kernel), List.mem_of_getElem? (i := 849) (by decide +kernel), List.mem_of_getElem? (i := 850) (by decide +kernel)⟩
theorem lw_p66 : lw_okq (⟨"ErrorBudgetsModel", "spend", "(IJ)V"⟩, 14) := ⟨⟨by decide +kernel, by decide +kernel⟩, List.mem_of_getElem? (i := 692) (by decide +kernel), List.mem_of_getElem? (i := 853) (by decide +kernel), List.mem_of_getElem? (i := 854) (by decide +kernel)⟩
theorem lw_p67 : lw_okq (⟨"ErrorBudgetsModel", "noLend", "(IIII)I"⟩, 14) := ⟨⟨by decide +kernel, by decide +kernel⟩, List.mem_of_getElem? (i := 692) (by decide +kernel), List.mem_of_getElem? (i := 861) (by decide +kernel), List.mem_of_getElem? (i := 862) (by decide +kernel)⟩
theorem lw_p68 : lw_okq (⟨"ErrorBudgetsModel", "whyNot", "(III)I"⟩, 14) := ⟨⟨by decide +kernel, by decide +kernel⟩, List.mem_of_getElem? (i := 692) (by decide +kernel), List.mem_of_getElem? (i := 867) (by decide +kernel), List.mem_of_getElem? (i := 868) (by decide +kernel)⟩
theorem lw_p69 : lw_okq (⟨"ErrorBudgetsModel", "loansOf", "(II)I"⟩, 14) := ⟨⟨by decide +kernel, by decide +kernel⟩, List.mem_of_getElem? (i := 692) (by decide +kernel), List.mem_of_getElem? (i := 871) (by decide +kernel), List.mem_of_getElem? (i := 872) (by decide +kernel)⟩
theorem lw_p70 : lw_okq (⟨"ErrorBudgetsModel", "doLend", "(IIII)I"⟩, 14) := ⟨⟨by decide +kernel, by decide +kernel⟩, List.mem_of_getElem? (i := 692) (by decide +kernel), List.mem_of_getElem? (i := 878) (by decide +kernel), List.mem_of_getElem? (i := 879) (by decide +kernel)⟩
theorem lw_p71 : lw_okq (⟨"ErrorBudgetsModel", "isLoan", "(I)Z"⟩, 14) := ⟨⟨by decide +kernel, by decide +kernel⟩, List.mem_of_getElem? (i := 692) (by decide +kernel), List.mem_of_getElem? (i := 886) (by decide +kernel), List.mem_of_getElem? (i := 887) (by decide +kernel)⟩
theorem lw_p72 : lw_okq (⟨"ErrorBudgetsModel", "pay", "(I)V"⟩, 14) := ⟨⟨by decide +kernel, by decide +kernel⟩, List.mem_of_getElem? (i := 692) (by decide +kernel), List.mem_of_getElem? (i := 890) (by decide +kernel), List.mem_of_getElem? (i := 891) (by decide +kernel)⟩
theorem lw_p73 : lw_okq (⟨"ErrorBudgetsModel", "clearLoans", "()V"⟩, 14) := ⟨⟨by decide +kernel, by decide +kernel⟩, List.mem_of_getElem? (i := 692) (by decide +kernel), List.mem_of_getElem? (i := 894) (by decide +kernel), List.mem_of_getElem? (i := 895) (by decide +kernel)⟩
theorem lw_p74 : lw_okq (⟨"ErrorBudgetsModel", "noPlan", "(IIII)I"⟩, 14) := ⟨⟨by decide +kernel, by decide +kernel⟩, List.mem_of_getElem? (i := 692) (by decide +kernel), List.mem_of_getElem? (i := 902) (by decide +kernel), List.mem_of_getElem? (i := 903) (by decide +kernel)⟩
theorem lw_p75 : lw_okq (⟨"ErrorBudgetsModel", "doPlan", "(IIII)I"⟩, 14) := ⟨⟨by decide +kernel, by decide +kernel⟩, List.mem_of_getElem? (i := 692) (by decide +kernel), List.mem_of_getElem? (i := 908) (by decide +kernel), List.mem_of_getElem? (i := 909) (by decide +kernel)⟩
theorem lw_p76 : lw_okq (⟨"ErrorBudgetsModel", "isPlan", "(I)Z"⟩, 14) := ⟨⟨by decide +kernel, by decide +kernel⟩, List.mem_of_getElem? (i := 692) (by decide +kernel), List.mem_of_getElem? (i := 919) (by decide +kernel), List.mem_of_getElem? (i := 920) (by decide +kernel)⟩
theorem lw_p77 : lw_okq (⟨"ErrorBudgetsModel", "doDrop", "(I)I"⟩, 14) := ⟨⟨by decide +kernel, by decide +kernel⟩, List.mem_of_getElem? (i := 692) (by decide +kernel), List.mem_of_getElem? (i := 923) (by decide +kernel), List.mem_of_getElem? (i := 924) (by decide +kernel)⟩
theorem lw_p78 : lw_okq (⟨"ErrorBudgetsModel", "clearPlans", "()V"⟩, 14) := ⟨⟨by decide +kernel, by decide +kernel⟩, List.mem_of_getElem? (i := 692) (by decide +kernel), List.mem_of_getElem? (i := 927) (by decide +kernel), List.mem_of_getElem? (i := 928) (by decide +kernel)⟩
theorem lw_p79 : lw_okq (⟨"ErrorBudgetsModel", "pass", "(I)I"⟩, 14) := ⟨⟨by decide +kernel, by decide +kernel⟩, List.mem_of_getElem? (i := 692) (by decide +kernel), List.mem_of_getElem? (i := 936) (by decide +kernel), List.mem_of_getElem? (i := 937) (by decide +kernel)⟩
def lw_privs_5 : List (MethodName × Nat) := [(⟨"ErrorBudgetsModel", "refuse", "(I)I"⟩, 14), (⟨"ErrorBudgetsModel", "doRelease", "(II)I"⟩, 14), (⟨"ErrorBudgetsModel", "spend", "(IJ)V"⟩, 14), (⟨"ErrorBudgetsModel", "noLend", "(IIII)I"⟩, 14), (⟨"ErrorBudgetsModel", "whyNot", "(III)I"⟩, 14), (⟨"ErrorBudgetsModel", "loansOf", "(II)I"⟩, 14), (⟨"ErrorBudgetsModel", "doLend", "(IIII)I"⟩, 14), (⟨"ErrorBudgetsModel", "isLoan", "(I)Z"⟩, 14), (⟨"ErrorBudgetsModel", "pay", "(I)V"⟩, 14), (⟨"ErrorBudgetsModel", "clearLoans", "()V"⟩, 14), (⟨"ErrorBudgetsModel", "noPlan", "(IIII)I"⟩, 14), (⟨"ErrorBudgetsModel", "doPlan", "(IIII)I"⟩, 14), (⟨"ErrorBudgetsModel", "isPlan", "(I)Z"⟩, 14), (⟨"ErrorBudgetsModel", "doDrop", "(I)I"⟩, 14), (⟨"ErrorBudgetsModel", "clearPlans", "()V"⟩, 14), (⟨"ErrorBudgetsModel", "pass", "(I)I"⟩, 14)]
theorem lw_r5 : ∀ q ∈ lw_privs_5, lw_okq q := List.forall_mem_cons.mpr ⟨lw_p64, List.forall_mem_cons.mpr ⟨lw_p65, List.forall_mem_cons.mpr ⟨lw_p66, List.forall_mem_cons.mpr ⟨lw_p67, List.forall_mem_cons.mpr ⟨lw_p68, List.forall_mem_cons.mpr ⟨lw_p69, List.forall_mem_cons.mpr ⟨lw_p70, List.forall_mem_cons.mpr ⟨lw_p71, List.forall_mem_cons.mpr ⟨lw_p72, List.forall_mem_cons.mpr ⟨lw_p73, List.forall_mem_cons.mpr ⟨lw_p74, List.forall_mem_cons.mpr ⟨lw_p75, List.forall_mem_cons.mpr ⟨lw_p76, List.forall_mem_cons.mpr ⟨lw_p77, List.forall_mem_cons.mpr ⟨lw_p78, List.forall_mem_cons.mpr ⟨lw_p79, fun _ h => absurd h List.not_mem_nil⟩⟩⟩⟩⟩⟩⟩⟩⟩⟩⟩⟩⟩⟩⟩⟩
theorem lw_p80 : lw_okq (⟨"ErrorBudgetsModel", "passHour", "()V"⟩, 14) := ⟨⟨by decide +kernel, by decide +kernel⟩, List.mem_of_getElem? (i := 692) (by decide +kernel), List.mem_of_getElem? (i := 940) (by decide +kernel), List.mem_of_getElem? (i := 941) (by decide +kernel)⟩
theorem lw_p81 : lw_okq (⟨"ErrorBudgetsModel", "beginWindow", "()V"⟩, 14) := ⟨⟨by decide +kernel, by decide +kernel⟩, List.mem_of_getElem? (i := 692) (by decide +kernel), List.mem_of_getElem? (i := 944) (by decide +kernel), List.mem_of_getElem? (i := 945) (by decide +kernel)⟩
theorem lw_p82 : lw_okq (⟨"ErrorBudgetsModel", "grant", "(I)V"⟩, 14) := ⟨⟨by decide +kernel, by decide +kernel⟩, List.mem_of_getElem? (i := 692) (by decide +kernel), List.mem_of_getElem? (i := 948) (by decide +kernel), List.mem_of_getElem? (i := 949) (by decide +kernel)⟩
theorem lw_p83 : lw_okq (⟨"ErrorBudgetsModel", "nextLoan", "()I"⟩, 14) := ⟨⟨by decide +kernel, by decide +kernel⟩, List.mem_of_getElem? (i := 692) (by decide +kernel), List.mem_of_getElem? (i := 952) (by decide +kernel), List.mem_of_getElem? (i := 953) (by decide +kernel)⟩
theorem lw_p84 : lw_okq (⟨"ErrorBudgetsModel", "doPlans", "()V"⟩, 14) := ⟨⟨by decide +kernel, by decide +kernel⟩, List.mem_of_getElem? (i := 692) (by decide +kernel), List.mem_of_getElem? (i := 957) (by decide +kernel), List.mem_of_getElem? (i := 958) (by decide +kernel)⟩
theorem lw_p85 : lw_okq (⟨"ErrorBudgetsModel", "nextPlan", "()I"⟩, 14) := ⟨⟨by decide +kernel, by decide +kernel⟩, List.mem_of_getElem? (i := 692) (by decide +kernel), List.mem_of_getElem? (i := 961) (by decide +kernel), List.mem_of_getElem? (i := 962) (by decide +kernel)⟩
theorem lw_p86 : lw_okq (⟨"ErrorBudgetsModel", "isAhead", "(II)Z"⟩, 14) := ⟨⟨by decide +kernel, by decide +kernel⟩, List.mem_of_getElem? (i := 692) (by decide +kernel), List.mem_of_getElem? (i := 965) (by decide +kernel), List.mem_of_getElem? (i := 966) (by decide +kernel)⟩
theorem lw_p87 : lw_okq (⟨"ErrorBudgetsModel", "owedOf", "(II)I"⟩, 14) := ⟨⟨by decide +kernel, by decide +kernel⟩, List.mem_of_getElem? (i := 692) (by decide +kernel), List.mem_of_getElem? (i := 973) (by decide +kernel), List.mem_of_getElem? (i := 974) (by decide +kernel)⟩
theorem lw_p88 : lw_okq (⟨"ErrorBudgetsModel", "plansOf", "(I)I"⟩, 14) := ⟨⟨by decide +kernel, by decide +kernel⟩, List.mem_of_getElem? (i := 692) (by decide +kernel), List.mem_of_getElem? (i := 977) (by decide +kernel), List.mem_of_getElem? (i := 978) (by decide +kernel)⟩
theorem lw_p89 : lw_okq (⟨"ErrorBudgetsModel", "frozenSet", "()I"⟩, 14) := ⟨⟨by decide +kernel, by decide +kernel⟩, List.mem_of_getElem? (i := 692) (by decide +kernel), List.mem_of_getElem? (i := 1000) (by decide +kernel), List.mem_of_getElem? (i := 1001) (by decide +kernel)⟩
theorem lw_p90 : lw_okq (⟨"ErrorBudgetsModel", "hoursTo", "(IZ)I"⟩, 14) := ⟨⟨by decide +kernel, by decide +kernel⟩, List.mem_of_getElem? (i := 692) (by decide +kernel), List.mem_of_getElem? (i := 1013) (by decide +kernel), List.mem_of_getElem? (i := 1014) (by decide +kernel)⟩
theorem lw_p91 : lw_okq (⟨"ErrorBudgetsModel", "faultOf", "()I"⟩, 14) := ⟨⟨by decide +kernel, by decide +kernel⟩, List.mem_of_getElem? (i := 692) (by decide +kernel), List.mem_of_getElem? (i := 1052) (by decide +kernel), List.mem_of_getElem? (i := 1053) (by decide +kernel)⟩
theorem lw_p92 : lw_okq (⟨"ErrorBudgetsModel", "readsOrder", "()I"⟩, 14) := ⟨⟨by decide +kernel, by decide +kernel⟩, List.mem_of_getElem? (i := 692) (by decide +kernel), List.mem_of_getElem? (i := 1056) (by decide +kernel), List.mem_of_getElem? (i := 1057) (by decide +kernel)⟩
theorem lw_p93 : lw_okq (⟨"ErrorBudgetsModel", "code", "()I"⟩, 14) := ⟨⟨by decide +kernel, by decide +kernel⟩, List.mem_of_getElem? (i := 692) (by decide +kernel), List.mem_of_getElem? (i := 1060) (by decide +kernel), List.mem_of_getElem? (i := 1061) (by decide +kernel)⟩
theorem lw_p94 : lw_okq (⟨"ErrorBudgetsModel", "orderOf", "(I)I"⟩, 14) := ⟨⟨by decide +kernel, by decide +kernel⟩, List.mem_of_getElem? (i := 692) (by decide +kernel), List.mem_of_getElem? (i := 1064) (by decide +kernel), List.mem_of_getElem? (i := 1065) (by decide +kernel)⟩
theorem lw_p95 : lw_okq (⟨"ErrorBudgetsModel", "readsPart", "(I)Z"⟩, 14) := ⟨⟨by decide +kernel, by decide +kernel⟩, List.mem_of_getElem? (i := 692) (by decide +kernel), List.mem_of_getElem? (i := 1068) (by decide +kernel), List.mem_of_getElem? (i := 1069) (by decide +kernel)⟩
def lw_privs_6 : List (MethodName × Nat) := [(⟨"ErrorBudgetsModel", "passHour", "()V"⟩, 14), (⟨"ErrorBudgetsModel", "beginWindow", "()V"⟩, 14), (⟨"ErrorBudgetsModel", "grant", "(I)V"⟩, 14), (⟨"ErrorBudgetsModel", "nextLoan", "()I"⟩, 14), (⟨"ErrorBudgetsModel", "doPlans", "()V"⟩, 14), (⟨"ErrorBudgetsModel", "nextPlan", "()I"⟩, 14), (⟨"ErrorBudgetsModel", "isAhead", "(II)Z"⟩, 14), (⟨"ErrorBudgetsModel", "owedOf", "(II)I"⟩, 14), (⟨"ErrorBudgetsModel", "plansOf", "(I)I"⟩, 14), (⟨"ErrorBudgetsModel", "frozenSet", "()I"⟩, 14), (⟨"ErrorBudgetsModel", "hoursTo", "(IZ)I"⟩, 14), (⟨"ErrorBudgetsModel", "faultOf", "()I"⟩, 14), (⟨"ErrorBudgetsModel", "readsOrder", "()I"⟩, 14), (⟨"ErrorBudgetsModel", "code", "()I"⟩, 14), (⟨"ErrorBudgetsModel", "orderOf", "(I)I"⟩, 14), (⟨"ErrorBudgetsModel", "readsPart", "(I)Z"⟩, 14)]
theorem lw_r6 : ∀ q ∈ lw_privs_6, lw_okq q := List.forall_mem_cons.mpr ⟨lw_p80, List.forall_mem_cons.mpr ⟨lw_p81, List.forall_mem_cons.mpr ⟨lw_p82, List.forall_mem_cons.mpr ⟨lw_p83, List.forall_mem_cons.mpr ⟨lw_p84, List.forall_mem_cons.mpr ⟨lw_p85, List.forall_mem_cons.mpr ⟨lw_p86, List.forall_mem_cons.mpr ⟨lw_p87, List.forall_mem_cons.mpr ⟨lw_p88, List.forall_mem_cons.mpr ⟨lw_p89, List.forall_mem_cons.mpr ⟨lw_p90, List.forall_mem_cons.mpr ⟨lw_p91, List.forall_mem_cons.mpr ⟨lw_p92, List.forall_mem_cons.mpr ⟨lw_p93, List.forall_mem_cons.mpr ⟨lw_p94, List.forall_mem_cons.mpr ⟨lw_p95, fun _ h => absurd h List.not_mem_nil⟩⟩⟩⟩⟩⟩⟩⟩⟩⟩⟩⟩⟩⟩⟩⟩
theorem lw_p96 : lw_okq (⟨"ErrorBudgetsModel", "readsDigit", "(I)Z"⟩, 14) := ⟨⟨by decide +kernel, by decide +kernel⟩, List.mem_of_getElem? (i := 692) (by decide +kernel), List.mem_of_getElem? (i := 1072) (by decide +kernel), List.mem_of_getElem? (i := 1073) (by decide +kernel)⟩
theorem lw_p97 : lw_okq (⟨"ErrorBudgetsModel", "readsNumber", "()Z"⟩, 14) := ⟨⟨by decide +kernel, by decide +kernel⟩, List.mem_of_getElem? (i := 692) (by decide +kernel), List.mem_of_getElem? (i := 1076) (by decide +kernel), List.mem_of_getElem? (i := 1077) (by decide +kernel)⟩
theorem lw_p98 : lw_okq (⟨"ErrorBudgetsModel", "isDigit", "()Z"⟩, 14) := ⟨⟨by decide +kernel, by decide +kernel⟩, List.mem_of_getElem? (i := 692) (by decide +kernel), List.mem_of_getElem? (i := 1080) (by decide +kernel), List.mem_of_getElem? (i := 1081) (by decide +kernel)⟩
theorem lw_p99 : lw_okq (⟨"ErrorBudgetsModel", "reads", "(I)Z"⟩, 14) := ⟨⟨by decide +kernel, by decide +kernel⟩, List.mem_of_getElem? (i := 692) (by decide +kernel), List.mem_of_getElem? (i := 1085) (by decide +kernel), List.mem_of_getElem? (i := 1086) (by decide +kernel)⟩
theorem lw_p100 : lw_okq (⟨"ErrorBudgetsModel", "does", "(I)Z"⟩, 14) := ⟨⟨by decide +kernel, by decide +kernel⟩, List.mem_of_getElem? (i := 692) (by decide +kernel), List.mem_of_getElem? (i := 1093) (by decide +kernel), List.mem_of_getElem? (i := 1094) (by decide +kernel)⟩
def lw_privs_7 : List (MethodName × Nat) := [(⟨"ErrorBudgetsModel", "readsDigit", "(I)Z"⟩, 14), (⟨"ErrorBudgetsModel", "readsNumber", "()Z"⟩, 14), (⟨"ErrorBudgetsModel", "isDigit", "()Z"⟩, 14), (⟨"ErrorBudgetsModel", "reads", "(I)Z"⟩, 14), (⟨"ErrorBudgetsModel", "does", "(I)Z"⟩, 14)]
theorem lw_r7 : ∀ q ∈ lw_privs_7, lw_okq q := List.forall_mem_cons.mpr ⟨lw_p96, List.forall_mem_cons.mpr ⟨lw_p97, List.forall_mem_cons.mpr ⟨lw_p98, List.forall_mem_cons.mpr ⟨lw_p99, List.forall_mem_cons.mpr ⟨lw_p100, fun _ h => absurd h List.not_mem_nil⟩⟩⟩⟩⟩
def lw_privs : List (MethodName × Nat) := lw_privs_1 ++ (lw_privs_2 ++ (lw_privs_3 ++ (lw_privs_4 ++ (lw_privs_5 ++ (lw_privs_6 ++ (lw_privs_7))))))
def lw_tbl : List Cond := k2_sels lw_privs ++ tables_1
theorem lw_privs_ok : ∀ q ∈ lw_privs, lw_okq q := by
  show ∀ q ∈ lw_privs_1 ++ (lw_privs_2 ++ (lw_privs_3 ++ (lw_privs_4 ++ (lw_privs_5 ++ (lw_privs_6 ++ (lw_privs_7)))))), lw_okq q
  exact List.forall_mem_append.mpr ⟨lw_r1, List.forall_mem_append.mpr ⟨lw_r2, List.forall_mem_append.mpr ⟨lw_r3, List.forall_mem_append.mpr ⟨lw_r4, List.forall_mem_append.mpr ⟨lw_r5, List.forall_mem_append.mpr ⟨lw_r6, lw_r7⟩⟩⟩⟩⟩⟩
end
section
def RX0 : String := "ErrorBudgets$History"
def TX0 : u_T := fun k => match k with
  | 0 => ("ErrorBudgets$History", "states", "[LErrorBudgets$House;", true)
  | 1 => ("ErrorBudgets$History", "oldest", "I", false)
  | _ => ("ErrorBudgets$History", "kept", "I", false)
def tyX0 : Nat → FieldType := fun k => match k with
  | 0 => .array (.object "ErrorBudgets$House")
  | 1 => .int
  | _ => .int
theorem nmX0 : ∀ a, a < 3 → ∀ b, b < 3 → a ≠ b → (TX0 a).2.1 ≠ (TX0 b).2.1 := by decide +kernel
theorem tyX0_ok : ∀ k, k < 3 → parseFieldDescriptor (TX0 k).2.2.1 = some (tyX0 k) := by decide +kernel
abbrev cX0_init : ByteArray := prog_2_method_1_code
def yX0_init : MethodName := ⟨RX0, "<init>", "()V"⟩
abbrev cX0_prepare : ByteArray := prog_2_method_2_code
def yX0_prepare : MethodName := ⟨RX0, "prepare", "(LErrorBudgets$House;)V"⟩
abbrev cX0_keep : ByteArray := prog_2_method_3_code
def yX0_keep : MethodName := ⟨RX0, "keep", "(I)I"⟩
abbrev cX0_takeLatest : ByteArray := prog_2_method_4_code
def yX0_takeLatest : MethodName := ⟨RX0, "takeLatest", "()LErrorBudgets$House;"⟩
def RX1 : String := "ErrorBudgets$House"
def TX1 : u_T := fun k => match k with
  | 0 => ("ErrorBudgets$House", "settings", "[I", true)
  | 1 => ("ErrorBudgets$House", "hour", "I", false)
  | 2 => ("ErrorBudgets$House", "window", "I", false)
  | 3 => ("ErrorBudgets$House", "windowStart", "I", false)
  | 4 => ("ErrorBudgets$House", "serviceCount", "I", false)
  | 5 => ("ErrorBudgets$House", "frozen", "I", false)
  | 6 => ("ErrorBudgets$House", "budgets", "[I", true)
  | 7 => ("ErrorBudgets$House", "exemptions", "[I", true)
  | 8 => ("ErrorBudgets$House", "releases", "[I", true)
  | 9 => ("ErrorBudgets$House", "droppedPlans", "[I", true)
  | 10 => ("ErrorBudgets$House", "freezes", "[I", true)
  | 11 => ("ErrorBudgets$House", "accounts", "[J", true)
  | 12 => ("ErrorBudgets$House", "loans", "LErrorBudgets$Loans;", true)
  | _ => ("ErrorBudgets$House", "plans", "LErrorBudgets$Plans;", true)
def tyX1 : Nat → FieldType := fun k => match k with
  | 0 => .array .int
  | 1 => .int
  | 2 => .int
  | 3 => .int
  | 4 => .int
  | 5 => .int
  | 6 => .array .int
  | 7 => .array .int
  | 8 => .array .int
  | 9 => .array .int
  | 10 => .array .int
  | 11 => .array .long
  | 12 => .object "ErrorBudgets$Loans"
  | _ => .object "ErrorBudgets$Plans"
theorem nmX1 : ∀ a, a < 14 → ∀ b, b < 14 → a ≠ b → (TX1 a).2.1 ≠ (TX1 b).2.1 := by decide +kernel
theorem tyX1_ok : ∀ k, k < 14 → parseFieldDescriptor (TX1 k).2.2.1 = some (tyX1 k) := by decide +kernel
abbrev cX1_init : ByteArray := prog_3_method_1_code
def yX1_init : MethodName := ⟨RX1, "<init>", "()V"⟩
abbrev cX1_copyFrom : ByteArray := prog_3_method_2_code
def yX1_copyFrom : MethodName := ⟨RX1, "copyFrom", "(LErrorBudgets$House;)V"⟩
abbrev cX1_hasService : ByteArray := prog_3_method_3_code
def yX1_hasService : MethodName := ⟨RX1, "hasService", "(I)Z"⟩
abbrev cX1_isFrozen : ByteArray := prog_3_method_4_code
def yX1_isFrozen : MethodName := ⟨RX1, "isFrozen", "(I)Z"⟩
abbrev cX1_minutesOf : ByteArray := prog_3_method_5_code
def yX1_minutesOf : MethodName := ⟨RX1, "minutesOf", "(II)J"⟩
abbrev cX1_thawLimit : ByteArray := prog_3_method_6_code
def yX1_thawLimit : MethodName := ⟨RX1, "thawLimit", "(I)I"⟩
abbrev cX1_addService : ByteArray := prog_3_method_7_code
def yX1_addService : MethodName := ⟨RX1, "addService", "(I)I"⟩
abbrev cX1_enter : ByteArray := prog_3_method_8_code
def yX1_enter : MethodName := ⟨RX1, "enter", "(IIJ)V"⟩
abbrev cX1_book : ByteArray := prog_3_method_9_code
def yX1_book : MethodName := ⟨RX1, "book", "(IIJ)V"⟩
abbrev cX1_doRelease : ByteArray := prog_3_method_10_code
def yX1_doRelease : MethodName := ⟨RX1, "doRelease", "(II)V"⟩
abbrev cX1_refusalOfLoan : ByteArray := prog_3_method_11_code
def yX1_refusalOfLoan : MethodName := ⟨RX1, "refusalOfLoan", "(III)I"⟩
abbrev cX1_addLoan : ByteArray := prog_3_method_12_code
def yX1_addLoan : MethodName := ⟨RX1, "addLoan", "(IIII)I"⟩
abbrev cX1_payBack : ByteArray := prog_3_method_13_code
def yX1_payBack : MethodName := ⟨RX1, "payBack", "(I)V"⟩
abbrev cX1_letPass : ByteArray := prog_3_method_14_code
def yX1_letPass : MethodName := ⟨RX1, "letPass", "(I)I"⟩
abbrev cX1_beginWindow : ByteArray := prog_3_method_15_code
def yX1_beginWindow : MethodName := ⟨RX1, "beginWindow", "()V"⟩
abbrev cX1_payDueLoans : ByteArray := prog_3_method_16_code
def yX1_payDueLoans : MethodName := ⟨RX1, "payDueLoans", "()V"⟩
abbrev cX1_takePlans : ByteArray := prog_3_method_17_code
def yX1_takePlans : MethodName := ⟨RX1, "takePlans", "()V"⟩
abbrev cX1_fateOf : ByteArray := prog_3_method_18_code
def yX1_fateOf : MethodName := ⟨RX1, "fateOf", "(I)I"⟩
def RX2 : String := "ErrorBudgets$Loans"
def TX2 : u_T := fun k => match k with
  | 0 => ("ErrorBudgets$Loans", "number", "I", false)
  | 1 => ("ErrorBudgets$Loans", "lender", "[I", true)
  | 2 => ("ErrorBudgets$Loans", "borrower", "[I", true)
  | 3 => ("ErrorBudgets$Loans", "minutes", "[I", true)
  | 4 => ("ErrorBudgets$Loans", "owed", "[I", true)
  | _ => ("ErrorBudgets$Loans", "due", "[I", true)
def tyX2 : Nat → FieldType := fun k => match k with
  | 0 => .int
  | 1 => .array .int
  | 2 => .array .int
  | 3 => .array .int
  | 4 => .array .int
  | _ => .array .int
theorem nmX2 : ∀ a, a < 6 → ∀ b, b < 6 → a ≠ b → (TX2 a).2.1 ≠ (TX2 b).2.1 := by decide +kernel
theorem tyX2_ok : ∀ k, k < 6 → parseFieldDescriptor (TX2 k).2.2.1 = some (tyX2 k) := by decide +kernel
abbrev cX2_init : ByteArray := prog_4_method_1_code
def yX2_init : MethodName := ⟨RX2, "<init>", "()V"⟩
abbrev cX2_copyFrom : ByteArray := prog_4_method_2_code
def yX2_copyFrom : MethodName := ⟨RX2, "copyFrom", "(LErrorBudgets$Loans;)V"⟩
abbrev cX2_has : ByteArray := prog_4_method_3_code
def yX2_has : MethodName := ⟨RX2, "has", "(I)Z"⟩
abbrev cX2_add : ByteArray := prog_4_method_4_code
def yX2_add : MethodName := ⟨RX2, "add", "(IIIII)I"⟩
abbrev cX2_countWith : ByteArray := prog_4_method_5_code
def yX2_countWith : MethodName := ⟨RX2, "countWith", "([II)I"⟩
abbrev cX2_owedWith : ByteArray := prog_4_method_6_code
def yX2_owedWith : MethodName := ⟨RX2, "owedWith", "([II)I"⟩
abbrev cX2_removePaid : ByteArray := prog_4_method_7_code
def yX2_removePaid : MethodName := ⟨RX2, "removePaid", "()V"⟩
def RX3 : String := "ErrorBudgets$Pad"
def TX3 : u_T := fun k => match k with
  | 0 => ("ErrorBudgets$Pad", "signs", "[C", true)
  | 1 => ("ErrorBudgets$Pad", "length", "I", false)
  | 2 => ("ErrorBudgets$Pad", "at", "I", false)
  | 3 => ("ErrorBudgets$Pad", "orders", "I", false)
  | 4 => ("ErrorBudgets$Pad", "kinds", "[C", true)
  | _ => ("ErrorBudgets$Pad", "values", "[I", true)
def tyX3 : Nat → FieldType := fun k => match k with
  | 0 => .array .char
  | 1 => .int
  | 2 => .int
  | 3 => .int
  | 4 => .array .char
  | _ => .array .int
theorem nmX3 : ∀ a, a < 6 → ∀ b, b < 6 → a ≠ b → (TX3 a).2.1 ≠ (TX3 b).2.1 := by decide +kernel
theorem tyX3_ok : ∀ k, k < 6 → parseFieldDescriptor (TX3 k).2.2.1 = some (tyX3 k) := by decide +kernel
abbrev cX3_init : ByteArray := prog_5_method_1_code
def yX3_init : MethodName := ⟨RX3, "<init>", "()V"⟩
abbrev cX3_append : ByteArray := prog_5_method_2_code
def yX3_append : MethodName := ⟨RX3, "append", "(I)V"⟩
abbrev cX3_kindOf : ByteArray := prog_5_method_3_code
def yX3_kindOf : MethodName := ⟨RX3, "kindOf", "(I)C"⟩
abbrev cX3_valueOf : ByteArray := prog_5_method_4_code
def yX3_valueOf : MethodName := ⟨RX3, "valueOf", "(II)I"⟩
abbrev cX3_readOrders : ByteArray := prog_5_method_5_code
def yX3_readOrders : MethodName := ⟨RX3, "readOrders", "()I"⟩
abbrev cX3_readOrder : ByteArray := prog_5_method_6_code
def yX3_readOrder : MethodName := ⟨RX3, "readOrder", "()Z"⟩
abbrev cX3_shapeOf : ByteArray := prog_5_method_7_code
def yX3_shapeOf : MethodName := ⟨RX3, "shapeOf", "(C)Ljava/lang/String;"⟩
abbrev cX3_isValue : ByteArray := prog_5_method_8_code
def yX3_isValue : MethodName := ⟨RX3, "isValue", "(C)Z"⟩
abbrev cX3_readPart : ByteArray := prog_5_method_9_code
def yX3_readPart : MethodName := ⟨RX3, "readPart", "(C)I"⟩
abbrev cX3_readSign : ByteArray := prog_5_method_10_code
def yX3_readSign : MethodName := ⟨RX3, "readSign", "(C)Z"⟩
abbrev cX3_readDigit : ByteArray := prog_5_method_11_code
def yX3_readDigit : MethodName := ⟨RX3, "readDigit", "(C)I"⟩
abbrev cX3_readNumber : ByteArray := prog_5_method_12_code
def yX3_readNumber : MethodName := ⟨RX3, "readNumber", "()I"⟩
abbrev cX3_signHere : ByteArray := prog_5_method_13_code
def yX3_signHere : MethodName := ⟨RX3, "signHere", "()C"⟩
def RX4 : String := "ErrorBudgets$Plans"
def TX4 : u_T := fun k => match k with
  | 0 => ("ErrorBudgets$Plans", "number", "I", false)
  | 1 => ("ErrorBudgets$Plans", "service", "[I", true)
  | 2 => ("ErrorBudgets$Plans", "hour", "[I", true)
  | 3 => ("ErrorBudgets$Plans", "size", "[I", true)
  | 4 => ("ErrorBudgets$Plans", "priority", "[I", true)
  | 5 => ("ErrorBudgets$Plans", "fate", "[I", true)
  | 6 => ("ErrorBudgets$Plans", "turns", "[I", true)
  | 7 => ("ErrorBudgets$Plans", "watched", "I", false)
  | _ => ("ErrorBudgets$Plans", "watchedFate", "I", false)
def tyX4 : Nat → FieldType := fun k => match k with
  | 0 => .int
  | 1 => .array .int
  | 2 => .array .int
  | 3 => .array .int
  | 4 => .array .int
  | 5 => .array .int
  | 6 => .array .int
  | 7 => .int
  | _ => .int
theorem nmX4 : ∀ a, a < 9 → ∀ b, b < 9 → a ≠ b → (TX4 a).2.1 ≠ (TX4 b).2.1 := by decide +kernel
theorem tyX4_ok : ∀ k, k < 9 → parseFieldDescriptor (TX4 k).2.2.1 = some (tyX4 k) := by decide +kernel
abbrev cX4_init : ByteArray := prog_6_method_1_code
def yX4_init : MethodName := ⟨RX4, "<init>", "()V"⟩
abbrev cX4_copyFrom : ByteArray := prog_6_method_2_code
def yX4_copyFrom : MethodName := ⟨RX4, "copyFrom", "(LErrorBudgets$Plans;)V"⟩
abbrev cX4_watch : ByteArray := prog_6_method_3_code
def yX4_watch : MethodName := ⟨RX4, "watch", "(I)V"⟩
abbrev cX4_has : ByteArray := prog_6_method_4_code
def yX4_has : MethodName := ⟨RX4, "has", "(I)Z"⟩
abbrev cX4_add : ByteArray := prog_6_method_5_code
def yX4_add : MethodName := ⟨RX4, "add", "(IIII)I"⟩
abbrev cX4_countWith : ByteArray := prog_6_method_6_code
def yX4_countWith : MethodName := ⟨RX4, "countWith", "(I)I"⟩
abbrev cX4_removeEnded : ByteArray := prog_6_method_7_code
def yX4_removeEnded : MethodName := ⟨RX4, "removeEnded", "()V"⟩
abbrev cX4_move : ByteArray := prog_6_method_8_code
def yX4_move : MethodName := ⟨RX4, "move", "(II)V"⟩
abbrev cX4_arrange : ByteArray := prog_6_method_9_code
def yX4_arrange : MethodName := ⟨RX4, "arrange", "()V"⟩
abbrev cX4_isBefore : ByteArray := prog_6_method_10_code
def yX4_isBefore : MethodName := ⟨RX4, "isBefore", "(II)Z"⟩
def RX5 : String := "ErrorBudgets"
def TX5 : u_T := fun k => match k with
  | 0 => ("ErrorBudgets", "now", "LErrorBudgets$House;", true)
  | 1 => ("ErrorBudgets", "trial", "LErrorBudgets$House;", true)
  | 2 => ("ErrorBudgets", "history", "LErrorBudgets$History;", true)
  | 3 => ("ErrorBudgets", "slots", "[LErrorBudgets$House;", true)
  | 4 => ("ErrorBudgets", "saved", "[Z", true)
  | 5 => ("ErrorBudgets", "pad", "LErrorBudgets$Pad;", true)
  | _ => ("ErrorBudgets", "reason", "I", false)
def tyX5 : Nat → FieldType := fun k => match k with
  | 0 => .object "ErrorBudgets$House"
  | 1 => .object "ErrorBudgets$House"
  | 2 => .object "ErrorBudgets$History"
  | 3 => .array (.object "ErrorBudgets$House")
  | 4 => .array .boolean
  | 5 => .object "ErrorBudgets$Pad"
  | _ => .int
theorem nmX5 : ∀ a, a < 7 → ∀ b, b < 7 → a ≠ b → (TX5 a).2.1 ≠ (TX5 b).2.1 := by decide +kernel
theorem tyX5_ok : ∀ k, k < 7 → parseFieldDescriptor (TX5 k).2.2.1 = some (tyX5 k) := by decide +kernel
abbrev cX5_init : ByteArray := prog_1_method_1_code
def yX5_init : MethodName := ⟨RX5, "<init>", "()V"⟩
abbrev cX5_set : ByteArray := prog_1_method_2_code
def yX5_set : MethodName := ⟨RX5, "set", "(II)I"⟩
abbrev cX5_service : ByteArray := prog_1_method_3_code
def yX5_service : MethodName := ⟨RX5, "service", "(I)I"⟩
abbrev cX5_budget : ByteArray := prog_1_method_4_code
def yX5_budget : MethodName := ⟨RX5, "budget", "(II)I"⟩
abbrev cX5_outage : ByteArray := prog_1_method_5_code
def yX5_outage : MethodName := ⟨RX5, "outage", "(III)I"⟩
abbrev cX5_release : ByteArray := prog_1_method_6_code
def yX5_release : MethodName := ⟨RX5, "release", "(III)I"⟩
abbrev cX5_lend : ByteArray := prog_1_method_7_code
def yX5_lend : MethodName := ⟨RX5, "lend", "(IIII)I"⟩
abbrev cX5_repay : ByteArray := prog_1_method_8_code
def yX5_repay : MethodName := ⟨RX5, "repay", "(I)I"⟩
abbrev cX5_plan : ByteArray := prog_1_method_9_code
def yX5_plan : MethodName := ⟨RX5, "plan", "(IIII)I"⟩
abbrev cX5_drop : ByteArray := prog_1_method_10_code
def yX5_drop : MethodName := ⟨RX5, "drop", "(I)I"⟩
abbrev cX5_hours : ByteArray := prog_1_method_11_code
def yX5_hours : MethodName := ⟨RX5, "hours", "(I)I"⟩
abbrev cX5_sufferOutage : ByteArray := prog_1_method_12_code
def yX5_sufferOutage : MethodName := ⟨RX5, "sufferOutage", "(III)I"⟩
abbrev cX5_tryRelease : ByteArray := prog_1_method_13_code
def yX5_tryRelease : MethodName := ⟨RX5, "tryRelease", "(III)I"⟩
abbrev cX5_tryLoan : ByteArray := prog_1_method_14_code
def yX5_tryLoan : MethodName := ⟨RX5, "tryLoan", "(IIII)I"⟩
abbrev cX5_addPlan : ByteArray := prog_1_method_15_code
def yX5_addPlan : MethodName := ⟨RX5, "addPlan", "(IIII)I"⟩
abbrev cX5_removePlan : ByteArray := prog_1_method_16_code
def yX5_removePlan : MethodName := ⟨RX5, "removePlan", "(I)I"⟩
abbrev cX5_obey : ByteArray := prog_1_method_17_code
def yX5_obey : MethodName := ⟨RX5, "obey", "(I)I"⟩
abbrev cX5_refuse : ByteArray := prog_1_method_18_code
def yX5_refuse : MethodName := ⟨RX5, "refuse", "(I)I"⟩
abbrev cX5_isWithin : ByteArray := prog_1_method_19_code
def yX5_isWithin : MethodName := ⟨RX5, "isWithin", "(III)Z"⟩
abbrev cX5_ofService : ByteArray := prog_1_method_20_code
def yX5_ofService : MethodName := ⟨RX5, "ofService", "(II)I"⟩
abbrev cX5_account : ByteArray := prog_1_method_21_code
def yX5_account : MethodName := ⟨RX5, "account", "(II)J"⟩
abbrev cX5_ofLoan : ByteArray := prog_1_method_22_code
def yX5_ofLoan : MethodName := ⟨RX5, "ofLoan", "(II)I"⟩
abbrev cX5_ofPlan : ByteArray := prog_1_method_23_code
def yX5_ofPlan : MethodName := ⟨RX5, "ofPlan", "(II)I"⟩
abbrev cX5_count : ByteArray := prog_1_method_24_code
def yX5_count : MethodName := ⟨RX5, "count", "(I)I"⟩
abbrev cX5_leftIn : ByteArray := prog_1_method_25_code
def yX5_leftIn : MethodName := ⟨RX5, "leftIn", "(II)J"⟩
abbrev cX5_frozenIn : ByteArray := prog_1_method_26_code
def yX5_frozenIn : MethodName := ⟨RX5, "frozenIn", "(I)I"⟩
abbrev cX5_thawsIn : ByteArray := prog_1_method_27_code
def yX5_thawsIn : MethodName := ⟨RX5, "thawsIn", "(I)I"⟩
abbrev cX5_hoursUntil : ByteArray := prog_1_method_28_code
def yX5_hoursUntil : MethodName := ⟨RX5, "hoursUntil", "(IZ)I"⟩
abbrev cX5_doneAt : ByteArray := prog_1_method_29_code
def yX5_doneAt : MethodName := ⟨RX5, "doneAt", "(I)I"⟩
abbrev cX5_bestLender : ByteArray := prog_1_method_30_code
def yX5_bestLender : MethodName := ⟨RX5, "bestLender", "(II)I"⟩
abbrev cX5_leastLoan : ByteArray := prog_1_method_31_code
def yX5_leastLoan : MethodName := ⟨RX5, "leastLoan", "(I)J"⟩
abbrev cX5_safeSize : ByteArray := prog_1_method_32_code
def yX5_safeSize : MethodName := ⟨RX5, "safeSize", "(I)I"⟩
abbrev cX5_put : ByteArray := prog_1_method_33_code
def yX5_put : MethodName := ⟨RX5, "put", "(J)I"⟩
abbrev cX5_charactersIn : ByteArray := prog_1_method_34_code
def yX5_charactersIn : MethodName := ⟨RX5, "charactersIn", "(J)I"⟩
abbrev cX5_codeAt : ByteArray := prog_1_method_35_code
def yX5_codeAt : MethodName := ⟨RX5, "codeAt", "(JI)I"⟩
abbrev cX5_wipe : ByteArray := prog_1_method_36_code
def yX5_wipe : MethodName := ⟨RX5, "wipe", "()I"⟩
abbrev cX5_fault : ByteArray := prog_1_method_37_code
def yX5_fault : MethodName := ⟨RX5, "fault", "()I"⟩
abbrev cX5_carryOut : ByteArray := prog_1_method_38_code
def yX5_carryOut : MethodName := ⟨RX5, "carryOut", "()I"⟩
abbrev cX5_undo : ByteArray := prog_1_method_39_code
def yX5_undo : MethodName := ⟨RX5, "undo", "()I"⟩
abbrev cX5_save : ByteArray := prog_1_method_40_code
def yX5_save : MethodName := ⟨RX5, "save", "(I)I"⟩
abbrev cX5_restore : ByteArray := prog_1_method_41_code
def yX5_restore : MethodName := ⟨RX5, "restore", "(I)I"⟩
def RX6 : String := "ErrorBudgetsModel"
def TX6 : u_T := fun k => match k with
  | 0 => ("ErrorBudgetsModel", "row", "[J", true)
  | 1 => ("ErrorBudgetsModel", "states", "I", false)
  | 2 => ("ErrorBudgetsModel", "isSaved", "[Z", true)
  | 3 => ("ErrorBudgetsModel", "reason", "I", false)
  | 4 => ("ErrorBudgetsModel", "pad", "[I", true)
  | 5 => ("ErrorBudgetsModel", "length", "I", false)
  | 6 => ("ErrorBudgetsModel", "watched", "I", false)
  | 7 => ("ErrorBudgetsModel", "watchedHour", "I", false)
  | 8 => ("ErrorBudgetsModel", "isGone", "[Z", true)
  | 9 => ("ErrorBudgetsModel", "isSeen", "[Z", true)
  | 10 => ("ErrorBudgetsModel", "forms", "[I", true)
  | 11 => ("ErrorBudgetsModel", "at", "I", false)
  | 12 => ("ErrorBudgetsModel", "numbers", "[I", true)
  | _ => ("ErrorBudgetsModel", "numberMany", "I", false)
def tyX6 : Nat → FieldType := fun k => match k with
  | 0 => .array .long
  | 1 => .int
  | 2 => .array .boolean
  | 3 => .int
  | 4 => .array .int
  | 5 => .int
  | 6 => .int
  | 7 => .int
  | 8 => .array .boolean
  | 9 => .array .boolean
  | 10 => .array .int
  | 11 => .int
  | 12 => .array .int
  | _ => .int
theorem nmX6 : ∀ a, a < 14 → ∀ b, b < 14 → a ≠ b → (TX6 a).2.1 ≠ (TX6 b).2.1 := by decide +kernel
theorem tyX6_ok : ∀ k, k < 14 → parseFieldDescriptor (TX6 k).2.2.1 = some (tyX6 k) := by decide +kernel
abbrev cX6_init : ByteArray := prog_8_method_1_code
def yX6_init : MethodName := ⟨RX6, "<init>", "()V"⟩
abbrev cX6_in : ByteArray := prog_8_method_2_code
def yX6_in : MethodName := ⟨RX6, "in", "(JJJ)Z"⟩
abbrev cX6_number : ByteArray := prog_8_method_3_code
def yX6_number : MethodName := ⟨RX6, "number", "(I)I"⟩
abbrev cX6_copy : ByteArray := prog_8_method_4_code
def yX6_copy : MethodName := ⟨RX6, "copy", "(II)V"⟩
abbrev cX6_record : ByteArray := prog_8_method_5_code
def yX6_record : MethodName := ⟨RX6, "record", "()V"⟩
abbrev cX6_undo : ByteArray := prog_8_method_6_code
def yX6_undo : MethodName := ⟨RX6, "undo", "()I"⟩
abbrev cX6_save : ByteArray := prog_8_method_7_code
def yX6_save : MethodName := ⟨RX6, "save", "(I)I"⟩
abbrev cX6_restore : ByteArray := prog_8_method_8_code
def yX6_restore : MethodName := ⟨RX6, "restore", "(I)I"⟩
abbrev cX6_refuse : ByteArray := prog_8_method_9_code
def yX6_refuse : MethodName := ⟨RX6, "refuse", "(I)I"⟩
abbrev cX6_isSetting : ByteArray := prog_8_method_10_code
def yX6_isSetting : MethodName := ⟨RX6, "isSetting", "(II)Z"⟩
abbrev cX6_set : ByteArray := prog_8_method_11_code
def yX6_set : MethodName := ⟨RX6, "set", "(II)I"⟩
abbrev cX6_of : ByteArray := prog_8_method_12_code
def yX6_of : MethodName := ⟨RX6, "of", "(II)I"⟩
abbrev cX6_accountOf : ByteArray := prog_8_method_13_code
def yX6_accountOf : MethodName := ⟨RX6, "accountOf", "(II)I"⟩
abbrev cX6_isService : ByteArray := prog_8_method_14_code
def yX6_isService : MethodName := ⟨RX6, "isService", "(I)Z"⟩
abbrev cX6_left : ByteArray := prog_8_method_15_code
def yX6_left : MethodName := ⟨RX6, "left", "(I)J"⟩
abbrev cX6_isFrozen : ByteArray := prog_8_method_16_code
def yX6_isFrozen : MethodName := ⟨RX6, "isFrozen", "(I)Z"⟩
abbrev cX6_thawing : ByteArray := prog_8_method_17_code
def yX6_thawing : MethodName := ⟨RX6, "thawing", "(I)J"⟩
abbrev cX6_change : ByteArray := prog_8_method_18_code
def yX6_change : MethodName := ⟨RX6, "change", "(IJ)V"⟩
abbrev cX6_service : ByteArray := prog_8_method_19_code
def yX6_service : MethodName := ⟨RX6, "service", "(I)I"⟩
abbrev cX6_budget : ByteArray := prog_8_method_20_code
def yX6_budget : MethodName := ⟨RX6, "budget", "(II)I"⟩
abbrev cX6_doOutage : ByteArray := prog_8_method_21_code
def yX6_doOutage : MethodName := ⟨RX6, "doOutage", "(III)I"⟩
abbrev cX6_noOutage : ByteArray := prog_8_method_22_code
def yX6_noOutage : MethodName := ⟨RX6, "noOutage", "(III)I"⟩
abbrev cX6_outage : ByteArray := prog_8_method_23_code
def yX6_outage : MethodName := ⟨RX6, "outage", "(III)I"⟩
abbrev cX6_spend : ByteArray := prog_8_method_24_code
def yX6_spend : MethodName := ⟨RX6, "spend", "(IJ)V"⟩
abbrev cX6_doRelease : ByteArray := prog_8_method_25_code
def yX6_doRelease : MethodName := ⟨RX6, "doRelease", "(II)I"⟩
abbrev cX6_noRelease : ByteArray := prog_8_method_26_code
def yX6_noRelease : MethodName := ⟨RX6, "noRelease", "(III)I"⟩
abbrev cX6_release : ByteArray := prog_8_method_27_code
def yX6_release : MethodName := ⟨RX6, "release", "(III)I"⟩
abbrev cX6_ofLoanAt : ByteArray := prog_8_method_28_code
def yX6_ofLoanAt : MethodName := ⟨RX6, "ofLoanAt", "(II)I"⟩
abbrev cX6_loansOf : ByteArray := prog_8_method_29_code
def yX6_loansOf : MethodName := ⟨RX6, "loansOf", "(II)I"⟩
abbrev cX6_owedOf : ByteArray := prog_8_method_30_code
def yX6_owedOf : MethodName := ⟨RX6, "owedOf", "(II)I"⟩
abbrev cX6_whyNot : ByteArray := prog_8_method_31_code
def yX6_whyNot : MethodName := ⟨RX6, "whyNot", "(III)I"⟩
abbrev cX6_noLend : ByteArray := prog_8_method_32_code
def yX6_noLend : MethodName := ⟨RX6, "noLend", "(IIII)I"⟩
abbrev cX6_doLend : ByteArray := prog_8_method_33_code
def yX6_doLend : MethodName := ⟨RX6, "doLend", "(IIII)I"⟩
abbrev cX6_lend : ByteArray := prog_8_method_34_code
def yX6_lend : MethodName := ⟨RX6, "lend", "(IIII)I"⟩
abbrev cX6_pay : ByteArray := prog_8_method_35_code
def yX6_pay : MethodName := ⟨RX6, "pay", "(I)V"⟩
abbrev cX6_clearLoans : ByteArray := prog_8_method_36_code
def yX6_clearLoans : MethodName := ⟨RX6, "clearLoans", "()V"⟩
abbrev cX6_isLoan : ByteArray := prog_8_method_37_code
def yX6_isLoan : MethodName := ⟨RX6, "isLoan", "(I)Z"⟩
abbrev cX6_repay : ByteArray := prog_8_method_38_code
def yX6_repay : MethodName := ⟨RX6, "repay", "(I)I"⟩
abbrev cX6_ofPlanAt : ByteArray := prog_8_method_39_code
def yX6_ofPlanAt : MethodName := ⟨RX6, "ofPlanAt", "(II)I"⟩
abbrev cX6_isPlan : ByteArray := prog_8_method_40_code
def yX6_isPlan : MethodName := ⟨RX6, "isPlan", "(I)Z"⟩
abbrev cX6_noPlan : ByteArray := prog_8_method_41_code
def yX6_noPlan : MethodName := ⟨RX6, "noPlan", "(IIII)I"⟩
abbrev cX6_doPlan : ByteArray := prog_8_method_42_code
def yX6_doPlan : MethodName := ⟨RX6, "doPlan", "(IIII)I"⟩
abbrev cX6_plan : ByteArray := prog_8_method_43_code
def yX6_plan : MethodName := ⟨RX6, "plan", "(IIII)I"⟩
abbrev cX6_clearPlans : ByteArray := prog_8_method_44_code
def yX6_clearPlans : MethodName := ⟨RX6, "clearPlans", "()V"⟩
abbrev cX6_doDrop : ByteArray := prog_8_method_45_code
def yX6_doDrop : MethodName := ⟨RX6, "doDrop", "(I)I"⟩
abbrev cX6_drop : ByteArray := prog_8_method_46_code
def yX6_drop : MethodName := ⟨RX6, "drop", "(I)I"⟩
abbrev cX6_isAhead : ByteArray := prog_8_method_47_code
def yX6_isAhead : MethodName := ⟨RX6, "isAhead", "(II)Z"⟩
abbrev cX6_nextPlan : ByteArray := prog_8_method_48_code
def yX6_nextPlan : MethodName := ⟨RX6, "nextPlan", "()I"⟩
abbrev cX6_doPlans : ByteArray := prog_8_method_49_code
def yX6_doPlans : MethodName := ⟨RX6, "doPlans", "()V"⟩
abbrev cX6_grant : ByteArray := prog_8_method_50_code
def yX6_grant : MethodName := ⟨RX6, "grant", "(I)V"⟩
abbrev cX6_nextLoan : ByteArray := prog_8_method_51_code
def yX6_nextLoan : MethodName := ⟨RX6, "nextLoan", "()I"⟩
abbrev cX6_beginWindow : ByteArray := prog_8_method_52_code
def yX6_beginWindow : MethodName := ⟨RX6, "beginWindow", "()V"⟩
abbrev cX6_passHour : ByteArray := prog_8_method_53_code
def yX6_passHour : MethodName := ⟨RX6, "passHour", "()V"⟩
abbrev cX6_pass : ByteArray := prog_8_method_54_code
def yX6_pass : MethodName := ⟨RX6, "pass", "(I)I"⟩
abbrev cX6_hours : ByteArray := prog_8_method_55_code
def yX6_hours : MethodName := ⟨RX6, "hours", "(I)I"⟩
abbrev cX6_plansOf : ByteArray := prog_8_method_56_code
def yX6_plansOf : MethodName := ⟨RX6, "plansOf", "(I)I"⟩
abbrev cX6_ofService : ByteArray := prog_8_method_57_code
def yX6_ofService : MethodName := ⟨RX6, "ofService", "(II)I"⟩
abbrev cX6_account : ByteArray := prog_8_method_58_code
def yX6_account : MethodName := ⟨RX6, "account", "(II)J"⟩
abbrev cX6_ofLoan : ByteArray := prog_8_method_59_code
def yX6_ofLoan : MethodName := ⟨RX6, "ofLoan", "(II)I"⟩
abbrev cX6_ofPlan : ByteArray := prog_8_method_60_code
def yX6_ofPlan : MethodName := ⟨RX6, "ofPlan", "(II)I"⟩
abbrev cX6_frozenSet : ByteArray := prog_8_method_61_code
def yX6_frozenSet : MethodName := ⟨RX6, "frozenSet", "()I"⟩
abbrev cX6_count : ByteArray := prog_8_method_62_code
def yX6_count : MethodName := ⟨RX6, "count", "(I)I"⟩
abbrev cX6_leftIn : ByteArray := prog_8_method_63_code
def yX6_leftIn : MethodName := ⟨RX6, "leftIn", "(II)J"⟩
abbrev cX6_hoursTo : ByteArray := prog_8_method_64_code
def yX6_hoursTo : MethodName := ⟨RX6, "hoursTo", "(IZ)I"⟩
abbrev cX6_frozenIn : ByteArray := prog_8_method_65_code
def yX6_frozenIn : MethodName := ⟨RX6, "frozenIn", "(I)I"⟩
abbrev cX6_thawsIn : ByteArray := prog_8_method_66_code
def yX6_thawsIn : MethodName := ⟨RX6, "thawsIn", "(I)I"⟩
abbrev cX6_doneAt : ByteArray := prog_8_method_67_code
def yX6_doneAt : MethodName := ⟨RX6, "doneAt", "(I)I"⟩
abbrev cX6_bestLender : ByteArray := prog_8_method_68_code
def yX6_bestLender : MethodName := ⟨RX6, "bestLender", "(II)I"⟩
abbrev cX6_leastLoan : ByteArray := prog_8_method_69_code
def yX6_leastLoan : MethodName := ⟨RX6, "leastLoan", "(I)J"⟩
abbrev cX6_safeSize : ByteArray := prog_8_method_70_code
def yX6_safeSize : MethodName := ⟨RX6, "safeSize", "(I)I"⟩
abbrev cX6_put : ByteArray := prog_8_method_71_code
def yX6_put : MethodName := ⟨RX6, "put", "(J)I"⟩
abbrev cX6_wipe : ByteArray := prog_8_method_72_code
def yX6_wipe : MethodName := ⟨RX6, "wipe", "()I"⟩
abbrev cX6_code : ByteArray := prog_8_method_73_code
def yX6_code : MethodName := ⟨RX6, "code", "()I"⟩
abbrev cX6_isDigit : ByteArray := prog_8_method_74_code
def yX6_isDigit : MethodName := ⟨RX6, "isDigit", "()Z"⟩
abbrev cX6_reads : ByteArray := prog_8_method_75_code
def yX6_reads : MethodName := ⟨RX6, "reads", "(I)Z"⟩
abbrev cX6_readsDigit : ByteArray := prog_8_method_76_code
def yX6_readsDigit : MethodName := ⟨RX6, "readsDigit", "(I)Z"⟩
abbrev cX6_readsNumber : ByteArray := prog_8_method_77_code
def yX6_readsNumber : MethodName := ⟨RX6, "readsNumber", "()Z"⟩
abbrev cX6_orderOf : ByteArray := prog_8_method_78_code
def yX6_orderOf : MethodName := ⟨RX6, "orderOf", "(I)I"⟩
abbrev cX6_readsPart : ByteArray := prog_8_method_79_code
def yX6_readsPart : MethodName := ⟨RX6, "readsPart", "(I)Z"⟩
abbrev cX6_readsOrder : ByteArray := prog_8_method_80_code
def yX6_readsOrder : MethodName := ⟨RX6, "readsOrder", "()I"⟩
abbrev cX6_faultOf : ByteArray := prog_8_method_81_code
def yX6_faultOf : MethodName := ⟨RX6, "faultOf", "()I"⟩
abbrev cX6_fault : ByteArray := prog_8_method_82_code
def yX6_fault : MethodName := ⟨RX6, "fault", "()I"⟩
abbrev cX6_does : ByteArray := prog_8_method_83_code
def yX6_does : MethodName := ⟨RX6, "does", "(I)Z"⟩
abbrev cX6_carryOut : ByteArray := prog_8_method_84_code
def yX6_carryOut : MethodName := ⟨RX6, "carryOut", "()I"⟩
def RJx8e188 : String := "java/lang/Cloneable"
def RJ9 : String := "java/lang/Math"
abbrev cJ9_max_7cf53 : ByteArray := prog_10_method_65_code
def yJ9_max_7cf53 : MethodName := ⟨RJ9, "max", "(II)I"⟩
abbrev cJ9_max_f86c9 : ByteArray := prog_10_method_66_code
def yJ9_max_f86c9 : MethodName := ⟨RJ9, "max", "(JJ)J"⟩
abbrev cJ9_min_7cf53 : ByteArray := prog_10_method_69_code
def yJ9_min_7cf53 : MethodName := ⟨RJ9, "min", "(II)I"⟩
abbrev cJ9_min_f86c9 : ByteArray := prog_10_method_70_code
def yJ9_min_f86c9 : MethodName := ⟨RJ9, "min", "(JJ)J"⟩
def RJ0 : String := "java/lang/String"
abbrev cJ0_length_8abf5 : ByteArray := prog_11_method_54_code
def yJ0_length_8abf5 : MethodName := ⟨RJ0, "length", "()I"⟩
abbrev cJ0_isEmpty_aae02 : ByteArray := prog_11_method_55_code
def yJ0_isEmpty_aae02 : MethodName := ⟨RJ0, "isEmpty", "()Z"⟩
abbrev cJ0_charAt_5068e : ByteArray := prog_11_method_56_code
def yJ0_charAt_5068e : MethodName := ⟨RJ0, "charAt", "(I)C"⟩
abbrev cJ0_coder_7d493 : ByteArray := prog_11_method_152_code
def yJ0_coder_7d493 : MethodName := ⟨RJ0, "coder", "()B"⟩
abbrev cJ0_isLatin1_aae02 : ByteArray := prog_11_method_154_code
def yJ0_isLatin1_aae02 : MethodName := ⟨RJ0, "isLatin1", "()Z"⟩
abbrev cJ0_checkIndex_df160 : ByteArray := prog_11_method_155_code
def yJ0_checkIndex_df160 : MethodName := ⟨RJ0, "checkIndex", "(II)V"⟩
def RJ1 : String := "java/lang/StringLatin1"
abbrev cJ1_charAt_3b067 : ByteArray := prog_12_method_2_code
def yJ1_charAt_3b067 : MethodName := ⟨RJ1, "charAt", "([BI)C"⟩
def RJ2 : String := "java/lang/StringUTF16"
abbrev cJ2_getChar_3b067 : ByteArray := prog_13_method_5_code
def yJ2_getChar_3b067 : MethodName := ⟨RJ2, "getChar", "([BI)C"⟩
abbrev cJ2_length_9d52b : ByteArray := prog_13_method_6_code
def yJ2_length_9d52b : MethodName := ⟨RJ2, "length", "([B)I"⟩
abbrev cJ2_charAt_3b067 : ByteArray := prog_13_method_83_code
def yJ2_charAt_3b067 : MethodName := ⟨RJ2, "charAt", "([BI)C"⟩
abbrev cJ2_checkIndex_2214a : ByteArray := prog_13_method_91_code
def yJ2_checkIndex_2214a : MethodName := ⟨RJ2, "checkIndex", "(I[B)V"⟩
def RJ10 : String := "java/lang/System"
def RJ3 : String := "jdk/internal/util/Preconditions"
abbrev cJ3_checkIndex_8e157 : ByteArray := prog_15_method_11_code
def yJ3_checkIndex_8e157 : MethodName := ⟨RJ3, "checkIndex", "(IILjava/util/function/BiFunction;)I"⟩
def RL : String := "ErrorBudgetsLaw"
abbrev cL_law : ByteArray := code
def yL_law : MethodName := ⟨RL, "law", "([I)Z"⟩
abbrev vwCl : List vw_C := [(RX0, TX0, 3), (RX1, TX1, 14), (RX2, TX2, 6), (RX3, TX3, 6), (RX4, TX4, 9), (RX5, TX5, 7), (RX6, TX6, 14)]
end
section

/-! The layer: a method's body over a world of cells, as a predicate of its pc, locals, operands and cells. -/
def zTBL : List Cond := lw_tbl.filter goodWord
def zNst : Cond → Bool
  | .fieldLinkNest .. => true
  | .methodLinkNest .. => true
  | _ => false
def zNST : List Cond := tables_1.filter zNst
theorem zT_in {w : Cond} (i : Nat) (h : lw_tbl[i]? = some w) (hg : goodWord w = true) : w ∈ zTBL := List.mem_filter.mpr ⟨List.mem_of_getElem? h, hg⟩
theorem zN_in {w : Cond} (i : Nat) (h : tables_1[i]? = some w) (hg : zNst w = true) : w ∈ zNST := List.mem_filter.mpr ⟨List.mem_of_getElem? h, hg⟩
theorem zNst_tab {w : Cond} (h : zNst w = true) : w.onTables = true := by
  cases w <;> first | rfl | (simp [zNst] at h; done)
theorem zN_tab {w : Cond} (h : w ∈ zNST) : w.onTables = true := zNst_tab (List.mem_filter.mp h).2
theorem zN_warm {s U : State} (hW : s.WarmedH U.vm) (h : ∀ w ∈ zNST, va_Nw w s) : ∀ w ∈ zNST, va_Nw w U := by
  intro w hw
  have h1 := h w hw
  have h2 := (List.mem_filter.mp hw).2
  cases w <;> first | exact va_Nw.warmF hW h1 | exact va_Nw.warmM hW h1 | (simp [zNst] at h2; done)
/-- the launch's class numbers, its array classes, the addresses of the three static arrays, of the String constants and their bytes -/
abbrev zG : Type := va_G × (Nat → ClassId) × (Nat → Nat) × (Nat → Nat) × (Nat → Nat)
def zty (c : Nat → ClassId) : List (ClassId × FieldType) := [(c 0, .int), (c 1, .long), (c 2, .boolean), (c 3, .char), (c 4, .object "ErrorBudgets$House")]
def zFI : Nat → Int32 := fun j => ([168, 25, 10, 10, 20, 48, 3, 1] : List Int32).getD j 0
def zLO : Nat → Int32 := fun j => ([12, 0, 0, 0, 0, 0, 0, 0] : List Int32).getD j 0
def zHI : Nat → Int32 := fun j => ([720, 100, 100, 100, 100, 300, 10, 9] : List Int32).getD j 0
def zSlen : List Nat := [5, 4, 7, 7, 1, 0]
def zSbyt : List (List Int32) := [[115, 42, 110, 37, 110], [115, 42, 110, 33], [115, 62, 115, 42, 110, 47, 100], [115, 64, 110, 42, 110, 94, 100], [110], []]
def zSidx (i : Nat) : Nat := 67 + 2 * i
def zStx (i : Nat) : String := (["s*n%n", "s*n!", "s>s*n/d", "s@n*n^d", "n", ""] : List String).getD i ""
def zFc (t : Nat) (cA : ClassId) (A : Nat → Prop) (H : Heap) : Prop := ∃ cell : Cell, H[t]? = some cell ∧ cell.cls = cA ∧ cell.vm = .none ∧ cell.slots = (vp_cell cA (8, .inl zFI)).slots ∧ ¬ A t
def zRF : String := "jdk/internal/util/Preconditions"
def zZ (g : zG) (A : Nat → Prop) (U : State) (H : Heap) : Prop :=
  va_Z "ErrorBudgets" "FIRST" "[I" (.ref (g.2.2.1 0)) A U H ∧ zFc (g.2.2.1 0) (g.2.1 0) A H ∧
  va_Z "ErrorBudgets" "LOWEST" "[I" (.ref (g.2.2.1 1)) A U H ∧ va_T .int (g.2.2.1 1) 8 (fun j => .int (zLO j)) A U H ∧
  va_Z "ErrorBudgets" "HIGHEST" "[I" (.ref (g.2.2.1 2)) A U H ∧ va_T .int (g.2.2.1 2) 8 (fun j => .int (zHI j)) A U H ∧
  vk_S 6 zSlen zSbyt g.2.2.2.1 g.2.2.2.2 A U H ∧ (∀ i : Nat, i < 6 → vk_R RX3 (zSidx i) (zStx i) (g.2.2.2.1 i) U) ∧
  va_Z "java/lang/String" "COMPACT_STRINGS" "Z" (.int 1) A U H ∧ va_Zq zRF "SIOOBE_FORMATTER" "Ljava/util/function/BiFunction;" A U H ∧
  va_AO "ErrorBudgets$House" U ∧ va_Nw (.castable "[I" "java/lang/Cloneable") U
theorem zFc.kept {t : Nat} {cA : ClassId} {A : Nat → Prop} {H H1 : Heap} (h : zFc t cA A H) (hq : ∀ a : Nat, a < H.size → ¬ A a → H1[a]? = H[a]?) : zFc t cA A H1 := by
  obtain ⟨cell, h1, h2, h3, h4, h5⟩ := h
  exact ⟨cell, by rw [hq t (Array.getElem?_eq_some_iff.mp h1).1 h5]; exact h1, h2, h3, h4, h5⟩
theorem zFc.narrow {t : Nat} {cA : ClassId} {A B : Nat → Prop} {H : Heap} (h : zFc t cA A H) (hAB : ∀ q, B q → A q) : zFc t cA B H := by
  obtain ⟨cell, h1, h2, h3, h4, h5⟩ := h
  exact ⟨cell, h1, h2, h3, h4, fun z => h5 (hAB _ z)⟩
theorem zZ.call {g : zG} {A B : Nat → Prop} {s U : State} {H : Heap} {locs : List Loc} (h : zZ g A s s.heap) (hW : s.WarmedH U.vm) (hS : va_S A s.heap H locs) (hAB : ∀ q, B q → A q) : zZ g B U H := by
  obtain ⟨h1, h2, h3, h4, h5, h6, h7, h8, h9, h10, h11, h12⟩ := h
  have hq := hS.2.1
  exact ⟨((h1.moved hW.alike).kept hq).narrow hAB, (h2.kept hq).narrow hAB, ((h3.moved hW.alike).kept hq).narrow hAB, ((h4.moved hW.alike).kept hq).narrow hAB, ((h5.moved hW.alike).kept hq).narrow hAB, ((h6.moved hW.alike).kept hq).narrow hAB,
    ((h7.moved hW.alike).kept hq).narrow hAB, fun i hi => (h8 i hi).warm hW, ((h9.moved hW.alike).kept hq).narrow hAB, ((h10.moved hW.alike).kept hq).narrow hAB, h11.moved hW.alike, va_Nw.warmC hW h12⟩
theorem zZ.same {g : zG} {A : Nat → Prop} {s U : State} {H : Heap} (h : zZ g A s H) (hv : s.vm = U.vm) : zZ g A U H := by
  obtain ⟨h1, h2, h3, h4, h5, h6, h7, h8, h9, h10, h11, h12⟩ := h
  have ha : s.vm.Alike U.vm := by rw [hv]; exact Vm.Alike.refl _
  exact ⟨h1.moved ha, h2, h3.moved ha, h4.moved ha, h5.moved ha, h6.moved ha, h7.moved ha, fun i hi => (h8 i hi).same hv.symm, h9.moved ha, h10.moved ha, h11.moved ha, va_Nw.same rfl hv h12⟩
/-- the walk's fixed things: machine, method, the cells that may change, the locals' number, the cells and slots that may be made -/
abbrev zX : Type := (Program × Launch × Env × Room × State) × (MethodId × Array Value × List Frame × Method × Code) × (Nat → Prop) × Nat × Nat × Nat
abbrev zp (x : zX) : Program := x.1.1
abbrev zl (x : zX) : Launch := x.1.2.1
abbrev ze (x : zX) : Env := x.1.2.2.1
abbrev zRm (x : zX) : Room := x.1.2.2.2.1
abbrev zs (x : zX) : State := x.1.2.2.2.2
abbrev zm (x : zX) : MethodId := x.2.1.1
abbrev za (x : zX) : Array Value := x.2.1.2.1
abbrev zb (x : zX) : List Frame := x.2.1.2.2.1
abbrev zk (x : zX) : Method := x.2.1.2.2.2.1
abbrev zc (x : zX) : Code := x.2.1.2.2.2.2
abbrev zA (x : zX) : Nat → Prop := x.2.2.1
abbrev zn (x : zX) : Nat := x.2.2.2.1
abbrev zmc (x : zX) : Nat := x.2.2.2.2.1
abbrev zms (x : zX) : Nat := x.2.2.2.2.2
def zrm (f mc ms : Nat) : Room := { frames := f, cells := mc, slots := ms, locals := 36 * f }
def zPst (g : zG) (A : Nat → Prop) (post : Option Value → va_W → Prop) : Array Value → State → Outcome → State → Prop := fun _ st oc t =>
  (∃ (r : Option Value) (w : va_W), oc = .returned r ∧ post r w ∧ va_P g.1 vwCl w t.heap ∧ va_K g.1 vwCl (zty g.2.1) t ∧ va_D A w) ∧ va_F A st t
def zPre (g : zG) (ws : va_W) (sz : Nat) : State → Prop := fun U =>
  U.heap.size = sz ∧ va_P g.1 vwCl ws U.heap ∧ va_K g.1 vwCl (zty g.2.1) U ∧ va_D (fun _ => True) ws ∧ (∀ w ∈ zNST, va_Nw w U) ∧ zZ g (va_A ws sz) U U.heap
/-- a contract: from the cells ws the method y of these arguments comes back, and 'post' says of its answer and of the cells -/
def zM (l : Launch) (g : zG) (y : MethodName) (cc : ByteArray) (nL : Nat) (ret : Option FieldType) (f mc ms : Nat) (args : List Value) (ws : va_W) (post : Option Value → va_W → Prop) : Prop :=
  ∀ sz : Nat, Met l y (.code y cc nL ret :: zTBL) (zrm f mc ms) (va_Pc args (zPre g ws sz)) (zPst g (va_A ws sz) post) mc ms (va_A ws sz)
abbrev zE (r : Option Value) (w : va_W) : Option Value → va_W → Prop := fun r1 w1 => r1 = r ∧ w1 = w
def zC (x : zX) (g : zG) (own : String) (cc : ByteArray) (ret : Option FieldType) (f : Nat) : Prop :=
  ((zp x).tables.exec = Jvm.exec ∧ (zc x).code = cc ∧ (zc x).maxLocals = zn x ∧ (zs x).vm.findClass own = some (zm x).cls) ∧ (∀ w ∈ zTBL, w.before (za x) (zs x) = true) ∧
  va_K g.1 vwCl (zty g.2.1) (zs x) ∧ (∀ w ∈ zNST, va_Nw w (zs x)) ∧ zRm x = zrm f (zmc x) (zms x) ∧ (zk x).locks = false ∧ (zk x).sig.returnType = ret ∧ (∀ q, (zs x).heap.size ≤ q → zA x q) ∧ zZ g (zA x) (zs x) (zs x).heap
def zR (x : zX) (g : zG) (post : Option Value → va_W → Prop) (n : Nat × Nat) (pc : Nat) (lv : List (Nat × Value)) (st : List Value) (ws : va_W) : Prop :=
  ∀ (H : Heap) (locs : List Loc) (ls : Array Slot), va_P g.1 vwCl ws H → va_D (zA x) ws → va_S (zA x) (zs x).heap H locs → lv_has ls (zn x) lv →
    W (zp x) (zl x) (ze x) (zRm x) (zs x) (zm x) (za x) (zb x) (zk x) (zc x) H locs n.1 n.2 (MQ (zb x) (zPst g (zA x) post) (za x) (zs x) (zmc x) (zms x) (zA x)) (F0 (zm x) pc ls st)
def zD (cc : ByteArray) (pc : Nat) (i : Instr) (len pc2 : Nat) : Prop := decode cc pc = .ok (i, len) ∧ pc2 = pc + len
def zJ (cc : ByteArray) (pc : Nat) (i : Instr) (off : Int) (tgt len pc2 : Nat) : Prop := decode cc pc = .ok (i, len) ∧ pc2 = pc + len ∧ (pc : Int) + off = (tgt : Int)
/-- a contract, from the walk of its body -/
theorem zM_of {l : Launch} {g : zG} {y : MethodName} {cc : ByteArray} {nL : Nat} {ret : Option FieldType} {f mc ms : Nat} {args : List Value} {ws : va_W} {post : Option Value → va_W → Prop} (hy : plainName y.cls = true) (hlen : (lg_sl args).length ≤ nL)
    (k : ∀ x : zX, zl x = l → zn x = nL → zmc x = mc → zms x = ms → ((zk x).name = y.name) → zC x g y.cls cc ret f → zR x g post (0, 0) 0 (lv_args 0 args) [] ws) : zM l g y cc nL ret f mc ms args ws post := by
  intro sz
  refine Met.ofW (cc := cc) (maxL := nL) (ret := ret) hy rfl ?_
  intro p e s m av below meth c s₁ B hml hv
  obtain ⟨rfl, hsz, hP, hK, hD0, hN, hZ⟩ := hv
  subst hsz
  have hts : ∀ w ∈ zTBL, w.before args.toArray s = true := fun w hw => atoms_spec (ws := .code y cc nL ret :: zTBL) B.pre w (List.mem_cons_of_mem _ hw)
  have hin : meth.name = y.name := (name_of_methodNamed B.named B.method).1
  have hl := lv_entry args (n := nL) hlen
  rw [lg_entry_eq]
  exact k ((p, l, e, zrm f mc ms, s), (m, args.toArray, below, meth, c), va_A ws s.heap.size, nL, mc, ms) rfl rfl rfl rfl hin
    ⟨⟨B.exec, B.bytes, hml, findClass_of_methodNamed B.named⟩, hts, hK, hN, rfl, B.notSynchronized, B.returns, fun q h => Or.inr h, hZ⟩ s.heap [] _ hP hD0.self va_S.rf hl
section ZR
variable {x : zX} {g : zG} {own : String} {cc : ByteArray} {ret : Option FieldType} {f : Nat} {post : Option Value → va_W → Prop} {n : Nat × Nat} {pc pc' : Nat} {lv : List (Nat × Value)} {st : List Value} {ws : va_W}
theorem zR_case {v : Int32} (c : Int32) (kt : v = c → zR x g post n pc lv (.int v :: st) ws) (kf : ¬ v = c → zR x g post n pc lv (.int v :: st) ws) : zR x g post n pc lv (.int v :: st) ws := if h : v = c then kt h else kf h
theorem zR_by {p : Prop} (kt : p → zR x g post n pc lv st ws) (kf : ¬ p → zR x g post n pc lv st ws) : zR x g post n pc lv st ws := (Classical.em p).elim kt kf
theorem zR_lv (lv' : List (Nat × Value)) (ks : List Nat) (h : lv_pick lv ks = lv') (k : zR x g post n pc lv' st ws) : zR x g post n pc lv st ws := fun H locs ls hP hD hS hl => k H locs ls hP hD hS (lv_sub hl ks h)
theorem zR_eq {lv' : List (Nat × Value)} {st' : List Value} {ws' : va_W} (h1 : lv = lv') (h2 : st = st') (h3 : ws = ws') (k : zR x g post n pc lv' st' ws') : zR x g post n pc lv st ws := by subst h1 h2 h3; exact k
theorem zR_topi {a : Int32} {b : Int32} (h : a = b) (k : zR x g post n pc lv (.int b :: st) ws) : zR x g post n pc lv (.int a :: st) ws := by subst h; exact k
theorem zR_topl {a : Int64} {b : Int64} (h : a = b) (k : zR x g post n pc lv (.long b :: st) ws) : zR x g post n pc lv (.long a :: st) ws := by subst h; exact k
theorem zR_ws (ws' : va_W) (h : ws = ws') (k : zR x g post n pc lv st ws') : zR x g post n pc lv st ws := by subst h; exact k

theorem zR_iconst (C : zC x g own cc ret f) {i : Int} {v : Int32} (d : zD cc pc (.iconst i) 1 pc') (hv : Int32.ofInt i = v) (k : zR x g post n pc' lv (.int v :: st) ws) : zR x g post n pc lv st ws := by
  obtain ⟨d, rfl⟩ := d
  exact fun H locs ls hP hD hS hl => lv_iconst C.1.1 C.1.2.1 d hv (k H locs ls hP hD hS hl)
theorem zR_bipush (C : zC x g own cc ret f) {i : Int} {v : Int32} (d : zD cc pc (.bipush i) 2 pc') (hv : (Int8.ofInt i).toInt32 = v) (k : zR x g post n pc' lv (.int v :: st) ws) : zR x g post n pc lv st ws := by
  obtain ⟨d, rfl⟩ := d
  exact fun H locs ls hP hD hS hl => lv_bipush C.1.1 C.1.2.1 d hv (k H locs ls hP hD hS hl)
theorem zR_sipush (C : zC x g own cc ret f) {i : Int} {v : Int32} (d : zD cc pc (.sipush i) 3 pc') (hv : (Int16.ofInt i).toInt32 = v) (k : zR x g post n pc' lv (.int v :: st) ws) : zR x g post n pc lv st ws := by
  obtain ⟨d, rfl⟩ := d
  exact fun H locs ls hP hD hS hl => lv_sipush C.1.1 C.1.2.1 d hv (k H locs ls hP hD hS hl)
theorem zR_lconst (C : zC x g own cc ret f) {i : Fin 2} {v : Int64} (d : zD cc pc (.lconst i) 1 pc') (hv : Int64.ofNat (i : Nat) = v) (k : zR x g post n pc' lv (.long v :: st) ws) : zR x g post n pc lv st ws := by
  obtain ⟨d, rfl⟩ := d
  exact fun H locs ls hP hD hS hl => lv_lconst C.1.1 C.1.2.1 d hv (k H locs ls hP hD hS hl)
theorem zR_iload_n (C : zC x g own cc ret f) {q : Fin 4} {j : Nat} {v : Int32} (d : zD cc pc (.iload_n q) 1 pc') (p : Nat) (hj : lv[p]? = some (j, .int v)) (hq : (q : Nat) = j) (k : zR x g post n pc' lv (.int v :: st) ws) : zR x g post n pc lv st ws := by
  obtain ⟨d, rfl⟩ := d
  exact fun H locs ls hP hD hS hl => lv_iload_n C.1.1 C.1.2.1 d hq (lv_at hl p hj) (k H locs ls hP hD hS hl)
theorem zR_iload (C : zC x g own cc ret f) {j : Nat} {v : Int32} (d : zD cc pc (.iload j) 2 pc') (p : Nat) (hj : lv[p]? = some (j, .int v)) (k : zR x g post n pc' lv (.int v :: st) ws) : zR x g post n pc lv st ws := by
  obtain ⟨d, rfl⟩ := d
  exact fun H locs ls hP hD hS hl => lv_iload C.1.1 C.1.2.1 d (lv_at hl p hj) (k H locs ls hP hD hS hl)
theorem zR_lload_n (C : zC x g own cc ret f) {q : Fin 4} {j : Nat} {v : Int64} (d : zD cc pc (.lload_n q) 1 pc') (p : Nat) (hj : lv[p]? = some (j, .long v)) (hq : (q : Nat) = j) (k : zR x g post n pc' lv (.long v :: st) ws) : zR x g post n pc lv st ws := by
  obtain ⟨d, rfl⟩ := d
  exact fun H locs ls hP hD hS hl => lv_lload_n C.1.1 C.1.2.1 d hq (lv_at hl p hj) (k H locs ls hP hD hS hl)
theorem zR_lload (C : zC x g own cc ret f) {j : Nat} {v : Int64} (d : zD cc pc (.lload j) 2 pc') (p : Nat) (hj : lv[p]? = some (j, .long v)) (k : zR x g post n pc' lv (.long v :: st) ws) : zR x g post n pc lv st ws := by
  obtain ⟨d, rfl⟩ := d
  exact fun H locs ls hP hD hS hl => lv_lload C.1.1 C.1.2.1 d (lv_at hl p hj) (k H locs ls hP hD hS hl)
theorem zR_aload_n (C : zC x g own cc ret f) {q : Fin 4} {j v : Nat} (d : zD cc pc (.aload_n q) 1 pc') (p : Nat) (hj : lv[p]? = some (j, .ref v)) (hq : (q : Nat) = j) (k : zR x g post n pc' lv (.ref v :: st) ws) : zR x g post n pc lv st ws := by
  obtain ⟨d, rfl⟩ := d
  exact fun H locs ls hP hD hS hl => lv_aload_n C.1.1 C.1.2.1 d hq (lv_at hl p hj) (k H locs ls hP hD hS hl)
theorem zR_aload (C : zC x g own cc ret f) {j v : Nat} (d : zD cc pc (.aload j) 2 pc') (p : Nat) (hj : lv[p]? = some (j, .ref v)) (k : zR x g post n pc' lv (.ref v :: st) ws) : zR x g post n pc lv st ws := by
  obtain ⟨d, rfl⟩ := d
  exact fun H locs ls hP hD hS hl => lv_aload C.1.1 C.1.2.1 d (lv_at hl p hj) (k H locs ls hP hD hS hl)
theorem zR_istore_n (C : zC x g own cc ret f) {q : Fin 4} {i : Nat} {v : Int32} {lv' : List (Nat × Value)} (d : zD cc pc (.istore_n q) 1 pc') (hq : (q : Nat) = i) (hi : i < zn x) (hlv : (i, Value.int v) :: lv.filter (fun q => !(q.1 == i) && !(q.1 + 1 == i && q.2.category == 2)) = lv') (k : zR x g post n pc' lv' st ws) : zR x g post n pc lv (.int v :: st) ws := by
  obtain ⟨d, rfl⟩ := d
  exact fun H locs ls hP hD hS hl => lv_istore_n C.1.1 C.1.2.1 d hq hl hi hlv (fun ls' hl' => k H locs ls' hP hD hS hl')
theorem zR_istore (C : zC x g own cc ret f) {i : Nat} {v : Int32} {lv' : List (Nat × Value)} (d : zD cc pc (.istore i) 2 pc') (hi : i < zn x) (hlv : (i, Value.int v) :: lv.filter (fun q => !(q.1 == i) && !(q.1 + 1 == i && q.2.category == 2)) = lv') (k : zR x g post n pc' lv' st ws) : zR x g post n pc lv (.int v :: st) ws := by
  obtain ⟨d, rfl⟩ := d
  exact fun H locs ls hP hD hS hl => lv_istore C.1.1 C.1.2.1 d hl hi hlv (fun ls' hl' => k H locs ls' hP hD hS hl')
theorem zR_lstore_n (C : zC x g own cc ret f) {q : Fin 4} {i : Nat} {v : Int64} {lv' : List (Nat × Value)} (d : zD cc pc (.lstore_n q) 1 pc') (hq : (q : Nat) = i) (hi : i + 1 < zn x) (hlv : (i, Value.long v) :: lv.filter (fun q => !(q.1 == i) && (!(q.1 == i + 1) && !(q.1 + 1 == i && q.2.category == 2))) = lv') (k : zR x g post n pc' lv' st ws) : zR x g post n pc lv (.long v :: st) ws := by
  obtain ⟨d, rfl⟩ := d
  exact fun H locs ls hP hD hS hl => lv_lstore_n C.1.1 C.1.2.1 d hq hl hi hlv (fun ls' hl' => k H locs ls' hP hD hS hl')
theorem zR_lstore (C : zC x g own cc ret f) {i : Nat} {v : Int64} {lv' : List (Nat × Value)} (d : zD cc pc (.lstore i) 2 pc') (hi : i + 1 < zn x) (hlv : (i, Value.long v) :: lv.filter (fun q => !(q.1 == i) && (!(q.1 == i + 1) && !(q.1 + 1 == i && q.2.category == 2))) = lv') (k : zR x g post n pc' lv' st ws) : zR x g post n pc lv (.long v :: st) ws := by
  obtain ⟨d, rfl⟩ := d
  exact fun H locs ls hP hD hS hl => lv_lstore C.1.1 C.1.2.1 d hl hi hlv (fun ls' hl' => k H locs ls' hP hD hS hl')
theorem zR_astore_n (C : zC x g own cc ret f) {q : Fin 4} {i : Nat} {v : Nat} {lv' : List (Nat × Value)} (d : zD cc pc (.astore_n q) 1 pc') (hq : (q : Nat) = i) (hi : i < zn x) (hlv : (i, Value.ref v) :: lv.filter (fun q => !(q.1 == i) && !(q.1 + 1 == i && q.2.category == 2)) = lv') (k : zR x g post n pc' lv' st ws) : zR x g post n pc lv (.ref v :: st) ws := by
  obtain ⟨d, rfl⟩ := d
  exact fun H locs ls hP hD hS hl => lv_astore_n C.1.1 C.1.2.1 d hq hl hi hlv (fun ls' hl' => k H locs ls' hP hD hS hl')
theorem zR_astore (C : zC x g own cc ret f) {i : Nat} {v : Nat} {lv' : List (Nat × Value)} (d : zD cc pc (.astore i) 2 pc') (hi : i < zn x) (hlv : (i, Value.ref v) :: lv.filter (fun q => !(q.1 == i) && !(q.1 + 1 == i && q.2.category == 2)) = lv') (k : zR x g post n pc' lv' st ws) : zR x g post n pc lv (.ref v :: st) ws := by
  obtain ⟨d, rfl⟩ := d
  exact fun H locs ls hP hD hS hl => lv_astore C.1.1 C.1.2.1 d hl hi hlv (fun ls' hl' => k H locs ls' hP hD hS hl')
theorem zR_iinc (C : zC x g own cc ret f) {i : Nat} {a : Int} {v v' : Int32} {lv' : List (Nat × Value)} (d : zD cc pc (.iinc i a) 3 pc') (p : Nat) (hj : lv[p]? = some (i, .int v)) (hv : v + Int32.ofInt a = v') (hi : i < zn x) (hlv : (i, Value.int v') :: lv.filter (fun q => !(q.1 == i) && !(q.1 + 1 == i && q.2.category == 2)) = lv') (k : zR x g post n pc' lv' st ws) : zR x g post n pc lv st ws := by
  obtain ⟨d, rfl⟩ := d
  exact fun H locs ls hP hD hS hl => lv_iinc C.1.1 C.1.2.1 d hl hj hv hi hlv (fun ls' hl' => k H locs ls' hP hD hS hl')
theorem zR_iadd (C : zC x g own cc ret f) {a b : Int32} (d : zD cc pc (.iadd) 1 pc') (k : zR x g post n pc' lv (.int (a + b) :: st) ws) : zR x g post n pc lv (.int b :: .int a :: st) ws := by
  obtain ⟨d, rfl⟩ := d
  exact fun H locs ls hP hD hS hl => lv_iadd C.1.1 C.1.2.1 d (k H locs ls hP hD hS hl)
theorem zR_isub (C : zC x g own cc ret f) {a b : Int32} (d : zD cc pc (.isub) 1 pc') (k : zR x g post n pc' lv (.int (a - b) :: st) ws) : zR x g post n pc lv (.int b :: .int a :: st) ws := by
  obtain ⟨d, rfl⟩ := d
  exact fun H locs ls hP hD hS hl => lv_isub C.1.1 C.1.2.1 d (k H locs ls hP hD hS hl)
theorem zR_imul (C : zC x g own cc ret f) {a b : Int32} (d : zD cc pc (.imul) 1 pc') (k : zR x g post n pc' lv (.int (a * b) :: st) ws) : zR x g post n pc lv (.int b :: .int a :: st) ws := by
  obtain ⟨d, rfl⟩ := d
  exact fun H locs ls hP hD hS hl => lv_imul C.1.1 C.1.2.1 d (k H locs ls hP hD hS hl)
theorem zR_iand (C : zC x g own cc ret f) {a b : Int32} (d : zD cc pc (.iand) 1 pc') (k : zR x g post n pc' lv (.int (a &&& b) :: st) ws) : zR x g post n pc lv (.int b :: .int a :: st) ws := by
  obtain ⟨d, rfl⟩ := d
  exact fun H locs ls hP hD hS hl => lv_iand C.1.1 C.1.2.1 d (k H locs ls hP hD hS hl)
theorem zR_ior (C : zC x g own cc ret f) {a b : Int32} (d : zD cc pc (.ior) 1 pc') (k : zR x g post n pc' lv (.int (a ||| b) :: st) ws) : zR x g post n pc lv (.int b :: .int a :: st) ws := by
  obtain ⟨d, rfl⟩ := d
  exact fun H locs ls hP hD hS hl => lv_ior C.1.1 C.1.2.1 d (k H locs ls hP hD hS hl)
theorem zR_ixor (C : zC x g own cc ret f) {a b : Int32} (d : zD cc pc (.ixor) 1 pc') (k : zR x g post n pc' lv (.int (a ^^^ b) :: st) ws) : zR x g post n pc lv (.int b :: .int a :: st) ws := by
  obtain ⟨d, rfl⟩ := d
  exact fun H locs ls hP hD hS hl => lv_ixor C.1.1 C.1.2.1 d (k H locs ls hP hD hS hl)
theorem zR_ladd (C : zC x g own cc ret f) {a b : Int64} (d : zD cc pc (.ladd) 1 pc') (k : zR x g post n pc' lv (.long (a + b) :: st) ws) : zR x g post n pc lv (.long b :: .long a :: st) ws := by
  obtain ⟨d, rfl⟩ := d
  exact fun H locs ls hP hD hS hl => lv_ladd C.1.1 C.1.2.1 d (k H locs ls hP hD hS hl)
theorem zR_lsub (C : zC x g own cc ret f) {a b : Int64} (d : zD cc pc (.lsub) 1 pc') (k : zR x g post n pc' lv (.long (a - b) :: st) ws) : zR x g post n pc lv (.long b :: .long a :: st) ws := by
  obtain ⟨d, rfl⟩ := d
  exact fun H locs ls hP hD hS hl => lv_lsub C.1.1 C.1.2.1 d (k H locs ls hP hD hS hl)
theorem zR_lmul (C : zC x g own cc ret f) {a b : Int64} (d : zD cc pc (.lmul) 1 pc') (k : zR x g post n pc' lv (.long (a * b) :: st) ws) : zR x g post n pc lv (.long b :: .long a :: st) ws := by
  obtain ⟨d, rfl⟩ := d
  exact fun H locs ls hP hD hS hl => lv_lmul C.1.1 C.1.2.1 d (k H locs ls hP hD hS hl)
theorem zR_land (C : zC x g own cc ret f) {a b : Int64} (d : zD cc pc (.land) 1 pc') (k : zR x g post n pc' lv (.long (a &&& b) :: st) ws) : zR x g post n pc lv (.long b :: .long a :: st) ws := by
  obtain ⟨d, rfl⟩ := d
  exact fun H locs ls hP hD hS hl => lv_land C.1.1 C.1.2.1 d (k H locs ls hP hD hS hl)
theorem zR_lor (C : zC x g own cc ret f) {a b : Int64} (d : zD cc pc (.lor) 1 pc') (k : zR x g post n pc' lv (.long (a ||| b) :: st) ws) : zR x g post n pc lv (.long b :: .long a :: st) ws := by
  obtain ⟨d, rfl⟩ := d
  exact fun H locs ls hP hD hS hl => lv_lor C.1.1 C.1.2.1 d (k H locs ls hP hD hS hl)
theorem zR_idiv (C : zC x g own cc ret f) {a b : Int32} (d : zD cc pc (.idiv) 1 pc') (h0 : ¬ b = 0) (k : zR x g post n pc' lv (.int (a / b) :: st) ws) : zR x g post n pc lv (.int b :: .int a :: st) ws := by
  obtain ⟨d, rfl⟩ := d
  exact fun H locs ls hP hD hS hl => lv_idiv C.1.1 C.1.2.1 d h0 (k H locs ls hP hD hS hl)
theorem zR_irem (C : zC x g own cc ret f) {a b : Int32} (d : zD cc pc (.irem) 1 pc') (h0 : ¬ b = 0) (k : zR x g post n pc' lv (.int (a - a / b * b) :: st) ws) : zR x g post n pc lv (.int b :: .int a :: st) ws := by
  obtain ⟨d, rfl⟩ := d
  exact fun H locs ls hP hD hS hl => lv_irem C.1.1 C.1.2.1 d h0 (k H locs ls hP hD hS hl)
theorem zR_ldiv (C : zC x g own cc ret f) {a b : Int64} (d : zD cc pc (.ldiv) 1 pc') (h0 : ¬ b = 0) (k : zR x g post n pc' lv (.long (a / b) :: st) ws) : zR x g post n pc lv (.long b :: .long a :: st) ws := by
  obtain ⟨d, rfl⟩ := d
  exact fun H locs ls hP hD hS hl => lv_ldiv C.1.1 C.1.2.1 d h0 (k H locs ls hP hD hS hl)
theorem zR_ineg (C : zC x g own cc ret f) {a : Int32} (d : zD cc pc (.ineg) 1 pc') (k : zR x g post n pc' lv (.int (-a) :: st) ws) : zR x g post n pc lv (.int a :: st) ws := by
  obtain ⟨d, rfl⟩ := d
  exact fun H locs ls hP hD hS hl => lv_ineg C.1.1 C.1.2.1 d (k H locs ls hP hD hS hl)
theorem zR_lneg (C : zC x g own cc ret f) {a : Int64} (d : zD cc pc (.lneg) 1 pc') (k : zR x g post n pc' lv (.long (-a) :: st) ws) : zR x g post n pc lv (.long a :: st) ws := by
  obtain ⟨d, rfl⟩ := d
  exact fun H locs ls hP hD hS hl => lv_lneg C.1.1 C.1.2.1 d (k H locs ls hP hD hS hl)
theorem zR_ishl (C : zC x g own cc ret f) {a b : Int32} (d : zD cc pc (.ishl) 1 pc') (k : zR x g post n pc' lv (.int (a <<< (b &&& 31)) :: st) ws) : zR x g post n pc lv (.int b :: .int a :: st) ws := by
  obtain ⟨d, rfl⟩ := d
  exact fun H locs ls hP hD hS hl => lv_ishl C.1.1 C.1.2.1 d (k H locs ls hP hD hS hl)
theorem zR_ishr (C : zC x g own cc ret f) {a b : Int32} (d : zD cc pc (.ishr) 1 pc') (k : zR x g post n pc' lv (.int (a >>> (b &&& 31)) :: st) ws) : zR x g post n pc lv (.int b :: .int a :: st) ws := by
  obtain ⟨d, rfl⟩ := d
  exact fun H locs ls hP hD hS hl => lv_ishr C.1.1 C.1.2.1 d (k H locs ls hP hD hS hl)
theorem zR_i2l (C : zC x g own cc ret f) {a : Int32} (d : zD cc pc (.i2l) 1 pc') (k : zR x g post n pc' lv (.long a.toInt64 :: st) ws) : zR x g post n pc lv (.int a :: st) ws := by
  obtain ⟨d, rfl⟩ := d
  exact fun H locs ls hP hD hS hl => lv_i2l C.1.1 C.1.2.1 d rfl (k H locs ls hP hD hS hl)
theorem zR_l2i (C : zC x g own cc ret f) {a : Int64} {v : Int32} (d : zD cc pc (.l2i) 1 pc') (hv : a.toInt32 = v) (k : zR x g post n pc' lv (.int v :: st) ws) : zR x g post n pc lv (.long a :: st) ws := by
  obtain ⟨d, rfl⟩ := d
  exact fun H locs ls hP hD hS hl => lv_l2i C.1.1 C.1.2.1 d hv (k H locs ls hP hD hS hl)
theorem zR_dup (C : zC x g own cc ret f) {v : Value} (d : zD cc pc (.dup) 1 pc') (hc : v.category = 1) (k : zR x g post n pc' lv (v :: v :: st) ws) : zR x g post n pc lv (v :: st) ws := by
  obtain ⟨d, rfl⟩ := d
  exact fun H locs ls hP hD hS hl => lv_dup C.1.1 C.1.2.1 d hc (k H locs ls hP hD hS hl)
theorem zR_pop (C : zC x g own cc ret f) {v : Value} (d : zD cc pc (.pop) 1 pc') (hc : v.category = 1) (k : zR x g post n pc' lv st ws) : zR x g post n pc lv (v :: st) ws := by
  obtain ⟨d, rfl⟩ := d
  exact fun H locs ls hP hD hS hl => lv_pop C.1.1 C.1.2.1 d hc (k H locs ls hP hD hS hl)
theorem zR_dup2 (C : zC x g own cc ret f) {v w : Value} (d : zD cc pc (.dup2) 1 pc') (hc : v.category = 1) (hw : w.category = 1) (k : zR x g post n pc' lv (v :: w :: v :: w :: st) ws) : zR x g post n pc lv (v :: w :: st) ws := by
  obtain ⟨d, rfl⟩ := d
  exact fun H locs ls hP hD hS hl => lv_dup2_11 C.1.1 C.1.2.1 d hc hw (k H locs ls hP hD hS hl)
theorem zR_goto (C : zC x g own cc ret f) {off : Int} {tgt : Nat} (d : zJ cc pc (.goto off) off tgt 3 pc') (k : zR x g post n tgt lv st ws) : zR x g post n pc lv st ws := fun H locs ls hP hD hS hl => lv_goto C.1.1 C.1.2.1 d.1 d.2.2 (k H locs ls hP hD hS hl)
theorem zR_ifeq (C : zC x g own cc ret f) {a : Int32} {off : Int} {tgt : Nat} (d : zJ cc pc (.ifCond .eq off) off tgt 3 pc') (kt : a = 0 → zR x g post n tgt lv st ws) (kf : ¬ a = 0 → zR x g post n pc' lv st ws) : zR x g post n pc lv (.int a :: st) ws := by
  obtain ⟨d, rfl, dj⟩ := d
  exact fun H locs ls hP hD hS hl => lv_if_eq C.1.1 C.1.2.1 d dj (fun h => kt (h) H locs ls hP hD hS hl) (fun h => kf (h) H locs ls hP hD hS hl)
theorem zR_ifne (C : zC x g own cc ret f) {a : Int32} {off : Int} {tgt : Nat} (d : zJ cc pc (.ifCond .ne off) off tgt 3 pc') (kt : ¬ a = 0 → zR x g post n tgt lv st ws) (kf : a = 0 → zR x g post n pc' lv st ws) : zR x g post n pc lv (.int a :: st) ws := by
  obtain ⟨d, rfl, dj⟩ := d
  exact fun H locs ls hP hD hS hl => lv_if_ne C.1.1 C.1.2.1 d dj (fun h => kt (h) H locs ls hP hD hS hl) (fun h => kf (h) H locs ls hP hD hS hl)
theorem zR_iflt (C : zC x g own cc ret f) {a : Int32} {off : Int} {tgt : Nat} (d : zJ cc pc (.ifCond .lt off) off tgt 3 pc') (kt : a < 0 → zR x g post n tgt lv st ws) (kf : ¬ a < 0 → zR x g post n pc' lv st ws) : zR x g post n pc lv (.int a :: st) ws := by
  obtain ⟨d, rfl, dj⟩ := d
  exact fun H locs ls hP hD hS hl => lv_if_lt C.1.1 C.1.2.1 d dj (fun h => kt (h) H locs ls hP hD hS hl) (fun h => kf (h) H locs ls hP hD hS hl)
theorem zR_ifge (C : zC x g own cc ret f) {a : Int32} {off : Int} {tgt : Nat} (d : zJ cc pc (.ifCond .ge off) off tgt 3 pc') (kt : ¬ a < 0 → zR x g post n tgt lv st ws) (kf : a < 0 → zR x g post n pc' lv st ws) : zR x g post n pc lv (.int a :: st) ws := by
  obtain ⟨d, rfl, dj⟩ := d
  exact fun H locs ls hP hD hS hl => lv_if_ge C.1.1 C.1.2.1 d dj (fun h => kt (Int32.not_lt.mpr h) H locs ls hP hD hS hl) (fun h => kf (Int32.not_le.mp h) H locs ls hP hD hS hl)
theorem zR_ifgt (C : zC x g own cc ret f) {a : Int32} {off : Int} {tgt : Nat} (d : zJ cc pc (.ifCond .gt off) off tgt 3 pc') (kt : ¬ a ≤ 0 → zR x g post n tgt lv st ws) (kf : a ≤ 0 → zR x g post n pc' lv st ws) : zR x g post n pc lv (.int a :: st) ws := by
  obtain ⟨d, rfl, dj⟩ := d
  exact fun H locs ls hP hD hS hl => lv_if_gt C.1.1 C.1.2.1 d dj (fun h => kt (Int32.not_le.mpr h) H locs ls hP hD hS hl) (fun h => kf (Int32.not_lt.mp h) H locs ls hP hD hS hl)
theorem zR_ifle (C : zC x g own cc ret f) {a : Int32} {off : Int} {tgt : Nat} (d : zJ cc pc (.ifCond .le off) off tgt 3 pc') (kt : a ≤ 0 → zR x g post n tgt lv st ws) (kf : ¬ a ≤ 0 → zR x g post n pc' lv st ws) : zR x g post n pc lv (.int a :: st) ws := by
  obtain ⟨d, rfl, dj⟩ := d
  exact fun H locs ls hP hD hS hl => lv_if_le C.1.1 C.1.2.1 d dj (fun h => kt (h) H locs ls hP hD hS hl) (fun h => kf (h) H locs ls hP hD hS hl)
theorem zR_icmp_eq (C : zC x g own cc ret f) {a b : Int32} {off : Int} {tgt : Nat} (d : zJ cc pc (.if_icmp .eq off) off tgt 3 pc') (kt : a = b → zR x g post n tgt lv st ws) (kf : ¬ a = b → zR x g post n pc' lv st ws) : zR x g post n pc lv (.int b :: .int a :: st) ws := by
  obtain ⟨d, rfl, dj⟩ := d
  exact fun H locs ls hP hD hS hl => lv_icmp_eq C.1.1 C.1.2.1 d dj (fun h => kt (h) H locs ls hP hD hS hl) (fun h => kf (h) H locs ls hP hD hS hl)
theorem zR_icmp_ne (C : zC x g own cc ret f) {a b : Int32} {off : Int} {tgt : Nat} (d : zJ cc pc (.if_icmp .ne off) off tgt 3 pc') (kt : ¬ a = b → zR x g post n tgt lv st ws) (kf : a = b → zR x g post n pc' lv st ws) : zR x g post n pc lv (.int b :: .int a :: st) ws := by
  obtain ⟨d, rfl, dj⟩ := d
  exact fun H locs ls hP hD hS hl => lv_icmp_ne C.1.1 C.1.2.1 d dj (fun h => kt (h) H locs ls hP hD hS hl) (fun h => kf (h) H locs ls hP hD hS hl)
theorem zR_icmp_lt (C : zC x g own cc ret f) {a b : Int32} {off : Int} {tgt : Nat} (d : zJ cc pc (.if_icmp .lt off) off tgt 3 pc') (kt : a < b → zR x g post n tgt lv st ws) (kf : ¬ a < b → zR x g post n pc' lv st ws) : zR x g post n pc lv (.int b :: .int a :: st) ws := by
  obtain ⟨d, rfl, dj⟩ := d
  exact fun H locs ls hP hD hS hl => lv_icmp_lt C.1.1 C.1.2.1 d dj (fun h => kt (h) H locs ls hP hD hS hl) (fun h => kf (h) H locs ls hP hD hS hl)
theorem zR_icmp_ge (C : zC x g own cc ret f) {a b : Int32} {off : Int} {tgt : Nat} (d : zJ cc pc (.if_icmp .ge off) off tgt 3 pc') (kt : ¬ a < b → zR x g post n tgt lv st ws) (kf : a < b → zR x g post n pc' lv st ws) : zR x g post n pc lv (.int b :: .int a :: st) ws := by
  obtain ⟨d, rfl, dj⟩ := d
  exact fun H locs ls hP hD hS hl => lv_icmp_ge C.1.1 C.1.2.1 d dj (fun h => kt (Int32.not_lt.mpr h) H locs ls hP hD hS hl) (fun h => kf (Int32.not_le.mp h) H locs ls hP hD hS hl)
theorem zR_icmp_gt (C : zC x g own cc ret f) {a b : Int32} {off : Int} {tgt : Nat} (d : zJ cc pc (.if_icmp .gt off) off tgt 3 pc') (kt : ¬ a ≤ b → zR x g post n tgt lv st ws) (kf : a ≤ b → zR x g post n pc' lv st ws) : zR x g post n pc lv (.int b :: .int a :: st) ws := by
  obtain ⟨d, rfl, dj⟩ := d
  exact fun H locs ls hP hD hS hl => lv_icmp_gt C.1.1 C.1.2.1 d dj (fun h => kt (Int32.not_le.mpr h) H locs ls hP hD hS hl) (fun h => kf (Int32.not_lt.mp h) H locs ls hP hD hS hl)
theorem zR_icmp_le (C : zC x g own cc ret f) {a b : Int32} {off : Int} {tgt : Nat} (d : zJ cc pc (.if_icmp .le off) off tgt 3 pc') (kt : a ≤ b → zR x g post n tgt lv st ws) (kf : ¬ a ≤ b → zR x g post n pc' lv st ws) : zR x g post n pc lv (.int b :: .int a :: st) ws := by
  obtain ⟨d, rfl, dj⟩ := d
  exact fun H locs ls hP hD hS hl => lv_icmp_le C.1.1 C.1.2.1 d dj (fun h => kt (h) H locs ls hP hD hS hl) (fun h => kf (h) H locs ls hP hD hS hl)
def zB (b : Bool) : Int32 := cond b 1 0
theorem zB_0 {b : Bool} : zB b = 0 ↔ ¬ b = true := by cases b <;> decide
theorem zB_nar (b : Bool) : narrow .boolean (.int (zB b)) = .int (zB b) := by cases b <;> rfl
theorem zR_bfeq (C : zC x g own cc ret f) {b : Bool} {off : Int} {tgt : Nat} (d : zJ cc pc (.ifCond .eq off) off tgt 3 pc') (kt : ¬ b = true → zR x g post n tgt lv st ws) (kf : b = true → zR x g post n pc' lv st ws) : zR x g post n pc lv (.int (zB b) :: st) ws := zR_ifeq C d (fun h => kt (zB_0.mp h)) (fun h => kf (Classical.byContradiction fun q => h (zB_0.mpr q)))
theorem zR_bfne (C : zC x g own cc ret f) {b : Bool} {off : Int} {tgt : Nat} (d : zJ cc pc (.ifCond .ne off) off tgt 3 pc') (kt : b = true → zR x g post n tgt lv st ws) (kf : ¬ b = true → zR x g post n pc' lv st ws) : zR x g post n pc lv (.int (zB b) :: st) ws := zR_ifne C d (fun h => kt (Classical.byContradiction fun q => h (zB_0.mpr q))) (fun h => kf (zB_0.mp h))
theorem zR_ifeq_t (C : zC x g own cc ret f) {a : Int32} {off : Int} {tgt : Nat} (d : zJ cc pc (.ifCond .eq off) off tgt 3 pc') (h0 : a = 0) (k : zR x g post n tgt lv st ws) : zR x g post n pc lv (.int a :: st) ws := zR_ifeq C d (fun _ => k) (fun h => absurd h0 h)
theorem zR_ifeq_f (C : zC x g own cc ret f) {a : Int32} {off : Int} {tgt : Nat} (d : zJ cc pc (.ifCond .eq off) off tgt 3 pc') (h0 : ¬ a = 0) (k : zR x g post n pc' lv st ws) : zR x g post n pc lv (.int a :: st) ws := zR_ifeq C d (fun h => absurd h h0) (fun _ => k)
theorem zR_ifne_t (C : zC x g own cc ret f) {a : Int32} {off : Int} {tgt : Nat} (d : zJ cc pc (.ifCond .ne off) off tgt 3 pc') (h0 : ¬ a = 0) (k : zR x g post n tgt lv st ws) : zR x g post n pc lv (.int a :: st) ws := zR_ifne C d (fun _ => k) (fun h => absurd h h0)
theorem zR_ifne_f (C : zC x g own cc ret f) {a : Int32} {off : Int} {tgt : Nat} (d : zJ cc pc (.ifCond .ne off) off tgt 3 pc') (h0 : a = 0) (k : zR x g post n pc' lv st ws) : zR x g post n pc lv (.int a :: st) ws := zR_ifne C d (fun h => absurd h0 h) (fun _ => k)
theorem zR_iflt_t (C : zC x g own cc ret f) {a : Int32} {off : Int} {tgt : Nat} (d : zJ cc pc (.ifCond .lt off) off tgt 3 pc') (h0 : a < 0) (k : zR x g post n tgt lv st ws) : zR x g post n pc lv (.int a :: st) ws := zR_iflt C d (fun _ => k) (fun h => absurd h0 h)
theorem zR_iflt_f (C : zC x g own cc ret f) {a : Int32} {off : Int} {tgt : Nat} (d : zJ cc pc (.ifCond .lt off) off tgt 3 pc') (h0 : ¬ a < 0) (k : zR x g post n pc' lv st ws) : zR x g post n pc lv (.int a :: st) ws := zR_iflt C d (fun h => absurd h h0) (fun _ => k)
theorem zR_ifge_t (C : zC x g own cc ret f) {a : Int32} {off : Int} {tgt : Nat} (d : zJ cc pc (.ifCond .ge off) off tgt 3 pc') (h0 : ¬ a < 0) (k : zR x g post n tgt lv st ws) : zR x g post n pc lv (.int a :: st) ws := zR_ifge C d (fun _ => k) (fun h => absurd h h0)
theorem zR_ifge_f (C : zC x g own cc ret f) {a : Int32} {off : Int} {tgt : Nat} (d : zJ cc pc (.ifCond .ge off) off tgt 3 pc') (h0 : a < 0) (k : zR x g post n pc' lv st ws) : zR x g post n pc lv (.int a :: st) ws := zR_ifge C d (fun h => absurd h0 h) (fun _ => k)
theorem zR_lcmp (C : zC x g own cc ret f) {a b : Int64} (d : zD cc pc (.lcmp) 1 pc') (k : zR x g post n pc' lv (.int (lg_cmp a b) :: st) ws) : zR x g post n pc lv (.long b :: .long a :: st) ws := by
  obtain ⟨d, rfl⟩ := d
  exact fun H locs ls hP hD hS hl => W.lcmp C.1.1 C.1.2.1 d (k H locs ls hP hD hS hl)
theorem zR_cifeq (C : zC x g own cc ret f) {a b : Int64} {off : Int} {tgt p2 : Nat} (d : zD cc pc .lcmp 1 pc') (d2 : zJ cc pc' (.ifCond .eq off) off tgt 3 p2) (kt : a = b → zR x g post n tgt lv st ws) (kf : ¬ a = b → zR x g post n p2 lv st ws) : zR x g post n pc lv (.long b :: .long a :: st) ws := zR_lcmp C d (zR_ifeq C d2 (fun h => kt ((lg_cmp_eq a b).mp h)) (fun h => kf (fun q => h ((lg_cmp_eq a b).mpr q))))
theorem zR_cifne (C : zC x g own cc ret f) {a b : Int64} {off : Int} {tgt p2 : Nat} (d : zD cc pc .lcmp 1 pc') (d2 : zJ cc pc' (.ifCond .ne off) off tgt 3 p2) (kt : ¬ a = b → zR x g post n tgt lv st ws) (kf : a = b → zR x g post n p2 lv st ws) : zR x g post n pc lv (.long b :: .long a :: st) ws := zR_lcmp C d (zR_ifne C d2 (fun h => kt (fun q => h ((lg_cmp_eq a b).mpr q))) (fun h => kf ((lg_cmp_eq a b).mp h)))
theorem zR_ciflt (C : zC x g own cc ret f) {a b : Int64} {off : Int} {tgt p2 : Nat} (d : zD cc pc .lcmp 1 pc') (d2 : zJ cc pc' (.ifCond .lt off) off tgt 3 p2) (kt : a < b → zR x g post n tgt lv st ws) (kf : ¬ a < b → zR x g post n p2 lv st ws) : zR x g post n pc lv (.long b :: .long a :: st) ws := zR_lcmp C d (zR_iflt C d2 (fun h => kt ((lg_cmp_lt a b).mp h)) (fun h => kf (fun q => h ((lg_cmp_lt a b).mpr q))))
theorem zR_cifge (C : zC x g own cc ret f) {a b : Int64} {off : Int} {tgt p2 : Nat} (d : zD cc pc .lcmp 1 pc') (d2 : zJ cc pc' (.ifCond .ge off) off tgt 3 p2) (kt : ¬ a < b → zR x g post n tgt lv st ws) (kf : a < b → zR x g post n p2 lv st ws) : zR x g post n pc lv (.long b :: .long a :: st) ws := zR_lcmp C d (zR_ifge C d2 (fun h => kt (fun q => h ((lg_cmp_lt a b).mpr q))) (fun h => kf ((lg_cmp_lt a b).mp h)))
theorem zR_cifgt (C : zC x g own cc ret f) {a b : Int64} {off : Int} {tgt p2 : Nat} (d : zD cc pc .lcmp 1 pc') (d2 : zJ cc pc' (.ifCond .gt off) off tgt 3 p2) (kt : ¬ a ≤ b → zR x g post n tgt lv st ws) (kf : a ≤ b → zR x g post n p2 lv st ws) : zR x g post n pc lv (.long b :: .long a :: st) ws := zR_lcmp C d (zR_ifgt C d2 (fun h => kt (fun q => h ((lg_cmp_le a b).mpr q))) (fun h => kf ((lg_cmp_le a b).mp h)))
theorem zR_cifle (C : zC x g own cc ret f) {a b : Int64} {off : Int} {tgt p2 : Nat} (d : zD cc pc .lcmp 1 pc') (d2 : zJ cc pc' (.ifCond .le off) off tgt 3 p2) (kt : a ≤ b → zR x g post n tgt lv st ws) (kf : ¬ a ≤ b → zR x g post n p2 lv st ws) : zR x g post n pc lv (.long b :: .long a :: st) ws := zR_lcmp C d (zR_ifle C d2 (fun h => kt ((lg_cmp_le a b).mp h)) (fun h => kf (fun q => h ((lg_cmp_le a b).mpr q))))
end ZR
end
section

/-! The layer's rows of cells, calls and ends. -/
def zF (own : String) (idx ci k : Nat) : Prop := ∃ (C : String) (T : u_T) (N : Nat), vwCl[ci]? = some (C, T, N) ∧ (∀ w ∈ u_ws C T N, w ∈ zTBL) ∧ k < N ∧
  (Cond.fieldLink own idx (T k).1 (T k).2.1 (T k).2.2.1 ∈ zTBL ∨ ∃ host : String, Cond.fieldLinkNest own idx (T k).1 (T k).2.1 (T k).2.2.1 host ∈ zNST)
def zFp (own : String) (idx ci k : Nat) (ty : FieldType) (fin : Bool) : Prop := ∃ (C : String) (T : u_T) (N : Nat) (ty0 : Nat → FieldType), vwCl[ci]? = some (C, T, N) ∧ (∀ w ∈ u_ws C T N, w ∈ zTBL) ∧ k < N ∧
  (Cond.fieldLink own idx (T k).1 (T k).2.1 (T k).2.2.1 ∈ zTBL ∨ ∃ host : String, Cond.fieldLinkNest own idx (T k).1 (T k).2.1 (T k).2.2.1 host ∈ zNST) ∧
  (∀ k, k < N → parseFieldDescriptor (T k).2.2.1 = some (ty0 k)) ∧ (∀ a, a < N → ∀ b, b < N → a ≠ b → (T a).2.1 ≠ (T b).2.1) ∧ (T k).2.2.2 = fin ∧ parseFieldDescriptor (T k).2.2.1 = some ty ∧ ((T k).1 = own ∨ fin = false)
def zrep (ws : va_W) : List Nat → va_W → va_W
  | i :: is, e :: es => zrep (ws.set i e) is es
  | _, _ => ws
theorem zrep_fst : ∀ (is : List Nat) (es : va_W) (ws : va_W), is.map (fun i => (ws[i]?).map Prod.fst) = es.map (fun e => some e.1) → (zrep ws is es).map Prod.fst = ws.map Prod.fst
  | [], [], ws, _ => rfl
  | [], _ :: _, ws, h => by simp at h
  | _ :: _, [], ws, h => by simp at h
  | i :: is, e :: es, ws, h => by
    simp only [List.map_cons, List.cons.injEq] at h
    have h1 : (ws.set i e).map Prod.fst = ws.map Prod.fst := by
      apply List.ext_getElem?
      intro j
      rw [List.getElem?_map, List.getElem?_map, List.getElem?_set]
      by_cases hij : i = j
      · subst hij
        by_cases hl : i < ws.length
        · simp only [if_true, if_pos hl, Option.map_some]; exact h.1.symm
        · have : ws[i]? = none := List.getElem?_eq_none (Nat.not_lt.mp hl)
          rw [this] at h; simp at h
      · simp [hij]
    have h2 := zrep_fst is es (ws.set i e) (by
      rw [← h.2]
      apply List.map_congr_left
      intro j _
      have := congrArg (fun l => l[j]?) h1
      simpa only [List.getElem?_map] using this)
    show (zrep (ws.set i e) is es).map Prod.fst = _
    rw [h2, h1]
theorem zrep_get : ∀ (is : List Nat) (es : va_W) (ws : va_W), is.length = es.length → ∀ (k : Nat) (q : Nat × va_E), (zrep ws is es)[k]? = some q → q ∈ es ∨ (ws[k]? = some q ∧ k ∉ is)
  | [], [], ws, _, k, q, h => Or.inr ⟨h, by simp⟩
  | [], _ :: _, ws, hl, k, q, h => by simp at hl
  | _ :: _, [], ws, hl, k, q, h => by simp at hl
  | i :: is, e :: es, ws, hl, k, q, h => by
    rcases zrep_get is es (ws.set i e) (by simpa using hl) k q h with h1 | ⟨h1, h2⟩
    · exact Or.inl (List.mem_cons_of_mem _ h1)
    · rw [List.getElem?_set] at h1
      by_cases hij : i = k
      · rw [if_pos hij] at h1
        split at h1
        · cases h1; exact Or.inl List.mem_cons_self
        · cases h1
      · rw [if_neg hij] at h1
        exact Or.inr ⟨h1, by simp only [List.mem_cons, not_or]; exact ⟨fun z => hij z.symm, h2⟩⟩
theorem zD_fst {A : Nat → Prop} {w1 w2 : va_W} (h : va_D A w1) (e : w2.map Prod.fst = w1.map Prod.fst) : va_D A w2 := by
  have key : ∀ (k : Nat) (q : Nat × va_E), w2[k]? = some q → ∃ q1, w1[k]? = some q1 ∧ q1.1 = q.1 := by
    intro k q hq
    have := congrArg (fun l => l[k]?) e
    simp only [List.getElem?_map, hq, Option.map_some] at this
    obtain ⟨q1, h1, h2⟩ := Option.map_eq_some_iff.mp this.symm
    exact ⟨q1, h1, h2⟩
  refine ⟨fun i j p q hp hq hpq => ?_, fun k q hq => ?_⟩
  · obtain ⟨p1, h1, h2⟩ := key i p hp
    obtain ⟨q1, h3, h4⟩ := key j q hq
    exact h.1 i j p1 q1 h1 h3 (by rw [h2, h4, hpq])
  · obtain ⟨q1, h1, h2⟩ := key k q hq
    rw [← h2]; exact h.2 k q1 h1
/-- behind a call: the callee's cells in their places, those that it made at the end -/
theorem zjoin {A0 : Nat → Prop} {D : va_G} {ws wc wa wn : va_W} {H H1 : Heap} (hP : va_P D vwCl ws H) (hD : va_D A0 ws) (isC : List Nat) (hC : isC.map (fun i => ws[i]?) = wc.map some) (hfst : wa.map Prod.fst = wc.map Prod.fst)
    (hk : ∀ q : Nat, q < H.size → ¬ va_A wc H.size q → H1[q]? = H[q]?) (hF : ∀ q, va_A wc H.size q → A0 q) (hP1 : va_P D vwCl (wa ++ wn) H1) (hD1 : va_D (va_A wc H.size) (wa ++ wn)) :
    va_P D vwCl (zrep ws isC wa ++ wn) H1 ∧ va_D A0 (zrep ws isC wa ++ wn) := by
  have hlen : isC.length = wa.length := by
    have h1 := congrArg List.length hC
    have h2 := congrArg List.length hfst
    simp only [List.length_map] at h1 h2
    omega
  have hfst2 : (zrep ws isC wa).map Prod.fst = ws.map Prod.fst := by
    apply zrep_fst
    have h1 := congrArg (List.map (Option.map Prod.fst)) hC
    simp only [List.map_map] at h1
    rw [show (isC.map fun i => (ws[i]?).map Prod.fst) = isC.map (Option.map Prod.fst ∘ fun i => ws[i]?) from rfl, h1]
    have h2 := congrArg (List.map some) hfst
    simp only [List.map_map] at h2
    rw [show (wa.map fun e => some e.1) = wa.map (some ∘ Prod.fst) from rfl, h2]
    rfl
  have hwc : ∀ (j : Nat) (q : Nat × va_E), wc[j]? = some q → ∃ i, isC[j]? = some i ∧ ws[i]? = some q := by
    intro j q hq
    have := congrArg (fun l => l[j]?) hC
    simp only [List.getElem?_map, hq, Option.map_some] at this
    obtain ⟨i, h1, h2⟩ := Option.map_eq_some_iff.mp this
    exact ⟨i, h1, h2⟩
  have hDr : va_D A0 (zrep ws isC wa) := zD_fst hD hfst2
  have hold : ∀ (k : Nat) (q : Nat × va_E), (zrep ws isC wa)[k]? = some q → q.1 < H.size := by
    intro k q hq
    have := congrArg (fun l => l[k]?) hfst2
    simp only [List.getElem?_map, hq, Option.map_some] at this
    obtain ⟨q1, h1, h2⟩ := Option.map_eq_some_iff.mp this.symm
    rw [← h2]; exact (hP k q1 h1).lt
  refine ⟨va_P.app (fun k q hq => ?_) (fun k q hq => hP1 (wa.length + k) q (by rw [List.getElem?_append_right (Nat.le_add_right _ _), Nat.add_sub_cancel_left]; exact hq)), va_D.app hDr ?_ ?_⟩
  · rcases zrep_get isC wa ws hlen k q hq with h1 | ⟨h1, h2⟩
    · obtain ⟨j, hj⟩ := List.mem_iff_getElem?.mp h1
      exact hP1 j q (by rw [List.getElem?_append_left (List.getElem?_eq_some_iff.mp hj).1]; exact hj)
    · refine (hP k q h1).kept (hk q.1 (hP k q h1).lt ?_)
      rintro (⟨j, e, hj⟩ | hge)
      · obtain ⟨i, h3, h4⟩ := hwc j _ hj
        have := hD.1 k i q _ h1 h4 rfl
        subst this
        exact h2 (List.mem_of_getElem? h3)
      · exact absurd (hP k q h1).lt (Nat.not_lt.mpr hge)
  · refine ⟨fun i j p q hp hq hpq => ?_, fun k q hq => hF _ (hD1.2 (wa.length + k) q (by rw [List.getElem?_append_right (Nat.le_add_right _ _), Nat.add_sub_cancel_left]; exact hq))⟩
    have := hD1.1 (wa.length + i) (wa.length + j) p q (by rw [List.getElem?_append_right (Nat.le_add_right _ _), Nat.add_sub_cancel_left]; exact hp) (by rw [List.getElem?_append_right (Nat.le_add_right _ _), Nat.add_sub_cancel_left]; exact hq) hpq
    omega
  · intro i j p q hp hq hpq
    have hlt := hold i p hp
    have hqn : (wa ++ wn)[wa.length + j]? = some q := by rw [List.getElem?_append_right (Nat.le_add_right _ _), Nat.add_sub_cancel_left]; exact hq
    rcases hD1.2 _ q hqn with ⟨j2, e2, hj2⟩ | hge
    · have := congrArg (fun l => l[j2]?) hfst
      simp only [List.getElem?_map, hj2, Option.map_some] at this
      obtain ⟨q2, h5, h6⟩ := Option.map_eq_some_iff.mp this
      have hlt2 := (List.getElem?_eq_some_iff.mp h5).1
      have := hD1.1 j2 (wa.length + j) q2 q (by rw [List.getElem?_append_left hlt2]; exact h5) hqn h6
      omega
    · omega
theorem zPre_blind {args : List Value} {g : zG} {ws : va_W} {sz : Nat} : FrameBlind (va_Pc args (zPre g ws sz)) := by
  intro a U fr mk q
  obtain ⟨q0, q1, qP, qK, qD, qN, qZ⟩ := q
  exact ⟨q0, q1, qP, va_K.moved (u := U) (U := U.calling fr mk a) (Vm.Alike.refl U.vm) qK, qD, fun w hw => va_Nw.same (zN_tab hw) (u := U) (U := U.calling fr mk a) rfl (qN w hw), zZ.same (s := U) (U := U.calling fr mk a) qZ rfl⟩
theorem zGood {y : MethodName} {cc : ByteArray} {nL : Nat} {ret : Option FieldType} (h : Cond.code y cc nL ret ∈ zTBL) : GoodIn zTBL (.code y cc nL ret :: zTBL) := by
  intro w hw
  rcases List.mem_cons.mp hw with rfl | hw
  · exact ⟨h, good_of_word (List.mem_filter.mp h).2⟩
  · exact ⟨hw, good_of_word (List.mem_filter.mp hw).2⟩
def zK0 (y : MethodName) (cc : ByteArray) (nL : Nat) (ret : Option FieldType) (n : Nat) : Prop :=
  Cond.code y cc nL ret ∈ zTBL ∧ Cond.initialized y.cls ∈ zTBL ∧ (y.cls ≠ "java/lang/invoke/MethodHandle" ∧ y.cls ≠ "java/lang/invoke/VarHandle") ∧ (parseMethodDescriptor y.desc).map (fun d => d.parameters.length) = some n
def zKl (own : String) (idx : Nat) (y : MethodName) : Prop := Cond.methodLink own idx y ∈ zTBL ∨ ∃ host : String, Cond.methodLinkNest own idx y host ∈ zNST
def zKv (own : String) (idx : Nat) (y : MethodName) (cc : ByteArray) (nL : Nat) (ret : Option FieldType) (n : Nat) : Prop := zK0 y cc nL ret n ∧ zKl own idx y ∧ Cond.instanceMethod y ∈ zTBL ∧ Cond.selects y.cls y y ∈ zTBL
def zKs (own : String) (idx : Nat) (y : MethodName) (cc : ByteArray) (nL : Nat) (ret : Option FieldType) (n : Nat) : Prop := zK0 y cc nL ret n ∧ zKl own idx y ∧ Cond.static y ∈ zTBL
def zKi (own : String) (idx : Nat) (y : MethodName) (cc : ByteArray) (nL : Nat) (n : Nat) : Prop := zK0 y cc nL none n ∧ zKl own idx y ∧ Cond.instanceMethod y ∈ zTBL ∧ y.name = "<init>"
section ZR2
variable {x : zX} {g : zG} {own : String} {cc : ByteArray} {ret : Option FieldType} {f : Nat} {post : Option Value → va_W → Prop} {n : Nat × Nat} {pc pc' : Nat} {lv : List (Nat × Value)} {st rest : List Value} {ws : va_W}
theorem zR_caseK {v : Int32} (c : Int32) (kt : v = c → zR x g post n pc lv (.int c :: st) ws) (kf : ¬ v = c → zR x g post n pc lv (.int v :: st) ws) : zR x g post n pc lv (.int v :: st) ws := if h : v = c then (by have k := kt h; subst h; exact k) else kf h
theorem zR_get (C : zC x g own cc ret f) {idx ci k a : Nat} {fs : List Value} {v : Value} (F : zF own idx ci k) (d : zD cc pc (.getfield idx) 3 pc') (p : Nat) (he : ws[p]? = some (a, .inr (ci, fs))) (hv : fs[k]? = some v) (kk : zR x g post n pc' lv (v :: st) ws) : zR x g post n pc lv (.ref a :: st) ws := by
  obtain ⟨d, rfl⟩ := d
  obtain ⟨⟨hx, hb, hml, hown⟩, hts, hK, hN, -⟩ := C
  obtain ⟨cl, T, N, hc, hin, hk, hlink | ⟨host, hlink⟩⟩ := F
  · exact fun H locs ls hP hD hS hl => va_get hx hb hts hin hown hK hP p he hc k hk (hts _ hlink) (fun _ h => h) hv d (kk H locs ls hP hD hS hl)
  · exact fun H locs ls hP hD hS hl => va_getN hx hb hts hin hown hK hP p he hc k hk (va_Nw.use rfl (hN _ hlink)) (fun _ h => h) hv d (kk H locs ls hP hD hS hl)
theorem zR_put (C : zC x g own cc ret f) {idx ci k a : Nat} {fs : List Value} {v : Int32} {ws1 : va_W} (F : zFp own idx ci k .int false) (d : zD cc pc (.putfield idx) 3 pc') (p : Nat) (he : ws[p]? = some (a, .inr (ci, fs))) (hl0 : k < fs.length) (hw : ws.set p (a, .inr (ci, fs.set k (.int v))) = ws1) (kk : zR x g post n pc' lv st ws1) : zR x g post n pc lv (.int v :: .ref a :: st) ws := by
  subst hw
  obtain ⟨d, rfl⟩ := d
  obtain ⟨⟨hx, hb, hml, hown⟩, hts, hK, hN, -⟩ := C
  obtain ⟨cl, T, N, ty0, hc, hin, hk, hlink | ⟨host, hlink⟩, hty, hnm, hfin, hd, -⟩ := F
  · exact fun H locs ls hP hD hS hl => va_put hx hb hts hin ty0 hty hnm hown hK hP hD hS p he hc k hk (hts _ hlink) (fun _ h => h) hfin hd rfl rfl hl0 d (fun H1 locs1 hP hD hS => kk H1 locs1 ls hP hD hS hl)
  · exact fun H locs ls hP hD hS hl => va_putN hx hb hts hin ty0 hty hnm hown hK hP hD hS p he hc k hk (va_Nw.use rfl (hN _ hlink)) (fun _ h => h) hfin hd rfl rfl hl0 d (fun H1 locs1 hP hD hS => kk H1 locs1 ls hP hD hS hl)

theorem zR_iald (C : zC x g own cc ret f) {a N : Nat} {h : Nat → Int32} {i : Int32} (d : zD cc pc .iaload 1 pc') (p : Nat) (ha : ws[p]? = some (a, .inl (g.2.1 0, N, .inl h))) (hi : vp_in i N) (k : zR x g post n pc' lv (.int (h i.toNatClampNeg) :: st) ws) : zR x g post n pc lv (.int i :: .ref a :: st) ws := by
  obtain ⟨d, rfl⟩ := d
  exact fun H locs ls hP hD hS hl => va_iald C.1.1 C.1.2.1 C.2.2.1 hP p 0 ha rfl hi d (k H locs ls hP hD hS hl)
theorem zR_zald (C : zC x g own cc ret f) {a N : Nat} {h : Nat → Int32} {i : Int32} (d : zD cc pc .baload 1 pc') (p : Nat) (ha : ws[p]? = some (a, .inl (g.2.1 2, N, .inl h))) (hi : vp_in i N) (k : zR x g post n pc' lv (.int (h i.toNatClampNeg) :: st) ws) : zR x g post n pc lv (.int i :: .ref a :: st) ws := by
  obtain ⟨d, rfl⟩ := d
  exact fun H locs ls hP hD hS hl => va_zald C.1.1 C.1.2.1 C.2.2.1 hP p 2 ha rfl hi d (k H locs ls hP hD hS hl)
theorem zR_cald (C : zC x g own cc ret f) {a N : Nat} {h : Nat → Int32} {i : Int32} (d : zD cc pc .caload 1 pc') (p : Nat) (ha : ws[p]? = some (a, .inl (g.2.1 3, N, .inl h))) (hi : vp_in i N) (k : zR x g post n pc' lv (.int (h i.toNatClampNeg) :: st) ws) : zR x g post n pc lv (.int i :: .ref a :: st) ws := by
  obtain ⟨d, rfl⟩ := d
  exact fun H locs ls hP hD hS hl => va_cald C.1.1 C.1.2.1 C.2.2.1 hP p 3 ha rfl hi d (k H locs ls hP hD hS hl)
theorem zR_lald (C : zC x g own cc ret f) {a N : Nat} {h : Nat → Int64} {i : Int32} (d : zD cc pc .laload 1 pc') (p : Nat) (ha : ws[p]? = some (a, .inl (g.2.1 1, N, .inr (.inl h)))) (hi : vp_in i N) (k : zR x g post n pc' lv (.long (h i.toNatClampNeg) :: st) ws) : zR x g post n pc lv (.int i :: .ref a :: st) ws := by
  obtain ⟨d, rfl⟩ := d
  exact fun H locs ls hP hD hS hl => va_lald C.1.1 C.1.2.1 C.2.2.1 hP p 1 ha rfl hi d (k H locs ls hP hD hS hl)
theorem zR_aald (C : zC x g own cc ret f) {a N : Nat} {h : Nat → Option Nat} {i : Int32} {v : Value} (d : zD cc pc .aaload 1 pc') (p : Nat) (ha : ws[p]? = some (a, .inl (g.2.1 4, N, .inr (.inr (.inr (.inr h)))))) (hi : vp_in i N) (hv : va_rf (h i.toNatClampNeg) = v) (k : zR x g post n pc' lv (v :: st) ws) : zR x g post n pc lv (.int i :: .ref a :: st) ws := by
  obtain ⟨d, rfl⟩ := d
  subst hv
  exact fun H locs ls hP hD hS hl => va_aldq C.1.1 C.1.2.1 C.2.2.1 hP p 4 ha rfl hi d (k H locs ls hP hD hS hl)
theorem zR_iast (C : zC x g own cc ret f) {a N : Nat} {h : Nat → Int32} {i : Int32} {v : Int32} {ws1 : va_W} (d : zD cc pc .iastore 1 pc') (p : Nat) (ha : ws[p]? = some (a, .inl (g.2.1 0, N, .inl h))) (hi : vp_in i N) (hw : ws.set p (a, .inl (g.2.1 0, N, .inl (upd h i.toNatClampNeg v))) = ws1) (k : zR x g post n pc' lv st ws1) : zR x g post n pc lv (.int v :: .int i :: .ref a :: st) ws := by
  obtain ⟨d, rfl⟩ := d
  subst hw
  exact fun H locs ls hP hD hS hl => va_iast C.1.1 C.1.2.1 C.2.2.1 hP hD hS p 0 ha rfl hi d (fun H1 locs1 hP hD hS => k H1 locs1 ls hP hD hS hl)
theorem zR_last (C : zC x g own cc ret f) {a N : Nat} {h : Nat → Int64} {i : Int32} {v : Int64} {ws1 : va_W} (d : zD cc pc .lastore 1 pc') (p : Nat) (ha : ws[p]? = some (a, .inl (g.2.1 1, N, .inr (.inl h)))) (hi : vp_in i N) (hw : ws.set p (a, .inl (g.2.1 1, N, .inr (.inl (vp_updL h i.toNatClampNeg v)))) = ws1) (k : zR x g post n pc' lv st ws1) : zR x g post n pc lv (.long v :: .int i :: .ref a :: st) ws := by
  obtain ⟨d, rfl⟩ := d
  subst hw
  exact fun H locs ls hP hD hS hl => va_last C.1.1 C.1.2.1 C.2.2.1 hP hD hS p 1 ha rfl hi d (fun H1 locs1 hP hD hS => k H1 locs1 ls hP hD hS hl)
theorem zR_zast (C : zC x g own cc ret f) {a N : Nat} {h : Nat → Int32} {i : Int32} {v : Int32} {ws1 : va_W} (d : zD cc pc .bastore 1 pc') (p : Nat) (ha : ws[p]? = some (a, .inl (g.2.1 2, N, .inl h))) (hi : vp_in i N) {v' : Int32} (hv : vp_nar .boolean v = v') (hw : ws.set p (a, .inl (g.2.1 2, N, .inl (upd h i.toNatClampNeg v'))) = ws1) (k : zR x g post n pc' lv st ws1) : zR x g post n pc lv (.int v :: .int i :: .ref a :: st) ws := by
  obtain ⟨d, rfl⟩ := d
  subst hw
  exact fun H locs ls hP hD hS hl => va_zast C.1.1 C.1.2.1 C.2.2.1 hP hD hS p 2 ha rfl hi d (fun H1 locs1 hP hD hS => k H1 locs1 ls (by rw [← hv]; exact hP) (by rw [← hv]; exact hD) hS hl)
theorem zR_cast (C : zC x g own cc ret f) {a N : Nat} {h : Nat → Int32} {i : Int32} {v : Int32} {ws1 : va_W} (d : zD cc pc .castore 1 pc') (p : Nat) (ha : ws[p]? = some (a, .inl (g.2.1 3, N, .inl h))) (hi : vp_in i N) {v' : Int32} (hv : vp_nar .char v = v') (hw : ws.set p (a, .inl (g.2.1 3, N, .inl (upd h i.toNatClampNeg v'))) = ws1) (k : zR x g post n pc' lv st ws1) : zR x g post n pc lv (.int v :: .int i :: .ref a :: st) ws := by
  obtain ⟨d, rfl⟩ := d
  subst hw
  exact fun H locs ls hP hD hS hl => va_cast C.1.1 C.1.2.1 C.2.2.1 hP hD hS p 3 ha rfl hi d (fun H1 locs1 hP hD hS => k H1 locs1 ls (by rw [← hv]; exact hP) (by rw [← hv]; exact hD) hS hl)

theorem zR_ldc (C : zC x g own cc ret f) {idx : Nat} {v : Int32} (hw : Cond.constant own idx v ∈ zTBL) (d : zD cc pc (.ldc idx) 2 pc') (k : zR x g post n pc' lv (.int v :: st) ws) : zR x g post n pc lv st ws := by
  obtain ⟨d, rfl⟩ := d
  exact fun H locs ls hP hD hS hl => lv_ldc C.1.1 C.1.2.1 C.1.2.2.2 (C.2.1 _ hw) d (k H locs ls hP hD hS hl)
theorem zR_ldc2 (C : zC x g own cc ret f) {idx : Nat} {v : Int64} (hw : Cond.constantLong own idx v ∈ zTBL) (d : zD cc pc (.ldc2_w idx) 3 pc') (k : zR x g post n pc' lv (.long v :: st) ws) : zR x g post n pc lv st ws := by
  obtain ⟨d, rfl⟩ := d
  exact fun H locs ls hP hD hS hl => lv_ldc2 C.1.1 C.1.2.1 C.1.2.2.2 (C.2.1 _ hw) d (k H locs ls hP hD hS hl)
theorem zR_tswIn (C : zC x g own cc ret f) {dflt lo hi off : Int} {offs : Array Int} {len tgt : Nat} {v : Int32} (d : zD cc pc (.tableswitch dflt lo hi offs) len pc') (h1 : ¬ v.toInt < lo) (h2 : ¬ hi < v.toInt) (ho : offs[(v.toInt - lo).toNat]? = some off) (ht : (pc : Int) + off = (tgt : Int)) (k : zR x g post n tgt lv st ws) : zR x g post n pc lv (.int v :: st) ws :=
  fun H locs ls hP hD hS hl => lv_tableIn C.1.1 C.1.2.1 d.1 h1 h2 ho ht (k H locs ls hP hD hS hl)
theorem zR_tswOut (C : zC x g own cc ret f) {dflt lo hi : Int} {offs : Array Int} {len tgt : Nat} {v : Int32} (d : zD cc pc (.tableswitch dflt lo hi offs) len pc') (h : v.toInt < lo ∨ hi < v.toInt) (ht : (pc : Int) + dflt = (tgt : Int)) (k : zR x g post n tgt lv st ws) : zR x g post n pc lv (.int v :: st) ws :=
  fun H locs ls hP hD hS hl => lv_tableOut C.1.1 C.1.2.1 d.1 h ht (k H locs ls hP hD hS hl)
theorem zR_lsw (C : zC x g own cc ret f) {dflt off : Int} {ps : Array (Int × Int)} {len tgt : Nat} {v : Int32} (d : zD cc pc (.lookupswitch dflt ps) len pc') (hp : (ps.toList.zip (ps.toList.drop 1)).all (fun (a, next) => a.1 < next.1) = true) (ho : Op.lookupswitch.offset ps.toList dflt v.toInt = off) (ht : (pc : Int) + off = (tgt : Int)) (k : zR x g post n tgt lv st ws) : zR x g post n pc lv (.int v :: st) ws :=
  fun H locs ls hP hD hS hl => lv_lookup C.1.1 C.1.2.1 d.1 hp ho ht (k H locs ls hP hD hS hl)
theorem zPst_end {r : Option Value} {ws : va_W} {H : Heap} {locs : List Loc} (C : zC x g own cc ret f) (hP : va_P g.1 vwCl ws H) (hD : va_D (zA x) ws) (hS : va_S (zA x) (zs x).heap H locs) (hp : post r ws) : ∀ t : State, t.heap = H → (zs x).WarmedH t.vm → zPst g (zA x) post (za x) (zs x) (.returned r) t :=
  fun t ht hW => ⟨⟨r, ws, rfl, hp, by rw [ht]; exact hP, va_K.moved hW.alike C.2.2.1, hD⟩, hS.F ht⟩
theorem zR_vret (C : zC x g own cc ret f) (hr : ret = none) (d : zD cc pc .return_ 1 pc') (hn1 : n.1 ≤ zmc x) (hn2 : n.2 ≤ zms x) (hp : post none ws) : zR x g post n pc lv [] ws :=
  fun H locs ls hP hD hS hl => W.widen hn1 hn2 (W.vret C.1.1 C.1.2.1 (C.2.2.2.2.2.2.1.trans hr) (zPst_end C hP hD hS hp) hS.2.2 d.1 C.2.2.2.2.2.1)
theorem zR_iret (C : zC x g own cc ret f) {ty : FieldType} {v : Int32} (hr : ret = some ty) (hnar : narrow ty (.int v) = .int v) (d : zD cc pc .ireturn 1 pc') (hn1 : n.1 ≤ zmc x) (hn2 : n.2 ≤ zms x) (hp : post (some (.int v)) ws) : zR x g post n pc lv [.int v] ws :=
  fun H locs ls hP hD hS hl => W.widen hn1 hn2 (W.zret C.1.1 C.1.2.1 (C.2.2.2.2.2.2.1.trans hr) hnar (zPst_end C hP hD hS hp) hS.2.2 d.1 C.2.2.2.2.2.1)
theorem zR_lret (C : zC x g own cc ret f) {v : Int64} (hr : ret = some .long) (d : zD cc pc .lreturn 1 pc') (hn1 : n.1 ≤ zmc x) (hn2 : n.2 ≤ zms x) (hp : post (some (.long v)) ws) : zR x g post n pc lv [.long v] ws :=
  fun H locs ls hP hD hS hl => W.widen hn1 hn2 (W.lret C.1.1 C.1.2.1 (C.2.2.2.2.2.2.1.trans hr) (zPst_end C hP hD hS hp) hS.2.2 d.1 C.2.2.2.2.2.1)
theorem zR_aret (C : zC x g own cc ret f) {a : Nat} {nm : String} (hr : ret = some (.object nm)) (d : zD cc pc .areturn 1 pc') (hn1 : n.1 ≤ zmc x) (hn2 : n.2 ≤ zms x) (hp : post (some (.ref a)) ws) : zR x g post n pc lv [.ref a] ws :=
  fun H locs ls hP hD hS hl => W.widen hn1 hn2 (W.aret C.1.1 C.1.2.1 (C.2.2.2.2.2.2.1.trans hr) (Or.inl ⟨nm, rfl⟩) (Or.inr ⟨a, rfl⟩) (zPst_end C hP hD hS hp) hS.2.2 d.1 C.2.2.2.2.2.1)
/-- what a call's contract asks at the call -/
theorem zPre_at (C : zC x g own cc ret f) {wc : va_W} {isC : List Nat} {args : List Value} (hC : isC.map (fun i => ws[i]?) = wc.map some) (hnd : va_nd isC = true) {H : Heap} {locs : List Loc} (hP : va_P g.1 vwCl ws H) (hD : va_D (zA x) ws) (hS : va_S (zA x) (zs x).heap H locs) :
    ∀ U : State, U.heap = H → (zs x).WarmedH U.vm → va_Pc args (zPre g wc H.size) args.toArray U := by
  intro U hU hW
  have hPc : va_P g.1 vwCl wc H := by
    intro k q hq
    have := congrArg (fun l => l[k]?) hC
    simp only [List.getElem?_map, hq, Option.map_some] at this
    obtain ⟨i, -, h2⟩ := Option.map_eq_some_iff.mp this
    exact hP i q h2
  exact ⟨rfl, by rw [hU], by rw [hU]; exact hPc, va_K.moved hW.alike C.2.2.1, (hD.sub isC hnd hC).weaken (fun _ _ _ _ => trivial), zN_warm hW C.2.2.2.1, by
    rw [hU]; exact C.2.2.2.2.2.2.2.2.call hW hS (va_free hD hS C.2.2.2.2.2.2.2.1 isC hC)⟩
/-- behind a call -/
theorem zR_run (C : zC x g own cc ret f) {mc ms : Nat} {wc : va_W} {isC : List Nat} {cpost : Option Value → va_W → Prop} {a : Array Value} (hC : isC.map (fun i => ws[i]?) = wc.map some)
    (hrun : ∀ (H : Heap) (locs : List Loc) (ls : Array Slot), va_P g.1 vwCl ws H → va_D (zA x) ws → va_S (zA x) (zs x).heap H locs → lv_has ls (zn x) lv →
      va_Run (zp x) (zl x) (ze x) (zRm x) (zs x) (zm x) (za x) (zb x) (zk x) (zc x) H locs n.1 n.2 mc ms (F0 (zm x) pc ls st) rest (zPst g (va_A wc H.size) cpost a) (va_A wc H.size))
    (hw : ∀ r w, cpost r w → ∃ wa wn : va_W, w = wa ++ wn ∧ wa.map Prod.fst = wc.map Prod.fst ∧ zR x g post (n.1 + mc, n.2 + ms) (pc + 3) lv (r.toList ++ rest) (zrep ws isC wa ++ wn)) : zR x g post n pc lv st ws := by
  intro H locs ls hP hD hS hl T hT X
  have hF := va_free hD hS C.2.2.2.2.2.2.2.1 isC hC
  obtain ⟨v, st₀, t, T', L, h0, X', hL, e1, e2, ⟨⟨r, w, hv, hp, hP1, hK1, hD1⟩, hz, hk⟩, stp⟩ := hrun H locs ls hP hD hS hl T hT X
  cases hv
  rw [h0] at hz hk
  obtain ⟨wa, wn, rfl, hfst, kk⟩ := hw v w hp
  have hj := zjoin hP hD isC hC hfst (fun q h1 h2 => hk q h1 h2) hF hP1 hD1
  obtain ⟨t2, a1, b1⟩ := kk T'.heap (locs ++ L) ls (by rw [e1]; exact hj.1) hj.2 ⟨Nat.le_trans hS.1 (by rw [e1]; exact hz), fun q h1 h2 => by rw [e1, hk q (Nat.lt_of_lt_of_le h1 hS.1) (fun z => h2 (hF q z))]; exact hS.2.1 q h1 h2, fun q hq => by
      rcases List.mem_append.mp hq with h | h
      · exact hS.2.2 q h
      · exact hF _ (hL q h)⟩ hl T' rfl X'
  exact ⟨t2, stp t2 a1, b1⟩
theorem zCallB (C : zC x g own cc ret f) {idx : Nat} {y : MethodName} {cc' : ByteArray} {nL' : Nat} {ret' : Option FieldType} {f' mc ms nn : Nat} (K : zK0 y cc' nL' ret' nn) (hl : Cond.methodLink own idx y ∈ zTBL) (hf : f' + 1 ≤ f) (hnl : nL' ≤ 17) :
    CallB (zRm x) (zs x) (za x) own idx y cc' nL' ret' (.code y cc' nL' ret' :: zTBL) (zrm f' mc ms) mc ms nn := by
  obtain ⟨k1, k2, k3, k4⟩ := K
  rw [C.2.2.2.2.1]
  exact ⟨rfl, rfl, hf, (show 8 + (nL' + 11) + 36 * f' ≤ 36 * f by omega), pay_in C.2.1 (zGood k1), List.mem_cons_self, C.2.1 _ k1, C.2.1 _ k2, k3, fun sig h => by rw [h] at k4; exact (Option.some.inj k4).symm, C.2.1 _ hl⟩
theorem zCallN (C : zC x g own cc ret f) {idx : Nat} {y : MethodName} {cc' : ByteArray} {nL' : Nat} {ret' : Option FieldType} {f' mc ms nn : Nat} {host : String} (K : zK0 y cc' nL' ret' nn) (hl : Cond.methodLinkNest own idx y host ∈ zNST) (hf : f' + 1 ≤ f) (hnl : nL' ≤ 17) :
    va_CN (zRm x) (zs x) (za x) own idx y host cc' nL' ret' (.code y cc' nL' ret' :: zTBL) (zrm f' mc ms) mc ms nn := by
  obtain ⟨k1, k2, k3, k4⟩ := K
  rw [C.2.2.2.2.1]
  exact ⟨⟨rfl, rfl, hf, (show 8 + (nL' + 11) + 36 * f' ≤ 36 * f by omega), pay_in C.2.1 (zGood k1), List.mem_cons_self⟩, C.2.1 _ k1, C.2.1 _ k2, k3, fun sig h => by rw [h] at k4; exact (Option.some.inj k4).symm, va_Nw.use rfl (C.2.2.2.1 _ hl)⟩
theorem zFits (C : zC x g own cc ret f) {mc ms : Nat} (h1 : n.1 + mc ≤ zmc x) (h2 : n.2 + ms ≤ zms x) : n.1 + mc ≤ (zRm x).cells ∧ n.2 + ms ≤ (zRm x).slots := by
  rw [C.2.2.2.2.1]; exact ⟨h1, h2⟩
/-- invokevirtual, any contract -/
theorem zR_callV0 (C : zC x g own cc ret f) {idx : Nat} {y : MethodName} {cc' : ByteArray} {nL' : Nat} {ret' : Option FieldType} {f' mc ms nn : Nat} {b : Nat} {As : List Value} {wc : va_W} {cpost : Option Value → va_W → Prop} (K : zKv own idx y cc' nL' ret' nn) (d : zD cc pc (.invokevirtual idx) 3 pc')
    (M : zM (zl x) g y cc' nL' ret' f' mc ms (.ref b :: As) wc cpost) (q0 ci : Nat) {fs : List Value} (he : ws[q0]? = some (b, .inr (ci, fs))) {rw : vw_C} (hci : vwCl[ci]? = some rw) (hcl : rw.1 = y.cls) (isC : List Nat) (hC : isC.map (fun i => ws[i]?) = wc.map some) (hnd : va_nd isC = true)
    (hst : st = As.reverse ++ .ref b :: rest) (hn : As.length = nn) (hf : f' + 1 ≤ f) (hnl : nL' ≤ 17) (hcat : (rest.map fun v => v.category).sum ≤ 8) (hr1 : n.1 + mc ≤ zmc x) (hr2 : n.2 + ms ≤ zms x)
    (hw : ∀ r w, cpost r w → ∃ wa wn : va_W, w = wa ++ wn ∧ wa.map Prod.fst = wc.map Prod.fst ∧ zR x g post (n.1 + mc, n.2 + ms) pc' lv (r.toList ++ rest) (zrep ws isC wa ++ wn)) : zR x g post n pc lv st ws := by
  obtain ⟨d, rfl⟩ := d
  obtain ⟨K0, hl | ⟨host, hl⟩, ki, ks⟩ := K
  · exact zR_run C hC (fun H locs ls hP hD hS hl' => va_runV ⟨C.1.1, C.1.2.1, C.1.2.2.1, C.1.2.2.2, C.2.1⟩ (M H.size) ⟨zCallB C K0 hl hf hnl, C.2.1 _ ki, C.2.1 _ ks⟩ ⟨zPre_blind, by rw [← hcl]; exact va_recv C.2.2.1 hP hci he, zPre_at C hC hnd hP hD hS⟩ rfl hn hl'.1 hst (lv_room hcat) d (zFits C hr1 hr2)) hw
  · exact zR_run C hC (fun H locs ls hP hD hS hl' => va_runVN ⟨C.1.1, C.1.2.1, C.1.2.2.1, C.1.2.2.2, C.2.1⟩ (M H.size) ⟨zCallN C K0 hl hf hnl, C.2.1 _ ki, C.2.1 _ ks⟩ ⟨zPre_blind, by rw [← hcl]; exact va_recv C.2.2.1 hP hci he, zPre_at C hC hnd hP hD hS⟩ rfl hn hl'.1 hst (lv_room hcat) d (zFits C hr1 hr2)) hw
theorem zR_callS0 (C : zC x g own cc ret f) {idx : Nat} {y : MethodName} {cc' : ByteArray} {nL' : Nat} {ret' : Option FieldType} {f' mc ms nn : Nat} {As : List Value} {wc : va_W} {cpost : Option Value → va_W → Prop} (K : zKs own idx y cc' nL' ret' nn) (d : zD cc pc (.invokestatic idx) 3 pc')
    (M : zM (zl x) g y cc' nL' ret' f' mc ms As wc cpost) (isC : List Nat) (hC : isC.map (fun i => ws[i]?) = wc.map some) (hnd : va_nd isC = true)
    (hst : st = As.reverse ++ rest) (hn : As.length = nn) (hf : f' + 1 ≤ f) (hnl : nL' ≤ 17) (hcat : (rest.map fun v => v.category).sum ≤ 8) (hr1 : n.1 + mc ≤ zmc x) (hr2 : n.2 + ms ≤ zms x)
    (hw : ∀ r w, cpost r w → ∃ wa wn : va_W, w = wa ++ wn ∧ wa.map Prod.fst = wc.map Prod.fst ∧ zR x g post (n.1 + mc, n.2 + ms) pc' lv (r.toList ++ rest) (zrep ws isC wa ++ wn)) : zR x g post n pc lv st ws := by
  obtain ⟨d, rfl⟩ := d
  obtain ⟨K0, hl | ⟨host, hl⟩, ks⟩ := K
  · exact zR_run C hC (fun H locs ls hP hD hS hl' => va_runS ⟨C.1.1, C.1.2.1, C.1.2.2.1, C.1.2.2.2, C.2.1⟩ (M H.size) ⟨zCallB C K0 hl hf hnl, C.2.1 _ ks⟩ ⟨zPre_blind, zPre_at C hC hnd hP hD hS⟩ rfl hn hl'.1 hst (lv_room hcat) d (zFits C hr1 hr2)) hw
  · exact zR_run C hC (fun H locs ls hP hD hS hl' => va_runSN ⟨C.1.1, C.1.2.1, C.1.2.2.1, C.1.2.2.2, C.2.1⟩ (M H.size) ⟨zCallN C K0 hl hf hnl, C.2.1 _ ks, trivial⟩ ⟨zPre_blind, zPre_at C hC hnd hP hD hS⟩ rfl hn hl'.1 hst (lv_room hcat) d (zFits C hr1 hr2)) hw
theorem zR_callI0 (C : zC x g own cc ret f) {idx : Nat} {y : MethodName} {cc' : ByteArray} {nL' : Nat} {f' mc ms nn : Nat} {b : Nat} {As : List Value} {wc : va_W} {cpost : Option Value → va_W → Prop} (K : zKi own idx y cc' nL' nn) (d : zD cc pc (.invokespecial idx) 3 pc')
    (M : zM (zl x) g y cc' nL' none f' mc ms (.ref b :: As) wc cpost) (isC : List Nat) (hC : isC.map (fun i => ws[i]?) = wc.map some) (hnd : va_nd isC = true)
    (hst : st = As.reverse ++ .ref b :: rest) (hn : As.length = nn) (hf : f' + 1 ≤ f) (hnl : nL' ≤ 17) (hcat : (rest.map fun v => v.category).sum ≤ 8) (hr1 : n.1 + mc ≤ zmc x) (hr2 : n.2 + ms ≤ zms x)
    (hw : ∀ r w, cpost r w → ∃ wa wn : va_W, w = wa ++ wn ∧ wa.map Prod.fst = wc.map Prod.fst ∧ zR x g post (n.1 + mc, n.2 + ms) pc' lv (r.toList ++ rest) (zrep ws isC wa ++ wn)) : zR x g post n pc lv st ws := by
  obtain ⟨d, rfl⟩ := d
  obtain ⟨K0, hl | ⟨host, hl⟩, ki, kn⟩ := K
  · exact zR_run C hC (fun H locs ls hP hD hS hl' => va_runI ⟨C.1.1, C.1.2.1, C.1.2.2.1, C.1.2.2.2, C.2.1⟩ (M H.size) ⟨zCallB C K0 hl hf hnl, kn, C.2.1 _ ki⟩ ⟨zPre_blind, zPre_at C hC hnd hP hD hS⟩ rfl hn hl'.1 hst (lv_room hcat) d (zFits C hr1 hr2)) hw
  · exact zR_run C hC (fun H locs ls hP hD hS hl' => va_runIN ⟨C.1.1, C.1.2.1, C.1.2.2.1, C.1.2.2.2, C.2.1⟩ (M H.size) ⟨zCallN C K0 hl hf hnl, kn, C.2.1 _ ki⟩ ⟨zPre_blind, zPre_at C hC hnd hP hD hS⟩ rfl hn hl'.1 hst (lv_room hcat) d (zFits C hr1 hr2)) hw
/-- invokevirtual of a contract that tells its answer and its cells -/
theorem zR_callV (C : zC x g own cc ret f) {idx : Nat} {y : MethodName} {cc' : ByteArray} {nL' : Nat} {ret' : Option FieldType} {f' nn : Nat} {b : Nat} {As : List Value} {wc w0 ws1 : va_W} {r0 : Option Value} (K : zKv own idx y cc' nL' ret' nn) (d : zD cc pc (.invokevirtual idx) 3 pc')
    (M : zM (zl x) g y cc' nL' ret' f' 0 0 (.ref b :: As) wc (zE r0 w0)) (hst : st = As.reverse ++ .ref b :: rest) (q0 ci : Nat) {fs : List Value} (he : ws[q0]? = some (b, .inr (ci, fs))) {rw : vw_C} (hci : vwCl[ci]? = some rw) (hcl : rw.1 = y.cls) (isC : List Nat) (hC : isC.map (fun i => ws[i]?) = wc.map some) (hnd : va_nd isC = true)
    (hn : As.length = nn) (hf : f' + 1 ≤ f) (hnl : nL' ≤ 17) (hcat : (rest.map fun v => v.category).sum ≤ 8) (hr1 : n.1 ≤ zmc x) (hr2 : n.2 ≤ zms x) (hfst : w0.map Prod.fst = wc.map Prod.fst) (hw : zrep ws isC w0 = ws1)
    (k : zR x g post n pc' lv (r0.toList ++ rest) ws1) : zR x g post n pc lv st ws :=
  zR_callV0 C K d M q0 ci he hci hcl isC hC hnd hst hn hf hnl hcat hr1 hr2 (fun r w h => ⟨w, [], (List.append_nil _).symm, by rw [h.2]; exact hfst, by rw [List.append_nil, h.1, h.2, hw]; exact k⟩)
theorem zR_callS (C : zC x g own cc ret f) {idx : Nat} {y : MethodName} {cc' : ByteArray} {nL' : Nat} {ret' : Option FieldType} {f' nn : Nat} {As : List Value} {r0 : Option Value} (K : zKs own idx y cc' nL' ret' nn) (d : zD cc pc (.invokestatic idx) 3 pc')
    (M : zM (zl x) g y cc' nL' ret' f' 0 0 As [] (zE r0 [])) (hst : st = As.reverse ++ rest) (hn : As.length = nn) (hf : f' + 1 ≤ f) (hnl : nL' ≤ 17) (hcat : (rest.map fun v => v.category).sum ≤ 8) (hr1 : n.1 ≤ zmc x) (hr2 : n.2 ≤ zms x)
    (k : zR x g post n pc' lv (r0.toList ++ rest) ws) : zR x g post n pc lv st ws :=
  zR_callS0 C K d M [] rfl rfl hst hn hf hnl hcat hr1 hr2 (fun r w h => ⟨[], [], by rw [h.2]; rfl, rfl, by rw [List.append_nil, h.1]; exact k⟩)
def zKm (own : String) (idx : Nat) (y : MethodName) (cc : ByteArray) (nL : Nat) (ret : Option FieldType) : Prop := Cond.methodLink own idx y ∈ zTBL ∧ Cond.static y ∈ zTBL ∧ Cond.initialized "java/lang/Math" ∈ zTBL ∧ Cond.code y cc nL ret ∈ zTBL
theorem zlv_size {ls : Array Slot} {nL : Nat} {lv : List (Nat × Value)} (h : lv_has ls nL lv) : nL = ls.size := h.1.symm
theorem zR_mmaxi (C : zC x g own cc ret f) {idx : Nat} {a b : Int32} (K : zKm own idx Lib.Math.max.name Lib.Math.max.code 2 (some .int)) (d : zD cc pc (.invokestatic idx) 3 pc') (hf : 1 ≤ f) (hcat : (st.map fun v => v.category).sum ≤ 8) (hr1 : n.1 ≤ zmc x) (hr2 : n.2 ≤ zms x) (k : zR x g post n pc' lv (.int (if a < b then b else a) :: st) ws) : zR x g post n pc lv (.int b :: .int a :: st) ws := by
  obtain ⟨d, rfl⟩ := d
  obtain ⟨k1, k2, k3, k4⟩ := K
  have hR := C.2.2.2.2.1
  exact fun H locs ls hP hD hS hl => va_mmax C.1.1 C.1.2.1 (C.1.2.2.1.trans (zlv_size hl)) C.1.2.2.2 (C.2.1 _ k1) (C.2.1 _ k2) (C.2.1 _ k3) (C.2.1 _ k4) (by rw [hR]; exact hf) (by rw [hR]; show _ ≤ 36 * f; omega) (by rw [hR]; exact hr1) (by rw [hR]; exact hr2) d (k H locs ls hP hD hS hl)
theorem zR_mmaxl (C : zC x g own cc ret f) {idx : Nat} {a b : Int64} (K : zKm own idx Lib.MathLoose.max_long.x Lib.MathLoose.max_long.code 4 (some .long)) (d : zD cc pc (.invokestatic idx) 3 pc') (hf : 1 ≤ f) (hcat : (st.map fun v => v.category).sum ≤ 8) (hr1 : n.1 ≤ zmc x) (hr2 : n.2 ≤ zms x) (k : zR x g post n pc' lv (.long (if b < a then a else b) :: st) ws) : zR x g post n pc lv (.long b :: .long a :: st) ws := by
  obtain ⟨d, rfl⟩ := d
  obtain ⟨k1, k2, k3, k4⟩ := K
  have hR := C.2.2.2.2.1
  exact fun H locs ls hP hD hS hl => va_mmax_long C.1.1 C.1.2.1 (C.1.2.2.1.trans (zlv_size hl)) C.1.2.2.2 (C.2.1 _ k1) (C.2.1 _ k2) (C.2.1 _ k3) (C.2.1 _ k4) (by rw [hR]; exact hf) (by rw [hR]; show _ ≤ 36 * f; omega) (by rw [hR]; exact hr1) (by rw [hR]; exact hr2) d (k H locs ls hP hD hS hl)
theorem zR_mminl (C : zC x g own cc ret f) {idx : Nat} {a b : Int64} (K : zKm own idx Lib.MathLoose.min_long.x Lib.MathLoose.min_long.code 4 (some .long)) (d : zD cc pc (.invokestatic idx) 3 pc') (hf : 1 ≤ f) (hcat : (st.map fun v => v.category).sum ≤ 8) (hr1 : n.1 ≤ zmc x) (hr2 : n.2 ≤ zms x) (k : zR x g post n pc' lv (.long (if b < a then b else a) :: st) ws) : zR x g post n pc lv (.long b :: .long a :: st) ws := by
  obtain ⟨d, rfl⟩ := d
  obtain ⟨k1, k2, k3, k4⟩ := K
  have hR := C.2.2.2.2.1
  exact fun H locs ls hP hD hS hl => va_mmin_long C.1.1 C.1.2.1 (C.1.2.2.1.trans (zlv_size hl)) C.1.2.2.2 (C.2.1 _ k1) (C.2.1 _ k2) (C.2.1 _ k3) (C.2.1 _ k4) (by rw [hR]; exact hf) (by rw [hR]; show _ ≤ 36 * f; omega) (by rw [hR]; exact hr1) (by rw [hR]; exact hr2) d (k H locs ls hP hD hS hl)
theorem zR_mmini (C : zC x g own cc ret f) {idx : Nat} {a b : Int32} (K : zKm own idx Lib.Math.min.name Lib.Math.min.code 2 (some .int)) (d : zD cc pc (.invokestatic idx) 3 pc') (hf : 1 ≤ f) (hcat : (st.map fun v => v.category).sum ≤ 8) (hr1 : n.1 ≤ zmc x) (hr2 : n.2 ≤ zms x) (k : zR x g post n pc' lv (.int (if b < a then b else a) :: st) ws) : zR x g post n pc lv (.int b :: .int a :: st) ws := by
  obtain ⟨d, rfl⟩ := d
  obtain ⟨k1, k2, k3, k4⟩ := K
  have hR := C.2.2.2.2.1
  exact fun H locs ls hP hD hS hl => va_mmin C.1.1 C.1.2.1 (C.1.2.2.1.trans (zlv_size hl)) C.1.2.2.2 (C.2.1 _ k1) (C.2.1 _ k2) (C.2.1 _ k3) (C.2.1 _ k4) (by rw [hR]; exact hf) (by rw [hR]; show _ ≤ 36 * f; omega) (by rw [hR]; exact hr1) (by rw [hR]; exact hr2) d (k H locs ls hP hD hS hl)
end ZR2
end
section
/-! Link rows: fields, methods, constants by the places in the class files. -/
theorem uX0 : ∀ w ∈ u_ws RX0 TX0 3, w ∈ zTBL := by decide +kernel
theorem uX1 : ∀ w ∈ u_ws RX1 TX1 14, w ∈ zTBL := by decide +kernel
theorem uX2 : ∀ w ∈ u_ws RX2 TX2 6, w ∈ zTBL := by decide +kernel
theorem uX3 : ∀ w ∈ u_ws RX3 TX3 6, w ∈ zTBL := by decide +kernel
theorem uX4 : ∀ w ∈ u_ws RX4 TX4 9, w ∈ zTBL := by decide +kernel
theorem uX5 : ∀ w ∈ u_ws RX5 TX5 7, w ∈ zTBL := by decide +kernel
theorem uX6 : ∀ w ∈ u_ws RX6 TX6 14, w ∈ zTBL := by decide +kernel
theorem kL_9 : zKi RL 9 yX5_init cX5_init 2 0 := ⟨⟨(zT_in 119 (by decide +kernel) rfl), (zT_in 102 (by decide +kernel) rfl), ⟨by decide +kernel, by decide +kernel⟩, by decide +kernel⟩, Or.inl (zT_in 117 (by decide +kernel) rfl), (zT_in 118 (by decide +kernel) rfl), rfl⟩
theorem kL_12 : zKi RL 12 yX6_init cX6_init 1 0 := ⟨⟨(zT_in 796 (by decide +kernel) rfl), (zT_in 108 (by decide +kernel) rfl), ⟨by decide +kernel, by decide +kernel⟩, by decide +kernel⟩, Or.inl (zT_in 794 (by decide +kernel) rfl), (zT_in 795 (by decide +kernel) rfl), rfl⟩
theorem kL_13 : zKv RL 13 yX5_set cX5_set 4 (some .int) 2 := ⟨⟨(zT_in 353 (by decide +kernel) rfl), (zT_in 102 (by decide +kernel) rfl), ⟨by decide +kernel, by decide +kernel⟩, by decide +kernel⟩, Or.inl (zT_in 350 (by decide +kernel) rfl), (zT_in 351 (by decide +kernel) rfl), (zT_in 352 (by decide +kernel) rfl)⟩
theorem kL_17 : zKv RL 17 yX6_set cX6_set 4 (some .int) 2 := ⟨⟨(zT_in 877 (by decide +kernel) rfl), (zT_in 108 (by decide +kernel) rfl), ⟨by decide +kernel, by decide +kernel⟩, by decide +kernel⟩, Or.inl (zT_in 874 (by decide +kernel) rfl), (zT_in 875 (by decide +kernel) rfl), (zT_in 876 (by decide +kernel) rfl)⟩
theorem kL_18 : zKv RL 18 yX5_service cX5_service 2 (some .int) 1 := ⟨⟨(zT_in 393 (by decide +kernel) rfl), (zT_in 102 (by decide +kernel) rfl), ⟨by decide +kernel, by decide +kernel⟩, by decide +kernel⟩, Or.inl (zT_in 390 (by decide +kernel) rfl), (zT_in 391 (by decide +kernel) rfl), (zT_in 392 (by decide +kernel) rfl)⟩
theorem kL_22 : zKv RL 22 yX6_service cX6_service 3 (some .int) 1 := ⟨⟨(zT_in 890 (by decide +kernel) rfl), (zT_in 108 (by decide +kernel) rfl), ⟨by decide +kernel, by decide +kernel⟩, by decide +kernel⟩, Or.inl (zT_in 887 (by decide +kernel) rfl), (zT_in 888 (by decide +kernel) rfl), (zT_in 889 (by decide +kernel) rfl)⟩
theorem kL_23 : zKv RL 23 yX5_budget cX5_budget 4 (some .int) 2 := ⟨⟨(zT_in 421 (by decide +kernel) rfl), (zT_in 102 (by decide +kernel) rfl), ⟨by decide +kernel, by decide +kernel⟩, by decide +kernel⟩, Or.inl (zT_in 418 (by decide +kernel) rfl), (zT_in 419 (by decide +kernel) rfl), (zT_in 420 (by decide +kernel) rfl)⟩
theorem kL_26 : zKv RL 26 yX6_budget cX6_budget 4 (some .int) 2 := ⟨⟨(zT_in 902 (by decide +kernel) rfl), (zT_in 108 (by decide +kernel) rfl), ⟨by decide +kernel, by decide +kernel⟩, by decide +kernel⟩, Or.inl (zT_in 899 (by decide +kernel) rfl), (zT_in 900 (by decide +kernel) rfl), (zT_in 901 (by decide +kernel) rfl)⟩
theorem kL_27 : zKv RL 27 yX5_outage cX5_outage 4 (some .int) 3 := ⟨⟨(zT_in 429 (by decide +kernel) rfl), (zT_in 102 (by decide +kernel) rfl), ⟨by decide +kernel, by decide +kernel⟩, by decide +kernel⟩, Or.inl (zT_in 426 (by decide +kernel) rfl), (zT_in 427 (by decide +kernel) rfl), (zT_in 428 (by decide +kernel) rfl)⟩
theorem kL_31 : zKv RL 31 yX6_outage cX6_outage 5 (some .int) 3 := ⟨⟨(zT_in 910 (by decide +kernel) rfl), (zT_in 108 (by decide +kernel) rfl), ⟨by decide +kernel, by decide +kernel⟩, by decide +kernel⟩, Or.inl (zT_in 907 (by decide +kernel) rfl), (zT_in 908 (by decide +kernel) rfl), (zT_in 909 (by decide +kernel) rfl)⟩
theorem kL_32 : zKv RL 32 yX5_release cX5_release 4 (some .int) 3 := ⟨⟨(zT_in 439 (by decide +kernel) rfl), (zT_in 102 (by decide +kernel) rfl), ⟨by decide +kernel, by decide +kernel⟩, by decide +kernel⟩, Or.inl (zT_in 436 (by decide +kernel) rfl), (zT_in 437 (by decide +kernel) rfl), (zT_in 438 (by decide +kernel) rfl)⟩
theorem kL_35 : zKv RL 35 yX6_release cX6_release 5 (some .int) 3 := ⟨⟨(zT_in 939 (by decide +kernel) rfl), (zT_in 108 (by decide +kernel) rfl), ⟨by decide +kernel, by decide +kernel⟩, by decide +kernel⟩, Or.inl (zT_in 936 (by decide +kernel) rfl), (zT_in 937 (by decide +kernel) rfl), (zT_in 938 (by decide +kernel) rfl)⟩
theorem kL_36 : zKv RL 36 yX5_lend cX5_lend 5 (some .int) 4 := ⟨⟨(zT_in 455 (by decide +kernel) rfl), (zT_in 102 (by decide +kernel) rfl), ⟨by decide +kernel, by decide +kernel⟩, by decide +kernel⟩, Or.inl (zT_in 452 (by decide +kernel) rfl), (zT_in 453 (by decide +kernel) rfl), (zT_in 454 (by decide +kernel) rfl)⟩
theorem kL_40 : zKv RL 40 yX6_lend cX6_lend 6 (some .int) 4 := ⟨⟨(zT_in 960 (by decide +kernel) rfl), (zT_in 108 (by decide +kernel) rfl), ⟨by decide +kernel, by decide +kernel⟩, by decide +kernel⟩, Or.inl (zT_in 957 (by decide +kernel) rfl), (zT_in 958 (by decide +kernel) rfl), (zT_in 959 (by decide +kernel) rfl)⟩
theorem kL_41 : zKv RL 41 yX5_repay cX5_repay 3 (some .int) 1 := ⟨⟨(zT_in 479 (by decide +kernel) rfl), (zT_in 102 (by decide +kernel) rfl), ⟨by decide +kernel, by decide +kernel⟩, by decide +kernel⟩, Or.inl (zT_in 476 (by decide +kernel) rfl), (zT_in 477 (by decide +kernel) rfl), (zT_in 478 (by decide +kernel) rfl)⟩
theorem kL_44 : zKv RL 44 yX6_repay cX6_repay 3 (some .int) 1 := ⟨⟨(zT_in 985 (by decide +kernel) rfl), (zT_in 108 (by decide +kernel) rfl), ⟨by decide +kernel, by decide +kernel⟩, by decide +kernel⟩, Or.inl (zT_in 982 (by decide +kernel) rfl), (zT_in 983 (by decide +kernel) rfl), (zT_in 984 (by decide +kernel) rfl)⟩
theorem kL_45 : zKv RL 45 yX5_plan cX5_plan 5 (some .int) 4 := ⟨⟨(zT_in 498 (by decide +kernel) rfl), (zT_in 102 (by decide +kernel) rfl), ⟨by decide +kernel, by decide +kernel⟩, by decide +kernel⟩, Or.inl (zT_in 495 (by decide +kernel) rfl), (zT_in 496 (by decide +kernel) rfl), (zT_in 497 (by decide +kernel) rfl)⟩
theorem kL_48 : zKv RL 48 yX6_plan cX6_plan 6 (some .int) 4 := ⟨⟨(zT_in 1001 (by decide +kernel) rfl), (zT_in 108 (by decide +kernel) rfl), ⟨by decide +kernel, by decide +kernel⟩, by decide +kernel⟩, Or.inl (zT_in 998 (by decide +kernel) rfl), (zT_in 999 (by decide +kernel) rfl), (zT_in 1000 (by decide +kernel) rfl)⟩
theorem kL_49 : zKv RL 49 yX5_drop cX5_drop 2 (some .int) 1 := ⟨⟨(zT_in 518 (by decide +kernel) rfl), (zT_in 102 (by decide +kernel) rfl), ⟨by decide +kernel, by decide +kernel⟩, by decide +kernel⟩, Or.inl (zT_in 515 (by decide +kernel) rfl), (zT_in 516 (by decide +kernel) rfl), (zT_in 517 (by decide +kernel) rfl)⟩
theorem kL_52 : zKv RL 52 yX6_drop cX6_drop 2 (some .int) 1 := ⟨⟨(zT_in 1018 (by decide +kernel) rfl), (zT_in 108 (by decide +kernel) rfl), ⟨by decide +kernel, by decide +kernel⟩, by decide +kernel⟩, Or.inl (zT_in 1015 (by decide +kernel) rfl), (zT_in 1016 (by decide +kernel) rfl), (zT_in 1017 (by decide +kernel) rfl)⟩
theorem kL_53 : zKv RL 53 yX5_hours cX5_hours 2 (some .int) 1 := ⟨⟨(zT_in 538 (by decide +kernel) rfl), (zT_in 102 (by decide +kernel) rfl), ⟨by decide +kernel, by decide +kernel⟩, by decide +kernel⟩, Or.inl (zT_in 535 (by decide +kernel) rfl), (zT_in 536 (by decide +kernel) rfl), (zT_in 537 (by decide +kernel) rfl)⟩
theorem kL_56 : zKv RL 56 yX6_hours cX6_hours 2 (some .int) 1 := ⟨⟨(zT_in 1034 (by decide +kernel) rfl), (zT_in 108 (by decide +kernel) rfl), ⟨by decide +kernel, by decide +kernel⟩, by decide +kernel⟩, Or.inl (zT_in 1031 (by decide +kernel) rfl), (zT_in 1032 (by decide +kernel) rfl), (zT_in 1033 (by decide +kernel) rfl)⟩
theorem kL_57 : zKv RL 57 yX5_ofService cX5_ofService 4 (some .int) 2 := ⟨⟨(zT_in 575 (by decide +kernel) rfl), (zT_in 102 (by decide +kernel) rfl), ⟨by decide +kernel, by decide +kernel⟩, by decide +kernel⟩, Or.inl (zT_in 572 (by decide +kernel) rfl), (zT_in 573 (by decide +kernel) rfl), (zT_in 574 (by decide +kernel) rfl)⟩
theorem kL_60 : zKv RL 60 yX6_ofService cX6_ofService 3 (some .int) 2 := ⟨⟨(zT_in 1072 (by decide +kernel) rfl), (zT_in 108 (by decide +kernel) rfl), ⟨by decide +kernel, by decide +kernel⟩, by decide +kernel⟩, Or.inl (zT_in 1069 (by decide +kernel) rfl), (zT_in 1070 (by decide +kernel) rfl), (zT_in 1071 (by decide +kernel) rfl)⟩
theorem kL_61 : zKv RL 61 yX5_account cX5_account 3 (some .long) 2 := ⟨⟨(zT_in 588 (by decide +kernel) rfl), (zT_in 102 (by decide +kernel) rfl), ⟨by decide +kernel, by decide +kernel⟩, by decide +kernel⟩, Or.inl (zT_in 585 (by decide +kernel) rfl), (zT_in 586 (by decide +kernel) rfl), (zT_in 587 (by decide +kernel) rfl)⟩
theorem kL_65 : zKv RL 65 yX6_account cX6_account 3 (some .long) 2 := ⟨⟨(zT_in 1084 (by decide +kernel) rfl), (zT_in 108 (by decide +kernel) rfl), ⟨by decide +kernel, by decide +kernel⟩, by decide +kernel⟩, Or.inl (zT_in 1081 (by decide +kernel) rfl), (zT_in 1082 (by decide +kernel) rfl), (zT_in 1083 (by decide +kernel) rfl)⟩
theorem kL_66 : zKv RL 66 yX5_ofLoan cX5_ofLoan 4 (some .int) 2 := ⟨⟨(zT_in 595 (by decide +kernel) rfl), (zT_in 102 (by decide +kernel) rfl), ⟨by decide +kernel, by decide +kernel⟩, by decide +kernel⟩, Or.inl (zT_in 592 (by decide +kernel) rfl), (zT_in 593 (by decide +kernel) rfl), (zT_in 594 (by decide +kernel) rfl)⟩
theorem kL_69 : zKv RL 69 yX6_ofLoan cX6_ofLoan 3 (some .int) 2 := ⟨⟨(zT_in 1091 (by decide +kernel) rfl), (zT_in 108 (by decide +kernel) rfl), ⟨by decide +kernel, by decide +kernel⟩, by decide +kernel⟩, Or.inl (zT_in 1088 (by decide +kernel) rfl), (zT_in 1089 (by decide +kernel) rfl), (zT_in 1090 (by decide +kernel) rfl)⟩
theorem kL_70 : zKv RL 70 yX5_ofPlan cX5_ofPlan 4 (some .int) 2 := ⟨⟨(zT_in 599 (by decide +kernel) rfl), (zT_in 102 (by decide +kernel) rfl), ⟨by decide +kernel, by decide +kernel⟩, by decide +kernel⟩, Or.inl (zT_in 596 (by decide +kernel) rfl), (zT_in 597 (by decide +kernel) rfl), (zT_in 598 (by decide +kernel) rfl)⟩
theorem kL_73 : zKv RL 73 yX6_ofPlan cX6_ofPlan 3 (some .int) 2 := ⟨⟨(zT_in 1095 (by decide +kernel) rfl), (zT_in 108 (by decide +kernel) rfl), ⟨by decide +kernel, by decide +kernel⟩, by decide +kernel⟩, Or.inl (zT_in 1092 (by decide +kernel) rfl), (zT_in 1093 (by decide +kernel) rfl), (zT_in 1094 (by decide +kernel) rfl)⟩
theorem kL_74 : zKv RL 74 yX5_count cX5_count 3 (some .int) 1 := ⟨⟨(zT_in 603 (by decide +kernel) rfl), (zT_in 102 (by decide +kernel) rfl), ⟨by decide +kernel, by decide +kernel⟩, by decide +kernel⟩, Or.inl (zT_in 600 (by decide +kernel) rfl), (zT_in 601 (by decide +kernel) rfl), (zT_in 602 (by decide +kernel) rfl)⟩
theorem kL_77 : zKv RL 77 yX6_count cX6_count 2 (some .int) 1 := ⟨⟨(zT_in 1099 (by decide +kernel) rfl), (zT_in 108 (by decide +kernel) rfl), ⟨by decide +kernel, by decide +kernel⟩, by decide +kernel⟩, Or.inl (zT_in 1096 (by decide +kernel) rfl), (zT_in 1097 (by decide +kernel) rfl), (zT_in 1098 (by decide +kernel) rfl)⟩
theorem kL_78 : zKv RL 78 yX5_leftIn cX5_leftIn 3 (some .long) 2 := ⟨⟨(zT_in 607 (by decide +kernel) rfl), (zT_in 102 (by decide +kernel) rfl), ⟨by decide +kernel, by decide +kernel⟩, by decide +kernel⟩, Or.inl (zT_in 604 (by decide +kernel) rfl), (zT_in 605 (by decide +kernel) rfl), (zT_in 606 (by decide +kernel) rfl)⟩
theorem kL_81 : zKv RL 81 yX6_leftIn cX6_leftIn 5 (some .long) 2 := ⟨⟨(zT_in 1108 (by decide +kernel) rfl), (zT_in 108 (by decide +kernel) rfl), ⟨by decide +kernel, by decide +kernel⟩, by decide +kernel⟩, Or.inl (zT_in 1105 (by decide +kernel) rfl), (zT_in 1106 (by decide +kernel) rfl), (zT_in 1107 (by decide +kernel) rfl)⟩
theorem kL_82 : zKv RL 82 yX5_frozenIn cX5_frozenIn 2 (some .int) 1 := ⟨⟨(zT_in 612 (by decide +kernel) rfl), (zT_in 102 (by decide +kernel) rfl), ⟨by decide +kernel, by decide +kernel⟩, by decide +kernel⟩, Or.inl (zT_in 609 (by decide +kernel) rfl), (zT_in 610 (by decide +kernel) rfl), (zT_in 611 (by decide +kernel) rfl)⟩
theorem kL_85 : zKv RL 85 yX6_frozenIn cX6_frozenIn 2 (some .int) 1 := ⟨⟨(zT_in 1112 (by decide +kernel) rfl), (zT_in 108 (by decide +kernel) rfl), ⟨by decide +kernel, by decide +kernel⟩, by decide +kernel⟩, Or.inl (zT_in 1109 (by decide +kernel) rfl), (zT_in 1110 (by decide +kernel) rfl), (zT_in 1111 (by decide +kernel) rfl)⟩
theorem kL_86 : zKv RL 86 yX5_thawsIn cX5_thawsIn 2 (some .int) 1 := ⟨⟨(zT_in 620 (by decide +kernel) rfl), (zT_in 102 (by decide +kernel) rfl), ⟨by decide +kernel, by decide +kernel⟩, by decide +kernel⟩, Or.inl (zT_in 617 (by decide +kernel) rfl), (zT_in 618 (by decide +kernel) rfl), (zT_in 619 (by decide +kernel) rfl)⟩
theorem kL_89 : zKv RL 89 yX6_thawsIn cX6_thawsIn 2 (some .int) 1 := ⟨⟨(zT_in 1120 (by decide +kernel) rfl), (zT_in 108 (by decide +kernel) rfl), ⟨by decide +kernel, by decide +kernel⟩, by decide +kernel⟩, Or.inl (zT_in 1117 (by decide +kernel) rfl), (zT_in 1118 (by decide +kernel) rfl), (zT_in 1119 (by decide +kernel) rfl)⟩
theorem kL_90 : zKv RL 90 yX5_doneAt cX5_doneAt 3 (some .int) 1 := ⟨⟨(zT_in 624 (by decide +kernel) rfl), (zT_in 102 (by decide +kernel) rfl), ⟨by decide +kernel, by decide +kernel⟩, by decide +kernel⟩, Or.inl (zT_in 621 (by decide +kernel) rfl), (zT_in 622 (by decide +kernel) rfl), (zT_in 623 (by decide +kernel) rfl)⟩
theorem kL_93 : zKv RL 93 yX6_doneAt cX6_doneAt 3 (some .int) 1 := ⟨⟨(zT_in 1124 (by decide +kernel) rfl), (zT_in 108 (by decide +kernel) rfl), ⟨by decide +kernel, by decide +kernel⟩, by decide +kernel⟩, Or.inl (zT_in 1121 (by decide +kernel) rfl), (zT_in 1122 (by decide +kernel) rfl), (zT_in 1123 (by decide +kernel) rfl)⟩
theorem kL_94 : zKv RL 94 yX5_bestLender cX5_bestLender 10 (some .int) 2 := ⟨⟨(zT_in 629 (by decide +kernel) rfl), (zT_in 102 (by decide +kernel) rfl), ⟨by decide +kernel, by decide +kernel⟩, by decide +kernel⟩, Or.inl (zT_in 626 (by decide +kernel) rfl), (zT_in 627 (by decide +kernel) rfl), (zT_in 628 (by decide +kernel) rfl)⟩
theorem kL_97 : zKv RL 97 yX6_bestLender cX6_bestLender 6 (some .int) 2 := ⟨⟨(zT_in 1128 (by decide +kernel) rfl), (zT_in 108 (by decide +kernel) rfl), ⟨by decide +kernel, by decide +kernel⟩, by decide +kernel⟩, Or.inl (zT_in 1125 (by decide +kernel) rfl), (zT_in 1126 (by decide +kernel) rfl), (zT_in 1127 (by decide +kernel) rfl)⟩
theorem kL_98 : zKv RL 98 yX5_leastLoan cX5_leastLoan 2 (some .long) 1 := ⟨⟨(zT_in 633 (by decide +kernel) rfl), (zT_in 102 (by decide +kernel) rfl), ⟨by decide +kernel, by decide +kernel⟩, by decide +kernel⟩, Or.inl (zT_in 630 (by decide +kernel) rfl), (zT_in 631 (by decide +kernel) rfl), (zT_in 632 (by decide +kernel) rfl)⟩
theorem kL_102 : zKv RL 102 yX6_leastLoan cX6_leastLoan 4 (some .long) 1 := ⟨⟨(zT_in 1132 (by decide +kernel) rfl), (zT_in 108 (by decide +kernel) rfl), ⟨by decide +kernel, by decide +kernel⟩, by decide +kernel⟩, Or.inl (zT_in 1129 (by decide +kernel) rfl), (zT_in 1130 (by decide +kernel) rfl), (zT_in 1131 (by decide +kernel) rfl)⟩
theorem kL_103 : zKv RL 103 yX5_safeSize cX5_safeSize 4 (some .int) 1 := ⟨⟨(zT_in 639 (by decide +kernel) rfl), (zT_in 102 (by decide +kernel) rfl), ⟨by decide +kernel, by decide +kernel⟩, by decide +kernel⟩, Or.inl (zT_in 636 (by decide +kernel) rfl), (zT_in 637 (by decide +kernel) rfl), (zT_in 638 (by decide +kernel) rfl)⟩
theorem kL_106 : zKv RL 106 yX6_safeSize cX6_safeSize 4 (some .int) 1 := ⟨⟨(zT_in 1136 (by decide +kernel) rfl), (zT_in 108 (by decide +kernel) rfl), ⟨by decide +kernel, by decide +kernel⟩, by decide +kernel⟩, Or.inl (zT_in 1133 (by decide +kernel) rfl), (zT_in 1134 (by decide +kernel) rfl), (zT_in 1135 (by decide +kernel) rfl)⟩
theorem qL_107 : Cond.constantLong RL 107 (4294967295) ∈ zTBL := (zT_in 1197 (by decide +kernel) rfl)
theorem kL_109 : zKv RL 109 yX5_put cX5_put 5 (some .int) 1 := ⟨⟨(zT_in 645 (by decide +kernel) rfl), (zT_in 102 (by decide +kernel) rfl), ⟨by decide +kernel, by decide +kernel⟩, by decide +kernel⟩, Or.inl (zT_in 642 (by decide +kernel) rfl), (zT_in 643 (by decide +kernel) rfl), (zT_in 644 (by decide +kernel) rfl)⟩
theorem kL_113 : zKv RL 113 yX6_put cX6_put 8 (some .int) 1 := ⟨⟨(zT_in 1140 (by decide +kernel) rfl), (zT_in 108 (by decide +kernel) rfl), ⟨by decide +kernel, by decide +kernel⟩, by decide +kernel⟩, Or.inl (zT_in 1137 (by decide +kernel) rfl), (zT_in 1138 (by decide +kernel) rfl), (zT_in 1139 (by decide +kernel) rfl)⟩
theorem kL_114 : zKv RL 114 yX5_wipe cX5_wipe 2 (some .int) 0 := ⟨⟨(zT_in 659 (by decide +kernel) rfl), (zT_in 102 (by decide +kernel) rfl), ⟨by decide +kernel, by decide +kernel⟩, by decide +kernel⟩, Or.inl (zT_in 656 (by decide +kernel) rfl), (zT_in 657 (by decide +kernel) rfl), (zT_in 658 (by decide +kernel) rfl)⟩
theorem kL_118 : zKv RL 118 yX6_wipe cX6_wipe 2 (some .int) 0 := ⟨⟨(zT_in 1147 (by decide +kernel) rfl), (zT_in 108 (by decide +kernel) rfl), ⟨by decide +kernel, by decide +kernel⟩, by decide +kernel⟩, Or.inl (zT_in 1144 (by decide +kernel) rfl), (zT_in 1145 (by decide +kernel) rfl), (zT_in 1146 (by decide +kernel) rfl)⟩
theorem kL_119 : zKv RL 119 yX5_fault cX5_fault 1 (some .int) 0 := ⟨⟨(zT_in 663 (by decide +kernel) rfl), (zT_in 102 (by decide +kernel) rfl), ⟨by decide +kernel, by decide +kernel⟩, by decide +kernel⟩, Or.inl (zT_in 660 (by decide +kernel) rfl), (zT_in 661 (by decide +kernel) rfl), (zT_in 662 (by decide +kernel) rfl)⟩
theorem kL_122 : zKv RL 122 yX6_fault cX6_fault 1 (some .int) 0 := ⟨⟨(zT_in 1151 (by decide +kernel) rfl), (zT_in 108 (by decide +kernel) rfl), ⟨by decide +kernel, by decide +kernel⟩, by decide +kernel⟩, Or.inl (zT_in 1148 (by decide +kernel) rfl), (zT_in 1149 (by decide +kernel) rfl), (zT_in 1150 (by decide +kernel) rfl)⟩
theorem kL_123 : zKv RL 123 yX5_carryOut cX5_carryOut 2 (some .int) 0 := ⟨⟨(zT_in 760 (by decide +kernel) rfl), (zT_in 102 (by decide +kernel) rfl), ⟨by decide +kernel, by decide +kernel⟩, by decide +kernel⟩, Or.inl (zT_in 757 (by decide +kernel) rfl), (zT_in 758 (by decide +kernel) rfl), (zT_in 759 (by decide +kernel) rfl)⟩
theorem kL_126 : zKv RL 126 yX6_carryOut cX6_carryOut 2 (some .int) 0 := ⟨⟨(zT_in 1192 (by decide +kernel) rfl), (zT_in 108 (by decide +kernel) rfl), ⟨by decide +kernel, by decide +kernel⟩, by decide +kernel⟩, Or.inl (zT_in 1189 (by decide +kernel) rfl), (zT_in 1190 (by decide +kernel) rfl), (zT_in 1191 (by decide +kernel) rfl)⟩
theorem kL_127 : zKv RL 127 yX5_undo cX5_undo 1 (some .int) 0 := ⟨⟨(zT_in 776 (by decide +kernel) rfl), (zT_in 102 (by decide +kernel) rfl), ⟨by decide +kernel, by decide +kernel⟩, by decide +kernel⟩, Or.inl (zT_in 773 (by decide +kernel) rfl), (zT_in 774 (by decide +kernel) rfl), (zT_in 775 (by decide +kernel) rfl)⟩
theorem kL_130 : zKv RL 130 yX6_undo cX6_undo 1 (some .int) 0 := ⟨⟨(zT_in 850 (by decide +kernel) rfl), (zT_in 108 (by decide +kernel) rfl), ⟨by decide +kernel, by decide +kernel⟩, by decide +kernel⟩, Or.inl (zT_in 847 (by decide +kernel) rfl), (zT_in 848 (by decide +kernel) rfl), (zT_in 849 (by decide +kernel) rfl)⟩
theorem kL_131 : zKv RL 131 yX5_save cX5_save 2 (some .int) 1 := ⟨⟨(zT_in 787 (by decide +kernel) rfl), (zT_in 102 (by decide +kernel) rfl), ⟨by decide +kernel, by decide +kernel⟩, by decide +kernel⟩, Or.inl (zT_in 784 (by decide +kernel) rfl), (zT_in 785 (by decide +kernel) rfl), (zT_in 786 (by decide +kernel) rfl)⟩
theorem kL_134 : zKv RL 134 yX6_save cX6_save 2 (some .int) 1 := ⟨⟨(zT_in 858 (by decide +kernel) rfl), (zT_in 108 (by decide +kernel) rfl), ⟨by decide +kernel, by decide +kernel⟩, by decide +kernel⟩, Or.inl (zT_in 855 (by decide +kernel) rfl), (zT_in 856 (by decide +kernel) rfl), (zT_in 857 (by decide +kernel) rfl)⟩
theorem kL_135 : zKv RL 135 yX5_restore cX5_restore 2 (some .int) 1 := ⟨⟨(zT_in 791 (by decide +kernel) rfl), (zT_in 102 (by decide +kernel) rfl), ⟨by decide +kernel, by decide +kernel⟩, by decide +kernel⟩, Or.inl (zT_in 788 (by decide +kernel) rfl), (zT_in 789 (by decide +kernel) rfl), (zT_in 790 (by decide +kernel) rfl)⟩
theorem kL_138 : zKv RL 138 yX6_restore cX6_restore 2 (some .int) 1 := ⟨⟨(zT_in 869 (by decide +kernel) rfl), (zT_in 108 (by decide +kernel) rfl), ⟨by decide +kernel, by decide +kernel⟩, by decide +kernel⟩, Or.inl (zT_in 866 (by decide +kernel) rfl), (zT_in 867 (by decide +kernel) rfl), (zT_in 868 (by decide +kernel) rfl)⟩
theorem fX0_11 : zF RX0 11 0 0 := ⟨RX0, TX0, 3, rfl, uX0, by decide, Or.inl (zT_in 288 (by decide +kernel) rfl)⟩
theorem pX0_11 : zFp RX0 11 0 0 (.array (.object "ErrorBudgets$House")) true := ⟨RX0, TX0, 3, tyX0, rfl, uX0, by decide, Or.inl (zT_in 288 (by decide +kernel) rfl), tyX0_ok, nmX0, rfl, by decide +kernel, Or.inl rfl⟩
theorem fX0_17 : zF RX0 17 0 1 := ⟨RX0, TX0, 3, rfl, uX0, by decide, Or.inl (zT_in 289 (by decide +kernel) rfl)⟩
theorem pX0_17 : zFp RX0 17 0 1 .int false := ⟨RX0, TX0, 3, tyX0, rfl, uX0, by decide, Or.inl (zT_in 289 (by decide +kernel) rfl), tyX0_ok, nmX0, rfl, by decide +kernel, Or.inr rfl⟩
theorem fX0_21 : zF RX0 21 0 2 := ⟨RX0, TX0, 3, rfl, uX0, by decide, Or.inl (zT_in 290 (by decide +kernel) rfl)⟩
theorem pX0_21 : zFp RX0 21 0 2 .int false := ⟨RX0, TX0, 3, tyX0, rfl, uX0, by decide, Or.inl (zT_in 290 (by decide +kernel) rfl), tyX0_ok, nmX0, rfl, by decide +kernel, Or.inr rfl⟩
theorem kX0_24 : zKi RX0 24 yX1_init cX1_init 1 0 := ⟨⟨(zT_in 127 (by decide +kernel) rfl), (zT_in 103 (by decide +kernel) rfl), ⟨by decide +kernel, by decide +kernel⟩, by decide +kernel⟩, Or.inr ⟨"ErrorBudgets", (zN_in 186 (by decide +kernel) rfl)⟩, (zT_in 126 (by decide +kernel) rfl), rfl⟩
theorem kX0_25 : zKv RX0 25 yX1_copyFrom cX1_copyFrom 2 none 1 := ⟨⟨(zT_in 368 (by decide +kernel) rfl), (zT_in 103 (by decide +kernel) rfl), ⟨by decide +kernel, by decide +kernel⟩, by decide +kernel⟩, Or.inr ⟨"ErrorBudgets", (zN_in 264 (by decide +kernel) rfl)⟩, (zT_in 367 (by decide +kernel) rfl), (zT_in 1 (by decide +kernel) rfl)⟩
theorem kX0_29 : zKm RX0 29 Lib.Math.max.name Lib.Math.max.code 2 (some .int) := ⟨(zT_in 781 (by decide +kernel) rfl), (zT_in 782 (by decide +kernel) rfl), (zT_in 110 (by decide +kernel) rfl), (zT_in 783 (by decide +kernel) rfl)⟩
theorem fX1_18 : zF RX1 18 1 0 := ⟨RX1, TX1, 14, rfl, uX1, by decide, Or.inl (zT_in 223 (by decide +kernel) rfl)⟩
theorem pX1_18 : zFp RX1 18 1 0 (.array .int) true := ⟨RX1, TX1, 14, tyX1, rfl, uX1, by decide, Or.inl (zT_in 223 (by decide +kernel) rfl), tyX1_ok, nmX1, rfl, by decide +kernel, Or.inl rfl⟩
theorem fX1_23 : zF RX1 23 1 1 := ⟨RX1, TX1, 14, rfl, uX1, by decide, Or.inl (zT_in 225 (by decide +kernel) rfl)⟩
theorem pX1_23 : zFp RX1 23 1 1 .int false := ⟨RX1, TX1, 14, tyX1, rfl, uX1, by decide, Or.inl (zT_in 225 (by decide +kernel) rfl), tyX1_ok, nmX1, rfl, by decide +kernel, Or.inr rfl⟩
theorem fX1_27 : zF RX1 27 1 2 := ⟨RX1, TX1, 14, rfl, uX1, by decide, Or.inl (zT_in 227 (by decide +kernel) rfl)⟩
theorem pX1_27 : zFp RX1 27 1 2 .int false := ⟨RX1, TX1, 14, tyX1, rfl, uX1, by decide, Or.inl (zT_in 227 (by decide +kernel) rfl), tyX1_ok, nmX1, rfl, by decide +kernel, Or.inr rfl⟩
theorem fX1_30 : zF RX1 30 1 3 := ⟨RX1, TX1, 14, rfl, uX1, by decide, Or.inl (zT_in 229 (by decide +kernel) rfl)⟩
theorem pX1_30 : zFp RX1 30 1 3 .int false := ⟨RX1, TX1, 14, tyX1, rfl, uX1, by decide, Or.inl (zT_in 229 (by decide +kernel) rfl), tyX1_ok, nmX1, rfl, by decide +kernel, Or.inr rfl⟩
theorem fX1_33 : zF RX1 33 1 4 := ⟨RX1, TX1, 14, rfl, uX1, by decide, Or.inl (zT_in 231 (by decide +kernel) rfl)⟩
theorem pX1_33 : zFp RX1 33 1 4 .int false := ⟨RX1, TX1, 14, tyX1, rfl, uX1, by decide, Or.inl (zT_in 231 (by decide +kernel) rfl), tyX1_ok, nmX1, rfl, by decide +kernel, Or.inr rfl⟩
theorem fX1_36 : zF RX1 36 1 5 := ⟨RX1, TX1, 14, rfl, uX1, by decide, Or.inl (zT_in 233 (by decide +kernel) rfl)⟩
theorem pX1_36 : zFp RX1 36 1 5 .int false := ⟨RX1, TX1, 14, tyX1, rfl, uX1, by decide, Or.inl (zT_in 233 (by decide +kernel) rfl), tyX1_ok, nmX1, rfl, by decide +kernel, Or.inr rfl⟩
theorem fX1_39 : zF RX1 39 1 6 := ⟨RX1, TX1, 14, rfl, uX1, by decide, Or.inl (zT_in 235 (by decide +kernel) rfl)⟩
theorem pX1_39 : zFp RX1 39 1 6 (.array .int) true := ⟨RX1, TX1, 14, tyX1, rfl, uX1, by decide, Or.inl (zT_in 235 (by decide +kernel) rfl), tyX1_ok, nmX1, rfl, by decide +kernel, Or.inl rfl⟩
theorem fX1_42 : zF RX1 42 1 7 := ⟨RX1, TX1, 14, rfl, uX1, by decide, Or.inl (zT_in 237 (by decide +kernel) rfl)⟩
theorem pX1_42 : zFp RX1 42 1 7 (.array .int) true := ⟨RX1, TX1, 14, tyX1, rfl, uX1, by decide, Or.inl (zT_in 237 (by decide +kernel) rfl), tyX1_ok, nmX1, rfl, by decide +kernel, Or.inl rfl⟩
theorem fX1_45 : zF RX1 45 1 8 := ⟨RX1, TX1, 14, rfl, uX1, by decide, Or.inl (zT_in 239 (by decide +kernel) rfl)⟩
theorem pX1_45 : zFp RX1 45 1 8 (.array .int) true := ⟨RX1, TX1, 14, tyX1, rfl, uX1, by decide, Or.inl (zT_in 239 (by decide +kernel) rfl), tyX1_ok, nmX1, rfl, by decide +kernel, Or.inl rfl⟩
theorem fX1_48 : zF RX1 48 1 9 := ⟨RX1, TX1, 14, rfl, uX1, by decide, Or.inl (zT_in 241 (by decide +kernel) rfl)⟩
theorem pX1_48 : zFp RX1 48 1 9 (.array .int) true := ⟨RX1, TX1, 14, tyX1, rfl, uX1, by decide, Or.inl (zT_in 241 (by decide +kernel) rfl), tyX1_ok, nmX1, rfl, by decide +kernel, Or.inl rfl⟩
theorem fX1_51 : zF RX1 51 1 10 := ⟨RX1, TX1, 14, rfl, uX1, by decide, Or.inl (zT_in 243 (by decide +kernel) rfl)⟩
theorem pX1_51 : zFp RX1 51 1 10 (.array .int) true := ⟨RX1, TX1, 14, tyX1, rfl, uX1, by decide, Or.inl (zT_in 243 (by decide +kernel) rfl), tyX1_ok, nmX1, rfl, by decide +kernel, Or.inl rfl⟩
theorem fX1_54 : zF RX1 54 1 11 := ⟨RX1, TX1, 14, rfl, uX1, by decide, Or.inl (zT_in 245 (by decide +kernel) rfl)⟩
theorem pX1_54 : zFp RX1 54 1 11 (.array .long) true := ⟨RX1, TX1, 14, tyX1, rfl, uX1, by decide, Or.inl (zT_in 245 (by decide +kernel) rfl), tyX1_ok, nmX1, rfl, by decide +kernel, Or.inl rfl⟩
theorem kX1_60 : zKi RX1 60 yX2_init cX2_init 1 0 := ⟨⟨(zT_in 142 (by decide +kernel) rfl), (zT_in 104 (by decide +kernel) rfl), ⟨by decide +kernel, by decide +kernel⟩, by decide +kernel⟩, Or.inr ⟨"ErrorBudgets", (zN_in 39 (by decide +kernel) rfl)⟩, (zT_in 141 (by decide +kernel) rfl), rfl⟩
theorem fX1_61 : zF RX1 61 1 12 := ⟨RX1, TX1, 14, rfl, uX1, by decide, Or.inl (zT_in 246 (by decide +kernel) rfl)⟩
theorem pX1_61 : zFp RX1 61 1 12 (.object "ErrorBudgets$Loans") true := ⟨RX1, TX1, 14, tyX1, rfl, uX1, by decide, Or.inl (zT_in 246 (by decide +kernel) rfl), tyX1_ok, nmX1, rfl, by decide +kernel, Or.inl rfl⟩
theorem kX1_67 : zKi RX1 67 yX4_init cX4_init 1 0 := ⟨⟨(zT_in 180 (by decide +kernel) rfl), (zT_in 105 (by decide +kernel) rfl), ⟨by decide +kernel, by decide +kernel⟩, by decide +kernel⟩, Or.inr ⟨"ErrorBudgets", (zN_in 77 (by decide +kernel) rfl)⟩, (zT_in 179 (by decide +kernel) rfl), rfl⟩
theorem fX1_68 : zF RX1 68 1 13 := ⟨RX1, TX1, 14, rfl, uX1, by decide, Or.inl (zT_in 248 (by decide +kernel) rfl)⟩
theorem pX1_68 : zFp RX1 68 1 13 (.object "ErrorBudgets$Plans") true := ⟨RX1, TX1, 14, tyX1, rfl, uX1, by decide, Or.inl (zT_in 248 (by decide +kernel) rfl), tyX1_ok, nmX1, rfl, by decide +kernel, Or.inl rfl⟩
theorem kX1_78 : zKv RX1 78 yX2_copyFrom cX2_copyFrom 2 none 1 := ⟨⟨(zT_in 375 (by decide +kernel) rfl), (zT_in 104 (by decide +kernel) rfl), ⟨by decide +kernel, by decide +kernel⟩, by decide +kernel⟩, Or.inr ⟨"ErrorBudgets", (zN_in 271 (by decide +kernel) rfl)⟩, (zT_in 374 (by decide +kernel) rfl), (zT_in 2 (by decide +kernel) rfl)⟩
theorem kX1_82 : zKv RX1 82 yX4_copyFrom cX4_copyFrom 2 none 1 := ⟨⟨(zT_in 380 (by decide +kernel) rfl), (zT_in 105 (by decide +kernel) rfl), ⟨by decide +kernel, by decide +kernel⟩, by decide +kernel⟩, Or.inr ⟨"ErrorBudgets", (zN_in 276 (by decide +kernel) rfl)⟩, (zT_in 379 (by decide +kernel) rfl), (zT_in 3 (by decide +kernel) rfl)⟩
theorem kX1_85 : zKv RX1 85 yX1_book cX1_book 7 none 3 := ⟨⟨(zT_in 401 (by decide +kernel) rfl), (zT_in 103 (by decide +kernel) rfl), ⟨by decide +kernel, by decide +kernel⟩, by decide +kernel⟩, Or.inl (zT_in 398 (by decide +kernel) rfl), (zT_in 400 (by decide +kernel) rfl), (zT_in 7 (by decide +kernel) rfl)⟩
theorem kX1_89 : zKv RX1 89 yX1_enter cX1_enter 5 none 3 := ⟨⟨(zT_in 405 (by decide +kernel) rfl), (zT_in 103 (by decide +kernel) rfl), ⟨by decide +kernel, by decide +kernel⟩, by decide +kernel⟩, Or.inl (zT_in 402 (by decide +kernel) rfl), (zT_in 404 (by decide +kernel) rfl), (zT_in 8 (by decide +kernel) rfl)⟩
theorem kX1_92 : zKv RX1 92 yX1_minutesOf cX1_minutesOf 3 (some .long) 2 := ⟨⟨(zT_in 409 (by decide +kernel) rfl), (zT_in 103 (by decide +kernel) rfl), ⟨by decide +kernel, by decide +kernel⟩, by decide +kernel⟩, Or.inl (zT_in 406 (by decide +kernel) rfl), (zT_in 408 (by decide +kernel) rfl), (zT_in 9 (by decide +kernel) rfl)⟩
theorem kX1_96 : zKv RX1 96 yX1_isFrozen cX1_isFrozen 2 (some .boolean) 1 := ⟨⟨(zT_in 413 (by decide +kernel) rfl), (zT_in 103 (by decide +kernel) rfl), ⟨by decide +kernel, by decide +kernel⟩, by decide +kernel⟩, Or.inl (zT_in 410 (by decide +kernel) rfl), (zT_in 412 (by decide +kernel) rfl), (zT_in 10 (by decide +kernel) rfl)⟩
theorem kX1_100 : zKv RX1 100 yX1_thawLimit cX1_thawLimit 2 (some .int) 1 := ⟨⟨(zT_in 417 (by decide +kernel) rfl), (zT_in 103 (by decide +kernel) rfl), ⟨by decide +kernel, by decide +kernel⟩, by decide +kernel⟩, Or.inl (zT_in 414 (by decide +kernel) rfl), (zT_in 416 (by decide +kernel) rfl), (zT_in 11 (by decide +kernel) rfl)⟩
theorem fX1_104 : zF RX1 104 2 2 := ⟨RX2, TX2, 6, rfl, uX2, by decide, Or.inr ⟨"ErrorBudgets", (zN_in 50 (by decide +kernel) rfl)⟩⟩
theorem kX1_107 : zKv RX1 107 yX2_countWith cX2_countWith 5 (some .int) 2 := ⟨⟨(zT_in 467 (by decide +kernel) rfl), (zT_in 104 (by decide +kernel) rfl), ⟨by decide +kernel, by decide +kernel⟩, by decide +kernel⟩, Or.inr ⟨"ErrorBudgets", (zN_in 363 (by decide +kernel) rfl)⟩, (zT_in 466 (by decide +kernel) rfl), (zT_in 19 (by decide +kernel) rfl)⟩
theorem kX1_111 : zKv RX1 111 yX2_add cX2_add 7 (some .int) 5 := ⟨⟨(zT_in 475 (by decide +kernel) rfl), (zT_in 104 (by decide +kernel) rfl), ⟨by decide +kernel, by decide +kernel⟩, by decide +kernel⟩, Or.inr ⟨"ErrorBudgets", (zN_in 371 (by decide +kernel) rfl)⟩, (zT_in 474 (by decide +kernel) rfl), (zT_in 21 (by decide +kernel) rfl)⟩
theorem fX1_115 : zF RX1 115 2 4 := ⟨RX2, TX2, 6, rfl, uX2, by decide, Or.inr ⟨"ErrorBudgets", (zN_in 56 (by decide +kernel) rfl)⟩⟩
theorem kX1_118 : zKm RX1 118 Lib.MathLoose.min_long.x Lib.MathLoose.min_long.code 4 (some .long) := ⟨(zT_in 488 (by decide +kernel) rfl), (zT_in 489 (by decide +kernel) rfl), (zT_in 110 (by decide +kernel) rfl), (zT_in 490 (by decide +kernel) rfl)⟩
theorem fX1_124 : zF RX1 124 2 1 := ⟨RX2, TX2, 6, rfl, uX2, by decide, Or.inr ⟨"ErrorBudgets", (zN_in 47 (by decide +kernel) rfl)⟩⟩
theorem kX1_127 : zKs RX1 127 yX5_isWithin cX5_isWithin 3 (some .boolean) 3 := ⟨⟨(zT_in 360 (by decide +kernel) rfl), (zT_in 102 (by decide +kernel) rfl), ⟨by decide +kernel, by decide +kernel⟩, by decide +kernel⟩, Or.inr ⟨"ErrorBudgets", (zN_in 442 (by decide +kernel) rfl)⟩, (zT_in 359 (by decide +kernel) rfl)⟩
theorem kX1_131 : zKv RX1 131 yX1_beginWindow cX1_beginWindow 6 none 0 := ⟨⟨(zT_in 547 (by decide +kernel) rfl), (zT_in 103 (by decide +kernel) rfl), ⟨by decide +kernel, by decide +kernel⟩, by decide +kernel⟩, Or.inl (zT_in 544 (by decide +kernel) rfl), (zT_in 546 (by decide +kernel) rfl), (zT_in 34 (by decide +kernel) rfl)⟩
theorem kX1_134 : zKv RX1 134 yX1_payDueLoans cX1_payDueLoans 3 none 0 := ⟨⟨(zT_in 555 (by decide +kernel) rfl), (zT_in 103 (by decide +kernel) rfl), ⟨by decide +kernel, by decide +kernel⟩, by decide +kernel⟩, Or.inl (zT_in 552 (by decide +kernel) rfl), (zT_in 554 (by decide +kernel) rfl), (zT_in 35 (by decide +kernel) rfl)⟩
theorem kX1_137 : zKv RX1 137 yX1_takePlans cX1_takePlans 5 none 0 := ⟨⟨(zT_in 565 (by decide +kernel) rfl), (zT_in 103 (by decide +kernel) rfl), ⟨by decide +kernel, by decide +kernel⟩, by decide +kernel⟩, Or.inl (zT_in 562 (by decide +kernel) rfl), (zT_in 564 (by decide +kernel) rfl), (zT_in 36 (by decide +kernel) rfl)⟩
theorem kX1_140 : zKm RX1 140 Lib.MathLoose.max_long.x Lib.MathLoose.max_long.code 4 (some .long) := ⟨(zT_in 548 (by decide +kernel) rfl), (zT_in 549 (by decide +kernel) rfl), (zT_in 110 (by decide +kernel) rfl), (zT_in 550 (by decide +kernel) rfl)⟩
theorem qX1_143 : Cond.constantLong RX1 143 (100) ∈ zTBL := (zT_in 551 (by decide +kernel) rfl)
theorem fX1_145 : zF RX1 145 2 0 := ⟨RX2, TX2, 6, rfl, uX2, by decide, Or.inr ⟨"ErrorBudgets", (zN_in 45 (by decide +kernel) rfl)⟩⟩
theorem fX1_148 : zF RX1 148 2 5 := ⟨RX2, TX2, 6, rfl, uX2, by decide, Or.inr ⟨"ErrorBudgets", (zN_in 58 (by decide +kernel) rfl)⟩⟩
theorem kX1_151 : zKv RX1 151 yX1_payBack cX1_payBack 5 none 1 := ⟨⟨(zT_in 487 (by decide +kernel) rfl), (zT_in 103 (by decide +kernel) rfl), ⟨by decide +kernel, by decide +kernel⟩, by decide +kernel⟩, Or.inl (zT_in 556 (by decide +kernel) rfl), (zT_in 486 (by decide +kernel) rfl), (zT_in 23 (by decide +kernel) rfl)⟩
theorem qX1_155 : Cond.constant RX1 155 (10000000) ∈ zTBL := (zT_in 557 (by decide +kernel) rfl)
theorem kX1_156 : zKm RX1 156 Lib.Math.min.name Lib.Math.min.code 2 (some .int) := ⟨(zT_in 558 (by decide +kernel) rfl), (zT_in 559 (by decide +kernel) rfl), (zT_in 110 (by decide +kernel) rfl), (zT_in 560 (by decide +kernel) rfl)⟩
theorem kX1_159 : zKv RX1 159 yX2_removePaid cX2_removePaid 3 none 0 := ⟨⟨(zT_in 494 (by decide +kernel) rfl), (zT_in 104 (by decide +kernel) rfl), ⟨by decide +kernel, by decide +kernel⟩, by decide +kernel⟩, Or.inr ⟨"ErrorBudgets", (zN_in 460 (by decide +kernel) rfl)⟩, (zT_in 493 (by decide +kernel) rfl), (zT_in 24 (by decide +kernel) rfl)⟩
theorem fX1_162 : zF RX1 162 4 0 := ⟨RX4, TX4, 9, rfl, uX4, by decide, Or.inr ⟨"ErrorBudgets", (zN_in 83 (by decide +kernel) rfl)⟩⟩
theorem fX1_163 : zF RX1 163 4 6 := ⟨RX4, TX4, 9, rfl, uX4, by decide, Or.inr ⟨"ErrorBudgets", (zN_in 99 (by decide +kernel) rfl)⟩⟩
theorem kX1_166 : zKv RX1 166 yX1_fateOf cX1_fateOf 3 (some .int) 1 := ⟨⟨(zT_in 569 (by decide +kernel) rfl), (zT_in 103 (by decide +kernel) rfl), ⟨by decide +kernel, by decide +kernel⟩, by decide +kernel⟩, Or.inl (zT_in 566 (by decide +kernel) rfl), (zT_in 568 (by decide +kernel) rfl), (zT_in 37 (by decide +kernel) rfl)⟩
theorem fX1_169 : zF RX1 169 4 5 := ⟨RX4, TX4, 9, rfl, uX4, by decide, Or.inr ⟨"ErrorBudgets", (zN_in 97 (by decide +kernel) rfl)⟩⟩
theorem fX1_172 : zF RX1 172 4 1 := ⟨RX4, TX4, 9, rfl, uX4, by decide, Or.inr ⟨"ErrorBudgets", (zN_in 85 (by decide +kernel) rfl)⟩⟩
theorem fX1_175 : zF RX1 175 4 3 := ⟨RX4, TX4, 9, rfl, uX4, by decide, Or.inr ⟨"ErrorBudgets", (zN_in 91 (by decide +kernel) rfl)⟩⟩
theorem kX1_178 : zKv RX1 178 yX1_doRelease cX1_doRelease 3 none 2 := ⟨⟨(zT_in 451 (by decide +kernel) rfl), (zT_in 103 (by decide +kernel) rfl), ⟨by decide +kernel, by decide +kernel⟩, by decide +kernel⟩, Or.inl (zT_in 570 (by decide +kernel) rfl), (zT_in 450 (by decide +kernel) rfl), (zT_in 16 (by decide +kernel) rfl)⟩
theorem kX1_182 : zKv RX1 182 yX4_removeEnded cX4_removeEnded 4 none 0 := ⟨⟨(zT_in 530 (by decide +kernel) rfl), (zT_in 105 (by decide +kernel) rfl), ⟨by decide +kernel, by decide +kernel⟩, by decide +kernel⟩, Or.inr ⟨"ErrorBudgets", (zN_in 470 (by decide +kernel) rfl)⟩, (zT_in 529 (by decide +kernel) rfl), (zT_in 31 (by decide +kernel) rfl)⟩
theorem fX1_185 : zF RX1 185 4 2 := ⟨RX4, TX4, 9, rfl, uX4, by decide, Or.inr ⟨"ErrorBudgets", (zN_in 88 (by decide +kernel) rfl)⟩⟩
theorem fX2_9 : zF RX2 9 2 0 := ⟨RX2, TX2, 6, rfl, uX2, by decide, Or.inl (zT_in 144 (by decide +kernel) rfl)⟩
theorem pX2_9 : zFp RX2 9 2 0 .int false := ⟨RX2, TX2, 6, tyX2, rfl, uX2, by decide, Or.inl (zT_in 144 (by decide +kernel) rfl), tyX2_ok, nmX2, rfl, by decide +kernel, Or.inr rfl⟩
theorem fX2_15 : zF RX2 15 2 1 := ⟨RX2, TX2, 6, rfl, uX2, by decide, Or.inl (zT_in 147 (by decide +kernel) rfl)⟩
theorem pX2_15 : zFp RX2 15 2 1 (.array .int) true := ⟨RX2, TX2, 6, tyX2, rfl, uX2, by decide, Or.inl (zT_in 147 (by decide +kernel) rfl), tyX2_ok, nmX2, rfl, by decide +kernel, Or.inl rfl⟩
theorem fX2_19 : zF RX2 19 2 2 := ⟨RX2, TX2, 6, rfl, uX2, by decide, Or.inl (zT_in 150 (by decide +kernel) rfl)⟩
theorem pX2_19 : zFp RX2 19 2 2 (.array .int) true := ⟨RX2, TX2, 6, tyX2, rfl, uX2, by decide, Or.inl (zT_in 150 (by decide +kernel) rfl), tyX2_ok, nmX2, rfl, by decide +kernel, Or.inl rfl⟩
theorem fX2_22 : zF RX2 22 2 3 := ⟨RX2, TX2, 6, rfl, uX2, by decide, Or.inl (zT_in 153 (by decide +kernel) rfl)⟩
theorem pX2_22 : zFp RX2 22 2 3 (.array .int) true := ⟨RX2, TX2, 6, tyX2, rfl, uX2, by decide, Or.inl (zT_in 153 (by decide +kernel) rfl), tyX2_ok, nmX2, rfl, by decide +kernel, Or.inl rfl⟩
theorem fX2_25 : zF RX2 25 2 4 := ⟨RX2, TX2, 6, rfl, uX2, by decide, Or.inl (zT_in 155 (by decide +kernel) rfl)⟩
theorem pX2_25 : zFp RX2 25 2 4 (.array .int) true := ⟨RX2, TX2, 6, tyX2, rfl, uX2, by decide, Or.inl (zT_in 155 (by decide +kernel) rfl), tyX2_ok, nmX2, rfl, by decide +kernel, Or.inl rfl⟩
theorem fX2_28 : zF RX2 28 2 5 := ⟨RX2, TX2, 6, rfl, uX2, by decide, Or.inl (zT_in 158 (by decide +kernel) rfl)⟩
theorem pX2_28 : zFp RX2 28 2 5 (.array .int) true := ⟨RX2, TX2, 6, tyX2, rfl, uX2, by decide, Or.inl (zT_in 158 (by decide +kernel) rfl), tyX2_ok, nmX2, rfl, by decide +kernel, Or.inl rfl⟩
theorem fX3_9 : zF RX3 9 3 0 := ⟨RX3, TX3, 6, rfl, uX3, by decide, Or.inl (zT_in 305 (by decide +kernel) rfl)⟩
theorem pX3_9 : zFp RX3 9 3 0 (.array .char) true := ⟨RX3, TX3, 6, tyX3, rfl, uX3, by decide, Or.inl (zT_in 305 (by decide +kernel) rfl), tyX3_ok, nmX3, rfl, by decide +kernel, Or.inl rfl⟩
theorem fX3_15 : zF RX3 15 3 1 := ⟨RX3, TX3, 6, rfl, uX3, by decide, Or.inl (zT_in 306 (by decide +kernel) rfl)⟩
theorem pX3_15 : zFp RX3 15 3 1 .int false := ⟨RX3, TX3, 6, tyX3, rfl, uX3, by decide, Or.inl (zT_in 306 (by decide +kernel) rfl), tyX3_ok, nmX3, rfl, by decide +kernel, Or.inr rfl⟩
theorem fX3_19 : zF RX3 19 3 2 := ⟨RX3, TX3, 6, rfl, uX3, by decide, Or.inl (zT_in 308 (by decide +kernel) rfl)⟩
theorem pX3_19 : zFp RX3 19 3 2 .int false := ⟨RX3, TX3, 6, tyX3, rfl, uX3, by decide, Or.inl (zT_in 308 (by decide +kernel) rfl), tyX3_ok, nmX3, rfl, by decide +kernel, Or.inr rfl⟩
theorem fX3_22 : zF RX3 22 3 3 := ⟨RX3, TX3, 6, rfl, uX3, by decide, Or.inl (zT_in 309 (by decide +kernel) rfl)⟩
theorem pX3_22 : zFp RX3 22 3 3 .int false := ⟨RX3, TX3, 6, tyX3, rfl, uX3, by decide, Or.inl (zT_in 309 (by decide +kernel) rfl), tyX3_ok, nmX3, rfl, by decide +kernel, Or.inr rfl⟩
theorem fX3_25 : zF RX3 25 3 4 := ⟨RX3, TX3, 6, rfl, uX3, by decide, Or.inl (zT_in 311 (by decide +kernel) rfl)⟩
theorem pX3_25 : zFp RX3 25 3 4 (.array .char) true := ⟨RX3, TX3, 6, tyX3, rfl, uX3, by decide, Or.inl (zT_in 311 (by decide +kernel) rfl), tyX3_ok, nmX3, rfl, by decide +kernel, Or.inl rfl⟩
theorem fX3_28 : zF RX3 28 3 5 := ⟨RX3, TX3, 6, rfl, uX3, by decide, Or.inl (zT_in 312 (by decide +kernel) rfl)⟩
theorem pX3_28 : zFp RX3 28 3 5 (.array .int) true := ⟨RX3, TX3, 6, tyX3, rfl, uX3, by decide, Or.inl (zT_in 312 (by decide +kernel) rfl), tyX3_ok, nmX3, rfl, by decide +kernel, Or.inl rfl⟩
theorem kX3_32 : zKv RX3 32 yX3_readOrder cX3_readOrder 6 (some .boolean) 0 := ⟨⟨(zT_in 671 (by decide +kernel) rfl), (zT_in 107 (by decide +kernel) rfl), ⟨by decide +kernel, by decide +kernel⟩, by decide +kernel⟩, Or.inl (zT_in 668 (by decide +kernel) rfl), (zT_in 670 (by decide +kernel) rfl), (zT_in 43 (by decide +kernel) rfl)⟩
theorem kX3_36 : zKv RX3 36 yX3_readSign cX3_readSign 3 (some .boolean) 1 := ⟨⟨(zT_in 752 (by decide +kernel) rfl), (zT_in 107 (by decide +kernel) rfl), ⟨by decide +kernel, by decide +kernel⟩, by decide +kernel⟩, Or.inl (zT_in 749 (by decide +kernel) rfl), (zT_in 751 (by decide +kernel) rfl), (zT_in 48 (by decide +kernel) rfl)⟩
theorem kX3_40 : zKv RX3 40 yX3_signHere cX3_signHere 1 (some .char) 0 := ⟨⟨(zT_in 675 (by decide +kernel) rfl), (zT_in 107 (by decide +kernel) rfl), ⟨by decide +kernel, by decide +kernel⟩, by decide +kernel⟩, Or.inl (zT_in 672 (by decide +kernel) rfl), (zT_in 674 (by decide +kernel) rfl), (zT_in 44 (by decide +kernel) rfl)⟩
theorem kX3_44 : zKs RX3 44 yX3_shapeOf cX3_shapeOf 1 (some (.object "java/lang/String")) 1 := ⟨⟨(zT_in 678 (by decide +kernel) rfl), (zT_in 107 (by decide +kernel) rfl), ⟨by decide +kernel, by decide +kernel⟩, by decide +kernel⟩, Or.inl (zT_in 676 (by decide +kernel) rfl), (zT_in 677 (by decide +kernel) rfl)⟩
theorem kX3_48 : zKv RX3 48 yJ0_isEmpty_aae02 cJ0_isEmpty_aae02 1 (some .boolean) 0 := ⟨⟨(zT_in 688 (by decide +kernel) rfl), (zT_in 111 (by decide +kernel) rfl), ⟨by decide +kernel, by decide +kernel⟩, by decide +kernel⟩, Or.inl (zT_in 685 (by decide +kernel) rfl), (zT_in 686 (by decide +kernel) rfl), (zT_in 687 (by decide +kernel) rfl)⟩
theorem kX3_53 : zKv RX3 53 yJ0_length_8abf5 cJ0_length_8abf5 1 (some .int) 0 := ⟨⟨(zT_in 692 (by decide +kernel) rfl), (zT_in 111 (by decide +kernel) rfl), ⟨by decide +kernel, by decide +kernel⟩, by decide +kernel⟩, Or.inl (zT_in 689 (by decide +kernel) rfl), (zT_in 690 (by decide +kernel) rfl), (zT_in 691 (by decide +kernel) rfl)⟩
theorem kX3_56 : zKv RX3 56 yJ0_charAt_5068e cJ0_charAt_5068e 2 (some .char) 1 := ⟨⟨(zT_in 702 (by decide +kernel) rfl), (zT_in 111 (by decide +kernel) rfl), ⟨by decide +kernel, by decide +kernel⟩, by decide +kernel⟩, Or.inl (zT_in 699 (by decide +kernel) rfl), (zT_in 700 (by decide +kernel) rfl), (zT_in 701 (by decide +kernel) rfl)⟩
theorem kX3_60 : zKv RX3 60 yX3_readPart cX3_readPart 2 (some .int) 1 := ⟨⟨(zT_in 740 (by decide +kernel) rfl), (zT_in 107 (by decide +kernel) rfl), ⟨by decide +kernel, by decide +kernel⟩, by decide +kernel⟩, Or.inl (zT_in 737 (by decide +kernel) rfl), (zT_in 739 (by decide +kernel) rfl), (zT_in 45 (by decide +kernel) rfl)⟩
theorem kX3_64 : zKs RX3 64 yX3_isValue cX3_isValue 1 (some .boolean) 1 := ⟨⟨(zT_in 755 (by decide +kernel) rfl), (zT_in 107 (by decide +kernel) rfl), ⟨by decide +kernel, by decide +kernel⟩, by decide +kernel⟩, Or.inl (zT_in 753 (by decide +kernel) rfl), (zT_in 754 (by decide +kernel) rfl)⟩
theorem kX3_79 : zKv RX3 79 yX3_readDigit cX3_readDigit 3 (some .int) 1 := ⟨⟨(zT_in 744 (by decide +kernel) rfl), (zT_in 107 (by decide +kernel) rfl), ⟨by decide +kernel, by decide +kernel⟩, by decide +kernel⟩, Or.inl (zT_in 741 (by decide +kernel) rfl), (zT_in 743 (by decide +kernel) rfl), (zT_in 46 (by decide +kernel) rfl)⟩
theorem kX3_82 : zKv RX3 82 yX3_readNumber cX3_readNumber 4 (some .int) 0 := ⟨⟨(zT_in 748 (by decide +kernel) rfl), (zT_in 107 (by decide +kernel) rfl), ⟨by decide +kernel, by decide +kernel⟩, by decide +kernel⟩, Or.inl (zT_in 745 (by decide +kernel) rfl), (zT_in 747 (by decide +kernel) rfl), (zT_in 47 (by decide +kernel) rfl)⟩
theorem fX4_9 : zF RX4 9 4 0 := ⟨RX4, TX4, 9, rfl, uX4, by decide, Or.inl (zT_in 182 (by decide +kernel) rfl)⟩
theorem pX4_9 : zFp RX4 9 4 0 .int false := ⟨RX4, TX4, 9, tyX4, rfl, uX4, by decide, Or.inl (zT_in 182 (by decide +kernel) rfl), tyX4_ok, nmX4, rfl, by decide +kernel, Or.inr rfl⟩
theorem fX4_15 : zF RX4 15 4 1 := ⟨RX4, TX4, 9, rfl, uX4, by decide, Or.inl (zT_in 185 (by decide +kernel) rfl)⟩
theorem pX4_15 : zFp RX4 15 4 1 (.array .int) true := ⟨RX4, TX4, 9, tyX4, rfl, uX4, by decide, Or.inl (zT_in 185 (by decide +kernel) rfl), tyX4_ok, nmX4, rfl, by decide +kernel, Or.inl rfl⟩
theorem fX4_19 : zF RX4 19 4 2 := ⟨RX4, TX4, 9, rfl, uX4, by decide, Or.inl (zT_in 188 (by decide +kernel) rfl)⟩
theorem pX4_19 : zFp RX4 19 4 2 (.array .int) true := ⟨RX4, TX4, 9, tyX4, rfl, uX4, by decide, Or.inl (zT_in 188 (by decide +kernel) rfl), tyX4_ok, nmX4, rfl, by decide +kernel, Or.inl rfl⟩
theorem fX4_22 : zF RX4 22 4 3 := ⟨RX4, TX4, 9, rfl, uX4, by decide, Or.inl (zT_in 191 (by decide +kernel) rfl)⟩
theorem pX4_22 : zFp RX4 22 4 3 (.array .int) true := ⟨RX4, TX4, 9, tyX4, rfl, uX4, by decide, Or.inl (zT_in 191 (by decide +kernel) rfl), tyX4_ok, nmX4, rfl, by decide +kernel, Or.inl rfl⟩
theorem fX4_25 : zF RX4 25 4 4 := ⟨RX4, TX4, 9, rfl, uX4, by decide, Or.inl (zT_in 194 (by decide +kernel) rfl)⟩
theorem pX4_25 : zFp RX4 25 4 4 (.array .int) true := ⟨RX4, TX4, 9, tyX4, rfl, uX4, by decide, Or.inl (zT_in 194 (by decide +kernel) rfl), tyX4_ok, nmX4, rfl, by decide +kernel, Or.inl rfl⟩
theorem fX4_28 : zF RX4 28 4 5 := ⟨RX4, TX4, 9, rfl, uX4, by decide, Or.inl (zT_in 196 (by decide +kernel) rfl)⟩
theorem pX4_28 : zFp RX4 28 4 5 (.array .int) true := ⟨RX4, TX4, 9, tyX4, rfl, uX4, by decide, Or.inl (zT_in 196 (by decide +kernel) rfl), tyX4_ok, nmX4, rfl, by decide +kernel, Or.inl rfl⟩
theorem fX4_31 : zF RX4 31 4 6 := ⟨RX4, TX4, 9, rfl, uX4, by decide, Or.inl (zT_in 199 (by decide +kernel) rfl)⟩
theorem pX4_31 : zFp RX4 31 4 6 (.array .int) true := ⟨RX4, TX4, 9, tyX4, rfl, uX4, by decide, Or.inl (zT_in 199 (by decide +kernel) rfl), tyX4_ok, nmX4, rfl, by decide +kernel, Or.inl rfl⟩
theorem fX4_34 : zF RX4 34 4 7 := ⟨RX4, TX4, 9, rfl, uX4, by decide, Or.inl (zT_in 201 (by decide +kernel) rfl)⟩
theorem pX4_34 : zFp RX4 34 4 7 .int false := ⟨RX4, TX4, 9, tyX4, rfl, uX4, by decide, Or.inl (zT_in 201 (by decide +kernel) rfl), tyX4_ok, nmX4, rfl, by decide +kernel, Or.inr rfl⟩
theorem fX4_37 : zF RX4 37 4 8 := ⟨RX4, TX4, 9, rfl, uX4, by decide, Or.inl (zT_in 202 (by decide +kernel) rfl)⟩
theorem pX4_37 : zFp RX4 37 4 8 .int false := ⟨RX4, TX4, 9, tyX4, rfl, uX4, by decide, Or.inl (zT_in 202 (by decide +kernel) rfl), tyX4_ok, nmX4, rfl, by decide +kernel, Or.inr rfl⟩
theorem kX4_46 : zKv RX4 46 yX4_watch cX4_watch 2 none 1 := ⟨⟨(zT_in 385 (by decide +kernel) rfl), (zT_in 105 (by decide +kernel) rfl), ⟨by decide +kernel, by decide +kernel⟩, by decide +kernel⟩, Or.inl (zT_in 382 (by decide +kernel) rfl), (zT_in 384 (by decide +kernel) rfl), (zT_in 4 (by decide +kernel) rfl)⟩
theorem kX4_50 : zKv RX4 50 yX4_arrange cX4_arrange 3 none 0 := ⟨⟨(zT_in 510 (by decide +kernel) rfl), (zT_in 105 (by decide +kernel) rfl), ⟨by decide +kernel, by decide +kernel⟩, by decide +kernel⟩, Or.inl (zT_in 507 (by decide +kernel) rfl), (zT_in 509 (by decide +kernel) rfl), (zT_in 27 (by decide +kernel) rfl)⟩
theorem kX4_53 : zKv RX4 53 yX4_move cX4_move 3 none 2 := ⟨⟨(zT_in 534 (by decide +kernel) rfl), (zT_in 105 (by decide +kernel) rfl), ⟨by decide +kernel, by decide +kernel⟩, by decide +kernel⟩, Or.inl (zT_in 531 (by decide +kernel) rfl), (zT_in 533 (by decide +kernel) rfl), (zT_in 32 (by decide +kernel) rfl)⟩
theorem kX4_57 : zKv RX4 57 yX4_isBefore cX4_isBefore 3 (some .boolean) 2 := ⟨⟨(zT_in 514 (by decide +kernel) rfl), (zT_in 105 (by decide +kernel) rfl), ⟨by decide +kernel, by decide +kernel⟩, by decide +kernel⟩, Or.inl (zT_in 511 (by decide +kernel) rfl), (zT_in 513 (by decide +kernel) rfl), (zT_in 28 (by decide +kernel) rfl)⟩
theorem kX5_11 : zKi RX5 11 yX1_init cX1_init 1 0 := ⟨⟨(zT_in 127 (by decide +kernel) rfl), (zT_in 103 (by decide +kernel) rfl), ⟨by decide +kernel, by decide +kernel⟩, by decide +kernel⟩, Or.inr ⟨"ErrorBudgets", (zN_in 24 (by decide +kernel) rfl)⟩, (zT_in 126 (by decide +kernel) rfl), rfl⟩
theorem fX5_12 : zF RX5 12 5 0 := ⟨RX5, TX5, 7, rfl, uX5, by decide, Or.inl (zT_in 328 (by decide +kernel) rfl)⟩
theorem pX5_12 : zFp RX5 12 5 0 (.object "ErrorBudgets$House") true := ⟨RX5, TX5, 7, tyX5, rfl, uX5, by decide, Or.inl (zT_in 328 (by decide +kernel) rfl), tyX5_ok, nmX5, rfl, by decide +kernel, Or.inl rfl⟩
theorem fX5_16 : zF RX5 16 5 1 := ⟨RX5, TX5, 7, rfl, uX5, by decide, Or.inl (zT_in 329 (by decide +kernel) rfl)⟩
theorem pX5_16 : zFp RX5 16 5 1 (.object "ErrorBudgets$House") true := ⟨RX5, TX5, 7, tyX5, rfl, uX5, by decide, Or.inl (zT_in 329 (by decide +kernel) rfl), tyX5_ok, nmX5, rfl, by decide +kernel, Or.inl rfl⟩
theorem kX5_21 : zKi RX5 21 yX0_init cX0_init 2 0 := ⟨⟨(zT_in 283 (by decide +kernel) rfl), (zT_in 106 (by decide +kernel) rfl), ⟨by decide +kernel, by decide +kernel⟩, by decide +kernel⟩, Or.inr ⟨"ErrorBudgets", (zN_in 180 (by decide +kernel) rfl)⟩, (zT_in 282 (by decide +kernel) rfl), rfl⟩
theorem fX5_22 : zF RX5 22 5 2 := ⟨RX5, TX5, 7, rfl, uX5, by decide, Or.inl (zT_in 330 (by decide +kernel) rfl)⟩
theorem pX5_22 : zFp RX5 22 5 2 (.object "ErrorBudgets$History") true := ⟨RX5, TX5, 7, tyX5, rfl, uX5, by decide, Or.inl (zT_in 330 (by decide +kernel) rfl), tyX5_ok, nmX5, rfl, by decide +kernel, Or.inl rfl⟩
theorem fX5_26 : zF RX5 26 5 3 := ⟨RX5, TX5, 7, rfl, uX5, by decide, Or.inl (zT_in 331 (by decide +kernel) rfl)⟩
theorem pX5_26 : zFp RX5 26 5 3 (.array (.object "ErrorBudgets$House")) true := ⟨RX5, TX5, 7, tyX5, rfl, uX5, by decide, Or.inl (zT_in 331 (by decide +kernel) rfl), tyX5_ok, nmX5, rfl, by decide +kernel, Or.inl rfl⟩
theorem fX5_30 : zF RX5 30 5 4 := ⟨RX5, TX5, 7, rfl, uX5, by decide, Or.inl (zT_in 332 (by decide +kernel) rfl)⟩
theorem pX5_30 : zFp RX5 30 5 4 (.array .boolean) true := ⟨RX5, TX5, 7, tyX5, rfl, uX5, by decide, Or.inl (zT_in 332 (by decide +kernel) rfl), tyX5_ok, nmX5, rfl, by decide +kernel, Or.inl rfl⟩
theorem kX5_36 : zKi RX5 36 yX3_init cX3_init 1 0 := ⟨⟨(zT_in 303 (by decide +kernel) rfl), (zT_in 107 (by decide +kernel) rfl), ⟨by decide +kernel, by decide +kernel⟩, by decide +kernel⟩, Or.inr ⟨"ErrorBudgets", (zN_in 200 (by decide +kernel) rfl)⟩, (zT_in 302 (by decide +kernel) rfl), rfl⟩
theorem fX5_37 : zF RX5 37 5 5 := ⟨RX5, TX5, 7, rfl, uX5, by decide, Or.inl (zT_in 333 (by decide +kernel) rfl)⟩
theorem pX5_37 : zFp RX5 37 5 5 (.object "ErrorBudgets$Pad") true := ⟨RX5, TX5, 7, tyX5, rfl, uX5, by decide, Or.inl (zT_in 333 (by decide +kernel) rfl), tyX5_ok, nmX5, rfl, by decide +kernel, Or.inl rfl⟩
theorem fX5_41 : zF RX5 41 5 6 := ⟨RX5, TX5, 7, rfl, uX5, by decide, Or.inl (zT_in 334 (by decide +kernel) rfl)⟩
theorem pX5_41 : zFp RX5 41 5 6 .int false := ⟨RX5, TX5, 7, tyX5, rfl, uX5, by decide, Or.inl (zT_in 334 (by decide +kernel) rfl), tyX5_ok, nmX5, rfl, by decide +kernel, Or.inr rfl⟩
theorem kX5_52 : zKs RX5 52 yX5_isWithin cX5_isWithin 3 (some .boolean) 3 := ⟨⟨(zT_in 360 (by decide +kernel) rfl), (zT_in 102 (by decide +kernel) rfl), ⟨by decide +kernel, by decide +kernel⟩, by decide +kernel⟩, Or.inl (zT_in 358 (by decide +kernel) rfl), (zT_in 359 (by decide +kernel) rfl)⟩
theorem kX5_56 : zKv RX5 56 yX0_prepare cX0_prepare 2 none 1 := ⟨⟨(zT_in 364 (by decide +kernel) rfl), (zT_in 106 (by decide +kernel) rfl), ⟨by decide +kernel, by decide +kernel⟩, by decide +kernel⟩, Or.inr ⟨"ErrorBudgets", (zN_in 260 (by decide +kernel) rfl)⟩, (zT_in 363 (by decide +kernel) rfl), (zT_in 0 (by decide +kernel) rfl)⟩
theorem fX5_60 : zF RX5 60 1 0 := ⟨RX1, TX1, 14, rfl, uX1, by decide, Or.inr ⟨"ErrorBudgets", (zN_in 123 (by decide +kernel) rfl)⟩⟩
theorem kX5_63 : zKv RX5 63 yX0_keep cX0_keep 2 (some .int) 1 := ⟨⟨(zT_in 389 (by decide +kernel) rfl), (zT_in 106 (by decide +kernel) rfl), ⟨by decide +kernel, by decide +kernel⟩, by decide +kernel⟩, Or.inr ⟨"ErrorBudgets", (zN_in 285 (by decide +kernel) rfl)⟩, (zT_in 388 (by decide +kernel) rfl), (zT_in 5 (by decide +kernel) rfl)⟩
theorem fX5_67 : zF RX5 67 1 4 := ⟨RX1, TX1, 14, rfl, uX1, by decide, Or.inr ⟨"ErrorBudgets", (zN_in 131 (by decide +kernel) rfl)⟩⟩
theorem kX5_70 : zKv RX5 70 yX1_addService cX1_addService 3 (some .int) 1 := ⟨⟨(zT_in 397 (by decide +kernel) rfl), (zT_in 103 (by decide +kernel) rfl), ⟨by decide +kernel, by decide +kernel⟩, by decide +kernel⟩, Or.inr ⟨"ErrorBudgets", (zN_in 293 (by decide +kernel) rfl)⟩, (zT_in 396 (by decide +kernel) rfl), (zT_in 6 (by decide +kernel) rfl)⟩
theorem kX5_73 : zKv RX5 73 yX1_hasService cX1_hasService 2 (some .boolean) 1 := ⟨⟨(zT_in 425 (by decide +kernel) rfl), (zT_in 103 (by decide +kernel) rfl), ⟨by decide +kernel, by decide +kernel⟩, by decide +kernel⟩, Or.inr ⟨"ErrorBudgets", (zN_in 321 (by decide +kernel) rfl)⟩, (zT_in 424 (by decide +kernel) rfl), (zT_in 12 (by decide +kernel) rfl)⟩
theorem fX5_77 : zF RX5 77 1 6 := ⟨RX1, TX1, 14, rfl, uX1, by decide, Or.inr ⟨"ErrorBudgets", (zN_in 135 (by decide +kernel) rfl)⟩⟩
theorem kX5_80 : zKv RX5 80 yX5_sufferOutage cX5_sufferOutage 4 (some .int) 3 := ⟨⟨(zT_in 433 (by decide +kernel) rfl), (zT_in 102 (by decide +kernel) rfl), ⟨by decide +kernel, by decide +kernel⟩, by decide +kernel⟩, Or.inl (zT_in 430 (by decide +kernel) rfl), (zT_in 432 (by decide +kernel) rfl), (zT_in 13 (by decide +kernel) rfl)⟩
theorem kX5_84 : zKv RX5 84 yX5_tryRelease cX5_tryRelease 5 (some .int) 3 := ⟨⟨(zT_in 443 (by decide +kernel) rfl), (zT_in 102 (by decide +kernel) rfl), ⟨by decide +kernel, by decide +kernel⟩, by decide +kernel⟩, Or.inl (zT_in 440 (by decide +kernel) rfl), (zT_in 442 (by decide +kernel) rfl), (zT_in 14 (by decide +kernel) rfl)⟩
theorem kX5_87 : zKv RX5 87 yX5_tryLoan cX5_tryLoan 6 (some .int) 4 := ⟨⟨(zT_in 459 (by decide +kernel) rfl), (zT_in 102 (by decide +kernel) rfl), ⟨by decide +kernel, by decide +kernel⟩, by decide +kernel⟩, Or.inl (zT_in 456 (by decide +kernel) rfl), (zT_in 458 (by decide +kernel) rfl), (zT_in 17 (by decide +kernel) rfl)⟩
theorem fX5_91 : zF RX5 91 1 12 := ⟨RX1, TX1, 14, rfl, uX1, by decide, Or.inr ⟨"ErrorBudgets", (zN_in 146 (by decide +kernel) rfl)⟩⟩
theorem kX5_95 : zKv RX5 95 yX2_has cX2_has 2 (some .boolean) 1 := ⟨⟨(zT_in 483 (by decide +kernel) rfl), (zT_in 104 (by decide +kernel) rfl), ⟨by decide +kernel, by decide +kernel⟩, by decide +kernel⟩, Or.inr ⟨"ErrorBudgets", (zN_in 379 (by decide +kernel) rfl)⟩, (zT_in 482 (by decide +kernel) rfl), (zT_in 22 (by decide +kernel) rfl)⟩
theorem kX5_100 : zKv RX5 100 yX1_payBack cX1_payBack 5 none 1 := ⟨⟨(zT_in 487 (by decide +kernel) rfl), (zT_in 103 (by decide +kernel) rfl), ⟨by decide +kernel, by decide +kernel⟩, by decide +kernel⟩, Or.inr ⟨"ErrorBudgets", (zN_in 383 (by decide +kernel) rfl)⟩, (zT_in 486 (by decide +kernel) rfl), (zT_in 23 (by decide +kernel) rfl)⟩
theorem fX5_104 : zF RX5 104 2 4 := ⟨RX2, TX2, 6, rfl, uX2, by decide, Or.inr ⟨"ErrorBudgets", (zN_in 55 (by decide +kernel) rfl)⟩⟩
theorem kX5_107 : zKv RX5 107 yX2_removePaid cX2_removePaid 3 none 0 := ⟨⟨(zT_in 494 (by decide +kernel) rfl), (zT_in 104 (by decide +kernel) rfl), ⟨by decide +kernel, by decide +kernel⟩, by decide +kernel⟩, Or.inr ⟨"ErrorBudgets", (zN_in 390 (by decide +kernel) rfl)⟩, (zT_in 493 (by decide +kernel) rfl), (zT_in 24 (by decide +kernel) rfl)⟩
theorem kX5_110 : zKv RX5 110 yX5_addPlan cX5_addPlan 5 (some .int) 4 := ⟨⟨(zT_in 502 (by decide +kernel) rfl), (zT_in 102 (by decide +kernel) rfl), ⟨by decide +kernel, by decide +kernel⟩, by decide +kernel⟩, Or.inl (zT_in 499 (by decide +kernel) rfl), (zT_in 501 (by decide +kernel) rfl), (zT_in 25 (by decide +kernel) rfl)⟩
theorem kX5_113 : zKv RX5 113 yX5_removePlan cX5_removePlan 2 (some .int) 1 := ⟨⟨(zT_in 522 (by decide +kernel) rfl), (zT_in 102 (by decide +kernel) rfl), ⟨by decide +kernel, by decide +kernel⟩, by decide +kernel⟩, Or.inl (zT_in 519 (by decide +kernel) rfl), (zT_in 521 (by decide +kernel) rfl), (zT_in 29 (by decide +kernel) rfl)⟩
theorem kX5_116 : zKv RX5 116 yX1_letPass cX1_letPass 3 (some .int) 1 := ⟨⟨(zT_in 542 (by decide +kernel) rfl), (zT_in 103 (by decide +kernel) rfl), ⟨by decide +kernel, by decide +kernel⟩, by decide +kernel⟩, Or.inr ⟨"ErrorBudgets", (zN_in 438 (by decide +kernel) rfl)⟩, (zT_in 541 (by decide +kernel) rfl), (zT_in 33 (by decide +kernel) rfl)⟩
theorem kX5_119 : zKv RX5 119 yX1_book cX1_book 7 none 3 := ⟨⟨(zT_in 401 (by decide +kernel) rfl), (zT_in 103 (by decide +kernel) rfl), ⟨by decide +kernel, by decide +kernel⟩, by decide +kernel⟩, Or.inr ⟨"ErrorBudgets", (zN_in 333 (by decide +kernel) rfl)⟩, (zT_in 400 (by decide +kernel) rfl), (zT_in 7 (by decide +kernel) rfl)⟩
theorem kX5_123 : zKv RX5 123 yX1_isFrozen cX1_isFrozen 2 (some .boolean) 1 := ⟨⟨(zT_in 413 (by decide +kernel) rfl), (zT_in 103 (by decide +kernel) rfl), ⟨by decide +kernel, by decide +kernel⟩, by decide +kernel⟩, Or.inr ⟨"ErrorBudgets", (zN_in 334 (by decide +kernel) rfl)⟩, (zT_in 412 (by decide +kernel) rfl), (zT_in 10 (by decide +kernel) rfl)⟩
theorem fX5_126 : zF RX5 126 1 7 := ⟨RX1, TX1, 14, rfl, uX1, by decide, Or.inr ⟨"ErrorBudgets", (zN_in 137 (by decide +kernel) rfl)⟩⟩
theorem kX5_129 : zKv RX5 129 yX5_refuse cX5_refuse 2 (some .int) 1 := ⟨⟨(zT_in 447 (by decide +kernel) rfl), (zT_in 102 (by decide +kernel) rfl), ⟨by decide +kernel, by decide +kernel⟩, by decide +kernel⟩, Or.inl (zT_in 444 (by decide +kernel) rfl), (zT_in 446 (by decide +kernel) rfl), (zT_in 15 (by decide +kernel) rfl)⟩
theorem kX5_132 : zKv RX5 132 yX1_doRelease cX1_doRelease 3 none 2 := ⟨⟨(zT_in 451 (by decide +kernel) rfl), (zT_in 103 (by decide +kernel) rfl), ⟨by decide +kernel, by decide +kernel⟩, by decide +kernel⟩, Or.inr ⟨"ErrorBudgets", (zN_in 347 (by decide +kernel) rfl)⟩, (zT_in 450 (by decide +kernel) rfl), (zT_in 16 (by decide +kernel) rfl)⟩
theorem fX5_136 : zF RX5 136 2 0 := ⟨RX2, TX2, 6, rfl, uX2, by decide, Or.inr ⟨"ErrorBudgets", (zN_in 44 (by decide +kernel) rfl)⟩⟩
theorem kX5_139 : zKv RX5 139 yX1_refusalOfLoan cX1_refusalOfLoan 4 (some .int) 3 := ⟨⟨(zT_in 463 (by decide +kernel) rfl), (zT_in 103 (by decide +kernel) rfl), ⟨by decide +kernel, by decide +kernel⟩, by decide +kernel⟩, Or.inr ⟨"ErrorBudgets", (zN_in 359 (by decide +kernel) rfl)⟩, (zT_in 462 (by decide +kernel) rfl), (zT_in 18 (by decide +kernel) rfl)⟩
theorem kX5_142 : zKv RX5 142 yX1_addLoan cX1_addLoan 6 (some .int) 4 := ⟨⟨(zT_in 471 (by decide +kernel) rfl), (zT_in 103 (by decide +kernel) rfl), ⟨by decide +kernel, by decide +kernel⟩, by decide +kernel⟩, Or.inr ⟨"ErrorBudgets", (zN_in 367 (by decide +kernel) rfl)⟩, (zT_in 470 (by decide +kernel) rfl), (zT_in 20 (by decide +kernel) rfl)⟩
theorem fX5_145 : zF RX5 145 1 1 := ⟨RX1, TX1, 14, rfl, uX1, by decide, Or.inr ⟨"ErrorBudgets", (zN_in 125 (by decide +kernel) rfl)⟩⟩
theorem fX5_148 : zF RX5 148 1 13 := ⟨RX1, TX1, 14, rfl, uX1, by decide, Or.inr ⟨"ErrorBudgets", (zN_in 148 (by decide +kernel) rfl)⟩⟩
theorem fX5_152 : zF RX5 152 4 0 := ⟨RX4, TX4, 9, rfl, uX4, by decide, Or.inr ⟨"ErrorBudgets", (zN_in 82 (by decide +kernel) rfl)⟩⟩
theorem kX5_155 : zKv RX5 155 yX4_add cX4_add 6 (some .int) 4 := ⟨⟨(zT_in 506 (by decide +kernel) rfl), (zT_in 105 (by decide +kernel) rfl), ⟨by decide +kernel, by decide +kernel⟩, by decide +kernel⟩, Or.inr ⟨"ErrorBudgets", (zN_in 402 (by decide +kernel) rfl)⟩, (zT_in 505 (by decide +kernel) rfl), (zT_in 26 (by decide +kernel) rfl)⟩
theorem kX5_158 : zKv RX5 158 yX4_has cX4_has 2 (some .boolean) 1 := ⟨⟨(zT_in 526 (by decide +kernel) rfl), (zT_in 105 (by decide +kernel) rfl), ⟨by decide +kernel, by decide +kernel⟩, by decide +kernel⟩, Or.inr ⟨"ErrorBudgets", (zN_in 422 (by decide +kernel) rfl)⟩, (zT_in 525 (by decide +kernel) rfl), (zT_in 30 (by decide +kernel) rfl)⟩
theorem fX5_159 : zF RX5 159 4 5 := ⟨RX4, TX4, 9, rfl, uX4, by decide, Or.inr ⟨"ErrorBudgets", (zN_in 96 (by decide +kernel) rfl)⟩⟩
theorem kX5_162 : zKv RX5 162 yX4_removeEnded cX4_removeEnded 4 none 0 := ⟨⟨(zT_in 530 (by decide +kernel) rfl), (zT_in 105 (by decide +kernel) rfl), ⟨by decide +kernel, by decide +kernel⟩, by decide +kernel⟩, Or.inr ⟨"ErrorBudgets", (zN_in 426 (by decide +kernel) rfl)⟩, (zT_in 529 (by decide +kernel) rfl), (zT_in 31 (by decide +kernel) rfl)⟩
theorem kX5_165 : zKv RX5 165 yX3_valueOf cX3_valueOf 3 (some .int) 2 := ⟨⟨(zT_in 768 (by decide +kernel) rfl), (zT_in 107 (by decide +kernel) rfl), ⟨by decide +kernel, by decide +kernel⟩, by decide +kernel⟩, Or.inr ⟨"ErrorBudgets", (zN_in 664 (by decide +kernel) rfl)⟩, (zT_in 767 (by decide +kernel) rfl), (zT_in 50 (by decide +kernel) rfl)⟩
theorem kX5_169 : zKv RX5 169 yX3_kindOf cX3_kindOf 2 (some .char) 1 := ⟨⟨(zT_in 772 (by decide +kernel) rfl), (zT_in 107 (by decide +kernel) rfl), ⟨by decide +kernel, by decide +kernel⟩, by decide +kernel⟩, Or.inr ⟨"ErrorBudgets", (zN_in 668 (by decide +kernel) rfl)⟩, (zT_in 771 (by decide +kernel) rfl), (zT_in 51 (by decide +kernel) rfl)⟩
theorem fX5_173 : zF RX5 173 2 2 := ⟨RX2, TX2, 6, rfl, uX2, by decide, Or.inr ⟨"ErrorBudgets", (zN_in 51 (by decide +kernel) rfl)⟩⟩
theorem kX5_176 : zKv RX5 176 yX2_countWith cX2_countWith 5 (some .int) 2 := ⟨⟨(zT_in 467 (by decide +kernel) rfl), (zT_in 104 (by decide +kernel) rfl), ⟨by decide +kernel, by decide +kernel⟩, by decide +kernel⟩, Or.inr ⟨"ErrorBudgets", (zN_in 475 (by decide +kernel) rfl)⟩, (zT_in 466 (by decide +kernel) rfl), (zT_in 19 (by decide +kernel) rfl)⟩
theorem fX5_180 : zF RX5 180 2 1 := ⟨RX2, TX2, 6, rfl, uX2, by decide, Or.inr ⟨"ErrorBudgets", (zN_in 48 (by decide +kernel) rfl)⟩⟩
theorem kX5_183 : zKv RX5 183 yX2_owedWith cX2_owedWith 5 (some .int) 2 := ⟨⟨(zT_in 580 (by decide +kernel) rfl), (zT_in 104 (by decide +kernel) rfl), ⟨by decide +kernel, by decide +kernel⟩, by decide +kernel⟩, Or.inr ⟨"ErrorBudgets", (zN_in 476 (by decide +kernel) rfl)⟩, (zT_in 579 (by decide +kernel) rfl), (zT_in 38 (by decide +kernel) rfl)⟩
theorem kX5_186 : zKv RX5 186 yX4_countWith cX4_countWith 4 (some .int) 1 := ⟨⟨(zT_in 584 (by decide +kernel) rfl), (zT_in 105 (by decide +kernel) rfl), ⟨by decide +kernel, by decide +kernel⟩, by decide +kernel⟩, Or.inr ⟨"ErrorBudgets", (zN_in 480 (by decide +kernel) rfl)⟩, (zT_in 583 (by decide +kernel) rfl), (zT_in 39 (by decide +kernel) rfl)⟩
theorem fX5_188 : zF RX5 188 1 8 := ⟨RX1, TX1, 14, rfl, uX1, by decide, Or.inr ⟨"ErrorBudgets", (zN_in 139 (by decide +kernel) rfl)⟩⟩
theorem fX5_191 : zF RX5 191 1 9 := ⟨RX1, TX1, 14, rfl, uX1, by decide, Or.inr ⟨"ErrorBudgets", (zN_in 141 (by decide +kernel) rfl)⟩⟩
theorem fX5_194 : zF RX5 194 1 10 := ⟨RX1, TX1, 14, rfl, uX1, by decide, Or.inr ⟨"ErrorBudgets", (zN_in 143 (by decide +kernel) rfl)⟩⟩
theorem qX5_197 : Cond.constantLong RX5 197 (-1) ∈ zTBL := (zT_in 589 (by decide +kernel) rfl)
theorem qX5_199 : Cond.constantLong RX5 199 (-2) ∈ zTBL := (zT_in 590 (by decide +kernel) rfl)
theorem kX5_201 : zKv RX5 201 yX1_minutesOf cX1_minutesOf 3 (some .long) 2 := ⟨⟨(zT_in 409 (by decide +kernel) rfl), (zT_in 103 (by decide +kernel) rfl), ⟨by decide +kernel, by decide +kernel⟩, by decide +kernel⟩, Or.inr ⟨"ErrorBudgets", (zN_in 490 (by decide +kernel) rfl)⟩, (zT_in 408 (by decide +kernel) rfl), (zT_in 9 (by decide +kernel) rfl)⟩
theorem fX5_205 : zF RX5 205 2 3 := ⟨RX2, TX2, 6, rfl, uX2, by decide, Or.inr ⟨"ErrorBudgets", (zN_in 53 (by decide +kernel) rfl)⟩⟩
theorem fX5_208 : zF RX5 208 2 5 := ⟨RX2, TX2, 6, rfl, uX2, by decide, Or.inr ⟨"ErrorBudgets", (zN_in 59 (by decide +kernel) rfl)⟩⟩
theorem fX5_211 : zF RX5 211 4 1 := ⟨RX4, TX4, 9, rfl, uX4, by decide, Or.inr ⟨"ErrorBudgets", (zN_in 86 (by decide +kernel) rfl)⟩⟩
theorem fX5_214 : zF RX5 214 4 2 := ⟨RX4, TX4, 9, rfl, uX4, by decide, Or.inr ⟨"ErrorBudgets", (zN_in 89 (by decide +kernel) rfl)⟩⟩
theorem fX5_216 : zF RX5 216 4 3 := ⟨RX4, TX4, 9, rfl, uX4, by decide, Or.inr ⟨"ErrorBudgets", (zN_in 92 (by decide +kernel) rfl)⟩⟩
theorem fX5_219 : zF RX5 219 4 4 := ⟨RX4, TX4, 9, rfl, uX4, by decide, Or.inr ⟨"ErrorBudgets", (zN_in 94 (by decide +kernel) rfl)⟩⟩
theorem fX5_222 : zF RX5 222 1 2 := ⟨RX1, TX1, 14, rfl, uX1, by decide, Or.inr ⟨"ErrorBudgets", (zN_in 127 (by decide +kernel) rfl)⟩⟩
theorem fX5_225 : zF RX5 225 1 3 := ⟨RX1, TX1, 14, rfl, uX1, by decide, Or.inr ⟨"ErrorBudgets", (zN_in 129 (by decide +kernel) rfl)⟩⟩
theorem fX5_228 : zF RX5 228 1 5 := ⟨RX1, TX1, 14, rfl, uX1, by decide, Or.inr ⟨"ErrorBudgets", (zN_in 133 (by decide +kernel) rfl)⟩⟩
theorem fX5_231 : zF RX5 231 3 1 := ⟨RX3, TX3, 6, rfl, uX3, by decide, Or.inr ⟨"ErrorBudgets", (zN_in 206 (by decide +kernel) rfl)⟩⟩
theorem pX5_231 : zFp RX5 231 3 1 .int false := ⟨RX3, TX3, 6, tyX3, rfl, uX3, by decide, Or.inr ⟨"ErrorBudgets", (zN_in 206 (by decide +kernel) rfl)⟩, tyX3_ok, nmX3, rfl, by decide +kernel, Or.inr rfl⟩
theorem fX5_234 : zF RX5 234 0 2 := ⟨RX0, TX0, 3, rfl, uX0, by decide, Or.inr ⟨"ErrorBudgets", (zN_in 190 (by decide +kernel) rfl)⟩⟩
theorem kX5_237 : zKv RX5 237 yX1_copyFrom cX1_copyFrom 2 none 1 := ⟨⟨(zT_in 368 (by decide +kernel) rfl), (zT_in 103 (by decide +kernel) rfl), ⟨by decide +kernel, by decide +kernel⟩, by decide +kernel⟩, Or.inr ⟨"ErrorBudgets", (zN_in 507 (by decide +kernel) rfl)⟩, (zT_in 367 (by decide +kernel) rfl), (zT_in 1 (by decide +kernel) rfl)⟩
theorem kX5_240 : zKv RX5 240 yX5_hoursUntil cX5_hoursUntil 4 (some .int) 2 := ⟨⟨(zT_in 616 (by decide +kernel) rfl), (zT_in 102 (by decide +kernel) rfl), ⟨by decide +kernel, by decide +kernel⟩, by decide +kernel⟩, Or.inl (zT_in 613 (by decide +kernel) rfl), (zT_in 615 (by decide +kernel) rfl), (zT_in 40 (by decide +kernel) rfl)⟩
theorem kX5_244 : zKv RX5 244 yX4_watch cX4_watch 2 none 1 := ⟨⟨(zT_in 385 (by decide +kernel) rfl), (zT_in 105 (by decide +kernel) rfl), ⟨by decide +kernel, by decide +kernel⟩, by decide +kernel⟩, Or.inr ⟨"ErrorBudgets", (zN_in 524 (by decide +kernel) rfl)⟩, (zT_in 384 (by decide +kernel) rfl), (zT_in 4 (by decide +kernel) rfl)⟩
theorem fX5_247 : zF RX5 247 4 8 := ⟨RX4, TX4, 9, rfl, uX4, by decide, Or.inr ⟨"ErrorBudgets", (zN_in 102 (by decide +kernel) rfl)⟩⟩
theorem kX5_250 : zKv RX5 250 yX1_thawLimit cX1_thawLimit 2 (some .int) 1 := ⟨⟨(zT_in 417 (by decide +kernel) rfl), (zT_in 103 (by decide +kernel) rfl), ⟨by decide +kernel, by decide +kernel⟩, by decide +kernel⟩, Or.inr ⟨"ErrorBudgets", (zN_in 533 (by decide +kernel) rfl)⟩, (zT_in 416 (by decide +kernel) rfl), (zT_in 11 (by decide +kernel) rfl)⟩
theorem kX5_253 : zKm RX5 253 Lib.MathLoose.max_long.x Lib.MathLoose.max_long.code 4 (some .long) := ⟨(zT_in 635 (by decide +kernel) rfl), (zT_in 549 (by decide +kernel) rfl), (zT_in 110 (by decide +kernel) rfl), (zT_in 550 (by decide +kernel) rfl)⟩
theorem qX5_259 : Cond.constantLong RX5 259 (200) ∈ zTBL := (zT_in 640 (by decide +kernel) rfl)
theorem kX5_261 : zKm RX5 261 Lib.MathLoose.min_long.x Lib.MathLoose.min_long.code 4 (some .long) := ⟨(zT_in 641 (by decide +kernel) rfl), (zT_in 489 (by decide +kernel) rfl), (zT_in 110 (by decide +kernel) rfl), (zT_in 490 (by decide +kernel) rfl)⟩
theorem kX5_264 : zKs RX5 264 yX5_charactersIn cX5_charactersIn 3 (some .int) 1 := ⟨⟨(zT_in 648 (by decide +kernel) rfl), (zT_in 102 (by decide +kernel) rfl), ⟨by decide +kernel, by decide +kernel⟩, by decide +kernel⟩, Or.inl (zT_in 646 (by decide +kernel) rfl), (zT_in 647 (by decide +kernel) rfl)⟩
theorem kX5_268 : zKs RX5 268 yX5_codeAt cX5_codeAt 3 (some .int) 2 := ⟨⟨(zT_in 651 (by decide +kernel) rfl), (zT_in 102 (by decide +kernel) rfl), ⟨by decide +kernel, by decide +kernel⟩, by decide +kernel⟩, Or.inl (zT_in 649 (by decide +kernel) rfl), (zT_in 650 (by decide +kernel) rfl)⟩
theorem kX5_272 : zKv RX5 272 yX3_append cX3_append 2 none 1 := ⟨⟨(zT_in 655 (by decide +kernel) rfl), (zT_in 107 (by decide +kernel) rfl), ⟨by decide +kernel, by decide +kernel⟩, by decide +kernel⟩, Or.inr ⟨"ErrorBudgets", (zN_in 551 (by decide +kernel) rfl)⟩, (zT_in 654 (by decide +kernel) rfl), (zT_in 41 (by decide +kernel) rfl)⟩
theorem kX5_275 : zKv RX5 275 yX3_readOrders cX3_readOrders 1 (some .int) 0 := ⟨⟨(zT_in 667 (by decide +kernel) rfl), (zT_in 107 (by decide +kernel) rfl), ⟨by decide +kernel, by decide +kernel⟩, by decide +kernel⟩, Or.inr ⟨"ErrorBudgets", (zN_in 563 (by decide +kernel) rfl)⟩, (zT_in 666 (by decide +kernel) rfl), (zT_in 42 (by decide +kernel) rfl)⟩
theorem fX5_279 : zF RX5 279 3 3 := ⟨RX3, TX3, 6, rfl, uX3, by decide, Or.inr ⟨"ErrorBudgets", (zN_in 209 (by decide +kernel) rfl)⟩⟩
theorem kX5_282 : zKv RX5 282 yX5_obey cX5_obey 6 (some .int) 1 := ⟨⟨(zT_in 764 (by decide +kernel) rfl), (zT_in 102 (by decide +kernel) rfl), ⟨by decide +kernel, by decide +kernel⟩, by decide +kernel⟩, Or.inl (zT_in 761 (by decide +kernel) rfl), (zT_in 763 (by decide +kernel) rfl), (zT_in 49 (by decide +kernel) rfl)⟩
theorem kX5_285 : zKv RX5 285 yX0_takeLatest cX0_takeLatest 1 (some (.object "ErrorBudgets$House")) 0 := ⟨⟨(zT_in 780 (by decide +kernel) rfl), (zT_in 106 (by decide +kernel) rfl), ⟨by decide +kernel, by decide +kernel⟩, by decide +kernel⟩, Or.inr ⟨"ErrorBudgets", (zN_in 676 (by decide +kernel) rfl)⟩, (zT_in 779 (by decide +kernel) rfl), (zT_in 52 (by decide +kernel) rfl)⟩
theorem fX6_7 : zF RX6 7 6 0 := ⟨RX6, TX6, 14, rfl, uX6, by decide, Or.inl (zT_in 804 (by decide +kernel) rfl)⟩
theorem pX6_7 : zFp RX6 7 6 0 (.array .long) true := ⟨RX6, TX6, 14, tyX6, rfl, uX6, by decide, Or.inl (zT_in 804 (by decide +kernel) rfl), tyX6_ok, nmX6, rfl, by decide +kernel, Or.inl rfl⟩
theorem fX6_13 : zF RX6 13 6 2 := ⟨RX6, TX6, 14, rfl, uX6, by decide, Or.inl (zT_in 806 (by decide +kernel) rfl)⟩
theorem pX6_13 : zFp RX6 13 6 2 (.array .boolean) true := ⟨RX6, TX6, 14, tyX6, rfl, uX6, by decide, Or.inl (zT_in 806 (by decide +kernel) rfl), tyX6_ok, nmX6, rfl, by decide +kernel, Or.inl rfl⟩
theorem fX6_17 : zF RX6 17 6 4 := ⟨RX6, TX6, 14, rfl, uX6, by decide, Or.inl (zT_in 808 (by decide +kernel) rfl)⟩
theorem pX6_17 : zFp RX6 17 6 4 (.array .int) true := ⟨RX6, TX6, 14, tyX6, rfl, uX6, by decide, Or.inl (zT_in 808 (by decide +kernel) rfl), tyX6_ok, nmX6, rfl, by decide +kernel, Or.inl rfl⟩
theorem fX6_21 : zF RX6 21 6 6 := ⟨RX6, TX6, 14, rfl, uX6, by decide, Or.inl (zT_in 810 (by decide +kernel) rfl)⟩
theorem pX6_21 : zFp RX6 21 6 6 .int false := ⟨RX6, TX6, 14, tyX6, rfl, uX6, by decide, Or.inl (zT_in 810 (by decide +kernel) rfl), tyX6_ok, nmX6, rfl, by decide +kernel, Or.inr rfl⟩
theorem fX6_25 : zF RX6 25 6 8 := ⟨RX6, TX6, 14, rfl, uX6, by decide, Or.inl (zT_in 812 (by decide +kernel) rfl)⟩
theorem pX6_25 : zFp RX6 25 6 8 (.array .boolean) true := ⟨RX6, TX6, 14, tyX6, rfl, uX6, by decide, Or.inl (zT_in 812 (by decide +kernel) rfl), tyX6_ok, nmX6, rfl, by decide +kernel, Or.inl rfl⟩
theorem fX6_28 : zF RX6 28 6 9 := ⟨RX6, TX6, 14, rfl, uX6, by decide, Or.inl (zT_in 813 (by decide +kernel) rfl)⟩
theorem pX6_28 : zFp RX6 28 6 9 (.array .boolean) true := ⟨RX6, TX6, 14, tyX6, rfl, uX6, by decide, Or.inl (zT_in 813 (by decide +kernel) rfl), tyX6_ok, nmX6, rfl, by decide +kernel, Or.inl rfl⟩
theorem fX6_31 : zF RX6 31 6 10 := ⟨RX6, TX6, 14, rfl, uX6, by decide, Or.inl (zT_in 814 (by decide +kernel) rfl)⟩
theorem pX6_31 : zFp RX6 31 6 10 (.array .int) true := ⟨RX6, TX6, 14, tyX6, rfl, uX6, by decide, Or.inl (zT_in 814 (by decide +kernel) rfl), tyX6_ok, nmX6, rfl, by decide +kernel, Or.inl rfl⟩
theorem fX6_34 : zF RX6 34 6 12 := ⟨RX6, TX6, 14, rfl, uX6, by decide, Or.inl (zT_in 816 (by decide +kernel) rfl)⟩
theorem pX6_34 : zFp RX6 34 6 12 (.array .int) true := ⟨RX6, TX6, 14, tyX6, rfl, uX6, by decide, Or.inl (zT_in 816 (by decide +kernel) rfl), tyX6_ok, nmX6, rfl, by decide +kernel, Or.inl rfl⟩
theorem qX6_37 : Cond.constantLong RX6 37 (168) ∈ zTBL := (zT_in 798 (by decide +kernel) rfl)
theorem qX6_39 : Cond.constantLong RX6 39 (25) ∈ zTBL := (zT_in 799 (by decide +kernel) rfl)
theorem qX6_41 : Cond.constantLong RX6 41 (10) ∈ zTBL := (zT_in 800 (by decide +kernel) rfl)
theorem qX6_43 : Cond.constantLong RX6 43 (20) ∈ zTBL := (zT_in 801 (by decide +kernel) rfl)
theorem qX6_45 : Cond.constantLong RX6 45 (48) ∈ zTBL := (zT_in 802 (by decide +kernel) rfl)
theorem qX6_47 : Cond.constantLong RX6 47 (3) ∈ zTBL := (zT_in 803 (by decide +kernel) rfl)
theorem fX6_49 : zF RX6 49 6 1 := ⟨RX6, TX6, 14, rfl, uX6, by decide, Or.inl (zT_in 805 (by decide +kernel) rfl)⟩
theorem pX6_49 : zFp RX6 49 6 1 .int false := ⟨RX6, TX6, 14, tyX6, rfl, uX6, by decide, Or.inl (zT_in 805 (by decide +kernel) rfl), tyX6_ok, nmX6, rfl, by decide +kernel, Or.inr rfl⟩
theorem kX6_52 : zKv RX6 52 yX6_copy cX6_copy 4 none 2 := ⟨⟨(zT_in 854 (by decide +kernel) rfl), (zT_in 108 (by decide +kernel) rfl), ⟨by decide +kernel, by decide +kernel⟩, by decide +kernel⟩, Or.inl (zT_in 851 (by decide +kernel) rfl), (zT_in 853 (by decide +kernel) rfl), (zT_in 53 (by decide +kernel) rfl)⟩
theorem kX6_56 : zKs RX6 56 yX6_in cX6_in 6 (some .boolean) 3 := ⟨⟨(zT_in 861 (by decide +kernel) rfl), (zT_in 108 (by decide +kernel) rfl), ⟨by decide +kernel, by decide +kernel⟩, by decide +kernel⟩, Or.inl (zT_in 859 (by decide +kernel) rfl), (zT_in 860 (by decide +kernel) rfl)⟩
theorem kX6_60 : zKv RX6 60 yX6_number cX6_number 2 (some .int) 1 := ⟨⟨(zT_in 865 (by decide +kernel) rfl), (zT_in 108 (by decide +kernel) rfl), ⟨by decide +kernel, by decide +kernel⟩, by decide +kernel⟩, Or.inl (zT_in 862 (by decide +kernel) rfl), (zT_in 864 (by decide +kernel) rfl), (zT_in 54 (by decide +kernel) rfl)⟩
theorem kX6_64 : zKv RX6 64 yX6_record cX6_record 2 none 0 := ⟨⟨(zT_in 873 (by decide +kernel) rfl), (zT_in 108 (by decide +kernel) rfl), ⟨by decide +kernel, by decide +kernel⟩, by decide +kernel⟩, Or.inl (zT_in 870 (by decide +kernel) rfl), (zT_in 872 (by decide +kernel) rfl), (zT_in 55 (by decide +kernel) rfl)⟩
theorem fX6_67 : zF RX6 67 6 3 := ⟨RX6, TX6, 14, rfl, uX6, by decide, Or.inl (zT_in 807 (by decide +kernel) rfl)⟩
theorem pX6_67 : zFp RX6 67 6 3 .int false := ⟨RX6, TX6, 14, tyX6, rfl, uX6, by decide, Or.inl (zT_in 807 (by decide +kernel) rfl), tyX6_ok, nmX6, rfl, by decide +kernel, Or.inr rfl⟩
theorem qX6_70 : Cond.constantLong RX6 70 (12) ∈ zTBL := (zT_in 881 (by decide +kernel) rfl)
theorem qX6_72 : Cond.constantLong RX6 72 (720) ∈ zTBL := (zT_in 882 (by decide +kernel) rfl)
theorem qX6_74 : Cond.constantLong RX6 74 (300) ∈ zTBL := (zT_in 883 (by decide +kernel) rfl)
theorem qX6_76 : Cond.constantLong RX6 76 (9) ∈ zTBL := (zT_in 884 (by decide +kernel) rfl)
theorem qX6_78 : Cond.constantLong RX6 78 (4) ∈ zTBL := (zT_in 885 (by decide +kernel) rfl)
theorem qX6_80 : Cond.constantLong RX6 80 (100) ∈ zTBL := (zT_in 886 (by decide +kernel) rfl)
theorem kX6_82 : zKs RX6 82 yX6_isSetting cX6_isSetting 2 (some .boolean) 2 := ⟨⟨(zT_in 880 (by decide +kernel) rfl), (zT_in 108 (by decide +kernel) rfl), ⟨by decide +kernel, by decide +kernel⟩, by decide +kernel⟩, Or.inl (zT_in 878 (by decide +kernel) rfl), (zT_in 879 (by decide +kernel) rfl)⟩
theorem kX6_86 : zKs RX6 86 yX6_of cX6_of 2 (some .int) 2 := ⟨⟨(zT_in 895 (by decide +kernel) rfl), (zT_in 108 (by decide +kernel) rfl), ⟨by decide +kernel, by decide +kernel⟩, by decide +kernel⟩, Or.inl (zT_in 893 (by decide +kernel) rfl), (zT_in 894 (by decide +kernel) rfl)⟩
theorem kX6_90 : zKv RX6 90 yX6_left cX6_left 2 (some .long) 1 := ⟨⟨(zT_in 927 (by decide +kernel) rfl), (zT_in 108 (by decide +kernel) rfl), ⟨by decide +kernel, by decide +kernel⟩, by decide +kernel⟩, Or.inl (zT_in 924 (by decide +kernel) rfl), (zT_in 926 (by decide +kernel) rfl), (zT_in 60 (by decide +kernel) rfl)⟩
theorem kX6_94 : zKv RX6 94 yX6_isFrozen cX6_isFrozen 2 (some .boolean) 1 := ⟨⟨(zT_in 931 (by decide +kernel) rfl), (zT_in 108 (by decide +kernel) rfl), ⟨by decide +kernel, by decide +kernel⟩, by decide +kernel⟩, Or.inl (zT_in 928 (by decide +kernel) rfl), (zT_in 930 (by decide +kernel) rfl), (zT_in 61 (by decide +kernel) rfl)⟩
theorem kX6_98 : zKv RX6 98 yX6_thawing cX6_thawing 2 (some .long) 1 := ⟨⟨(zT_in 935 (by decide +kernel) rfl), (zT_in 108 (by decide +kernel) rfl), ⟨by decide +kernel, by decide +kernel⟩, by decide +kernel⟩, Or.inl (zT_in 932 (by decide +kernel) rfl), (zT_in 934 (by decide +kernel) rfl), (zT_in 62 (by decide +kernel) rfl)⟩
theorem qX6_101 : Cond.constantLong RX6 101 (10000) ∈ zTBL := (zT_in 891 (by decide +kernel) rfl)
theorem qX6_103 : Cond.constantLong RX6 103 (8) ∈ zTBL := (zT_in 892 (by decide +kernel) rfl)
theorem kX6_105 : zKs RX6 105 yX6_accountOf cX6_accountOf 2 (some .int) 2 := ⟨⟨(zT_in 898 (by decide +kernel) rfl), (zT_in 108 (by decide +kernel) rfl), ⟨by decide +kernel, by decide +kernel⟩, by decide +kernel⟩, Or.inl (zT_in 896 (by decide +kernel) rfl), (zT_in 897 (by decide +kernel) rfl)⟩
theorem kX6_108 : zKv RX6 108 yX6_isService cX6_isService 2 (some .boolean) 1 := ⟨⟨(zT_in 906 (by decide +kernel) rfl), (zT_in 108 (by decide +kernel) rfl), ⟨by decide +kernel, by decide +kernel⟩, by decide +kernel⟩, Or.inl (zT_in 903 (by decide +kernel) rfl), (zT_in 905 (by decide +kernel) rfl), (zT_in 56 (by decide +kernel) rfl)⟩
theorem kX6_111 : zKv RX6 111 yX6_change cX6_change 4 none 2 := ⟨⟨(zT_in 923 (by decide +kernel) rfl), (zT_in 108 (by decide +kernel) rfl), ⟨by decide +kernel, by decide +kernel⟩, by decide +kernel⟩, Or.inl (zT_in 920 (by decide +kernel) rfl), (zT_in 922 (by decide +kernel) rfl), (zT_in 59 (by decide +kernel) rfl)⟩
theorem qX6_115 : Cond.constantLong RX6 115 (600) ∈ zTBL := (zT_in 915 (by decide +kernel) rfl)
theorem kX6_117 : zKv RX6 117 yX6_noOutage cX6_noOutage 4 (some .int) 3 := ⟨⟨(zT_in 914 (by decide +kernel) rfl), (zT_in 108 (by decide +kernel) rfl), ⟨by decide +kernel, by decide +kernel⟩, by decide +kernel⟩, Or.inl (zT_in 911 (by decide +kernel) rfl), (zT_in 913 (by decide +kernel) rfl), (zT_in 57 (by decide +kernel) rfl)⟩
theorem kX6_121 : zKv RX6 121 yX6_doOutage cX6_doOutage 5 (some .int) 3 := ⟨⟨(zT_in 919 (by decide +kernel) rfl), (zT_in 108 (by decide +kernel) rfl), ⟨by decide +kernel, by decide +kernel⟩, by decide +kernel⟩, Or.inl (zT_in 916 (by decide +kernel) rfl), (zT_in 918 (by decide +kernel) rfl), (zT_in 58 (by decide +kernel) rfl)⟩
theorem kX6_124 : zKv RX6 124 yX6_spend cX6_spend 4 none 2 := ⟨⟨(zT_in 956 (by decide +kernel) rfl), (zT_in 108 (by decide +kernel) rfl), ⟨by decide +kernel, by decide +kernel⟩, by decide +kernel⟩, Or.inl (zT_in 953 (by decide +kernel) rfl), (zT_in 955 (by decide +kernel) rfl), (zT_in 66 (by decide +kernel) rfl)⟩
theorem qX6_127 : Cond.constantLong RX6 127 (200) ∈ zTBL := (zT_in 944 (by decide +kernel) rfl)
theorem kX6_129 : zKv RX6 129 yX6_refuse cX6_refuse 2 (some .int) 1 := ⟨⟨(zT_in 948 (by decide +kernel) rfl), (zT_in 108 (by decide +kernel) rfl), ⟨by decide +kernel, by decide +kernel⟩, by decide +kernel⟩, Or.inl (zT_in 945 (by decide +kernel) rfl), (zT_in 947 (by decide +kernel) rfl), (zT_in 64 (by decide +kernel) rfl)⟩
theorem kX6_132 : zKv RX6 132 yX6_noRelease cX6_noRelease 4 (some .int) 3 := ⟨⟨(zT_in 943 (by decide +kernel) rfl), (zT_in 108 (by decide +kernel) rfl), ⟨by decide +kernel, by decide +kernel⟩, by decide +kernel⟩, Or.inl (zT_in 940 (by decide +kernel) rfl), (zT_in 942 (by decide +kernel) rfl), (zT_in 63 (by decide +kernel) rfl)⟩
theorem kX6_135 : zKv RX6 135 yX6_doRelease cX6_doRelease 4 (some .int) 2 := ⟨⟨(zT_in 952 (by decide +kernel) rfl), (zT_in 108 (by decide +kernel) rfl), ⟨by decide +kernel, by decide +kernel⟩, by decide +kernel⟩, Or.inl (zT_in 949 (by decide +kernel) rfl), (zT_in 951 (by decide +kernel) rfl), (zT_in 65 (by decide +kernel) rfl)⟩
theorem kX6_138 : zKs RX6 138 yX6_ofLoanAt cX6_ofLoanAt 2 (some .int) 2 := ⟨⟨(zT_in 977 (by decide +kernel) rfl), (zT_in 108 (by decide +kernel) rfl), ⟨by decide +kernel, by decide +kernel⟩, by decide +kernel⟩, Or.inl (zT_in 975 (by decide +kernel) rfl), (zT_in 976 (by decide +kernel) rfl)⟩
theorem kX6_141 : zKv RX6 141 yX6_loansOf cX6_loansOf 5 (some .int) 2 := ⟨⟨(zT_in 974 (by decide +kernel) rfl), (zT_in 108 (by decide +kernel) rfl), ⟨by decide +kernel, by decide +kernel⟩, by decide +kernel⟩, Or.inl (zT_in 971 (by decide +kernel) rfl), (zT_in 973 (by decide +kernel) rfl), (zT_in 69 (by decide +kernel) rfl)⟩
theorem qX6_144 : Cond.constantLong RX6 144 (5000) ∈ zTBL := (zT_in 965 (by decide +kernel) rfl)
theorem qX6_146 : Cond.constantLong RX6 146 (40) ∈ zTBL := (zT_in 966 (by decide +kernel) rfl)
theorem kX6_148 : zKv RX6 148 yX6_whyNot cX6_whyNot 4 (some .int) 3 := ⟨⟨(zT_in 970 (by decide +kernel) rfl), (zT_in 108 (by decide +kernel) rfl), ⟨by decide +kernel, by decide +kernel⟩, by decide +kernel⟩, Or.inl (zT_in 967 (by decide +kernel) rfl), (zT_in 969 (by decide +kernel) rfl), (zT_in 68 (by decide +kernel) rfl)⟩
theorem kX6_151 : zKv RX6 151 yX6_noLend cX6_noLend 6 (some .int) 4 := ⟨⟨(zT_in 964 (by decide +kernel) rfl), (zT_in 108 (by decide +kernel) rfl), ⟨by decide +kernel, by decide +kernel⟩, by decide +kernel⟩, Or.inl (zT_in 961 (by decide +kernel) rfl), (zT_in 963 (by decide +kernel) rfl), (zT_in 67 (by decide +kernel) rfl)⟩
theorem kX6_155 : zKv RX6 155 yX6_doLend cX6_doLend 6 (some .int) 4 := ⟨⟨(zT_in 981 (by decide +kernel) rfl), (zT_in 108 (by decide +kernel) rfl), ⟨by decide +kernel, by decide +kernel⟩, by decide +kernel⟩, Or.inl (zT_in 978 (by decide +kernel) rfl), (zT_in 980 (by decide +kernel) rfl), (zT_in 70 (by decide +kernel) rfl)⟩
theorem kX6_158 : zKv RX6 158 yX6_isLoan cX6_isLoan 2 (some .boolean) 1 := ⟨⟨(zT_in 989 (by decide +kernel) rfl), (zT_in 108 (by decide +kernel) rfl), ⟨by decide +kernel, by decide +kernel⟩, by decide +kernel⟩, Or.inl (zT_in 986 (by decide +kernel) rfl), (zT_in 988 (by decide +kernel) rfl), (zT_in 71 (by decide +kernel) rfl)⟩
theorem kX6_161 : zKv RX6 161 yX6_pay cX6_pay 10 none 1 := ⟨⟨(zT_in 993 (by decide +kernel) rfl), (zT_in 108 (by decide +kernel) rfl), ⟨by decide +kernel, by decide +kernel⟩, by decide +kernel⟩, Or.inl (zT_in 990 (by decide +kernel) rfl), (zT_in 992 (by decide +kernel) rfl), (zT_in 72 (by decide +kernel) rfl)⟩
theorem kX6_165 : zKv RX6 165 yX6_clearLoans cX6_clearLoans 4 none 0 := ⟨⟨(zT_in 997 (by decide +kernel) rfl), (zT_in 108 (by decide +kernel) rfl), ⟨by decide +kernel, by decide +kernel⟩, by decide +kernel⟩, Or.inl (zT_in 994 (by decide +kernel) rfl), (zT_in 996 (by decide +kernel) rfl), (zT_in 73 (by decide +kernel) rfl)⟩
theorem qX6_168 : Cond.constantLong RX6 168 (2000) ∈ zTBL := (zT_in 1006 (by decide +kernel) rfl)
theorem qX6_170 : Cond.constantLong RX6 170 (30) ∈ zTBL := (zT_in 1007 (by decide +kernel) rfl)
theorem kX6_172 : zKs RX6 172 yX6_ofPlanAt cX6_ofPlanAt 2 (some .int) 2 := ⟨⟨(zT_in 1014 (by decide +kernel) rfl), (zT_in 108 (by decide +kernel) rfl), ⟨by decide +kernel, by decide +kernel⟩, by decide +kernel⟩, Or.inl (zT_in 1012 (by decide +kernel) rfl), (zT_in 1013 (by decide +kernel) rfl)⟩
theorem kX6_175 : zKv RX6 175 yX6_noPlan cX6_noPlan 5 (some .int) 4 := ⟨⟨(zT_in 1005 (by decide +kernel) rfl), (zT_in 108 (by decide +kernel) rfl), ⟨by decide +kernel, by decide +kernel⟩, by decide +kernel⟩, Or.inl (zT_in 1002 (by decide +kernel) rfl), (zT_in 1004 (by decide +kernel) rfl), (zT_in 74 (by decide +kernel) rfl)⟩
theorem kX6_178 : zKv RX6 178 yX6_doPlan cX6_doPlan 6 (some .int) 4 := ⟨⟨(zT_in 1011 (by decide +kernel) rfl), (zT_in 108 (by decide +kernel) rfl), ⟨by decide +kernel, by decide +kernel⟩, by decide +kernel⟩, Or.inl (zT_in 1008 (by decide +kernel) rfl), (zT_in 1010 (by decide +kernel) rfl), (zT_in 75 (by decide +kernel) rfl)⟩
theorem kX6_181 : zKv RX6 181 yX6_clearPlans cX6_clearPlans 5 none 0 := ⟨⟨(zT_in 1030 (by decide +kernel) rfl), (zT_in 108 (by decide +kernel) rfl), ⟨by decide +kernel, by decide +kernel⟩, by decide +kernel⟩, Or.inl (zT_in 1027 (by decide +kernel) rfl), (zT_in 1029 (by decide +kernel) rfl), (zT_in 78 (by decide +kernel) rfl)⟩
theorem kX6_184 : zKv RX6 184 yX6_isPlan cX6_isPlan 2 (some .boolean) 1 := ⟨⟨(zT_in 1022 (by decide +kernel) rfl), (zT_in 108 (by decide +kernel) rfl), ⟨by decide +kernel, by decide +kernel⟩, by decide +kernel⟩, Or.inl (zT_in 1019 (by decide +kernel) rfl), (zT_in 1021 (by decide +kernel) rfl), (zT_in 76 (by decide +kernel) rfl)⟩
theorem kX6_187 : zKv RX6 187 yX6_doDrop cX6_doDrop 2 (some .int) 1 := ⟨⟨(zT_in 1026 (by decide +kernel) rfl), (zT_in 108 (by decide +kernel) rfl), ⟨by decide +kernel, by decide +kernel⟩, by decide +kernel⟩, Or.inl (zT_in 1023 (by decide +kernel) rfl), (zT_in 1025 (by decide +kernel) rfl), (zT_in 77 (by decide +kernel) rfl)⟩
theorem kX6_190 : zKv RX6 190 yX6_isAhead cX6_isAhead 5 (some .boolean) 2 := ⟨⟨(zT_in 1068 (by decide +kernel) rfl), (zT_in 108 (by decide +kernel) rfl), ⟨by decide +kernel, by decide +kernel⟩, by decide +kernel⟩, Or.inl (zT_in 1065 (by decide +kernel) rfl), (zT_in 1067 (by decide +kernel) rfl), (zT_in 86 (by decide +kernel) rfl)⟩
theorem kX6_193 : zKv RX6 193 yX6_nextPlan cX6_nextPlan 4 (some .int) 0 := ⟨⟨(zT_in 1064 (by decide +kernel) rfl), (zT_in 108 (by decide +kernel) rfl), ⟨by decide +kernel, by decide +kernel⟩, by decide +kernel⟩, Or.inl (zT_in 1061 (by decide +kernel) rfl), (zT_in 1063 (by decide +kernel) rfl), (zT_in 85 (by decide +kernel) rfl)⟩
theorem fX6_197 : zF RX6 197 6 7 := ⟨RX6, TX6, 14, rfl, uX6, by decide, Or.inl (zT_in 811 (by decide +kernel) rfl)⟩
theorem pX6_197 : zFp RX6 197 6 7 .int false := ⟨RX6, TX6, 14, tyX6, rfl, uX6, by decide, Or.inl (zT_in 811 (by decide +kernel) rfl), tyX6_ok, nmX6, rfl, by decide +kernel, Or.inr rfl⟩
theorem kX6_200 : zKv RX6 200 yX6_grant cX6_grant 8 none 1 := ⟨⟨(zT_in 1051 (by decide +kernel) rfl), (zT_in 108 (by decide +kernel) rfl), ⟨by decide +kernel, by decide +kernel⟩, by decide +kernel⟩, Or.inl (zT_in 1048 (by decide +kernel) rfl), (zT_in 1050 (by decide +kernel) rfl), (zT_in 82 (by decide +kernel) rfl)⟩
theorem kX6_203 : zKv RX6 203 yX6_nextLoan cX6_nextLoan 4 (some .int) 0 := ⟨⟨(zT_in 1055 (by decide +kernel) rfl), (zT_in 108 (by decide +kernel) rfl), ⟨by decide +kernel, by decide +kernel⟩, by decide +kernel⟩, Or.inl (zT_in 1052 (by decide +kernel) rfl), (zT_in 1054 (by decide +kernel) rfl), (zT_in 83 (by decide +kernel) rfl)⟩
theorem qX6_206 : Cond.constantLong RX6 206 (10000000) ∈ zTBL := (zT_in 1056 (by decide +kernel) rfl)
theorem kX6_208 : zKv RX6 208 yX6_beginWindow cX6_beginWindow 4 none 0 := ⟨⟨(zT_in 1047 (by decide +kernel) rfl), (zT_in 108 (by decide +kernel) rfl), ⟨by decide +kernel, by decide +kernel⟩, by decide +kernel⟩, Or.inl (zT_in 1044 (by decide +kernel) rfl), (zT_in 1046 (by decide +kernel) rfl), (zT_in 81 (by decide +kernel) rfl)⟩
theorem kX6_211 : zKv RX6 211 yX6_doPlans cX6_doPlans 4 none 0 := ⟨⟨(zT_in 1060 (by decide +kernel) rfl), (zT_in 108 (by decide +kernel) rfl), ⟨by decide +kernel, by decide +kernel⟩, by decide +kernel⟩, Or.inl (zT_in 1057 (by decide +kernel) rfl), (zT_in 1059 (by decide +kernel) rfl), (zT_in 84 (by decide +kernel) rfl)⟩
theorem kX6_214 : zKv RX6 214 yX6_passHour cX6_passHour 1 none 0 := ⟨⟨(zT_in 1043 (by decide +kernel) rfl), (zT_in 108 (by decide +kernel) rfl), ⟨by decide +kernel, by decide +kernel⟩, by decide +kernel⟩, Or.inl (zT_in 1040 (by decide +kernel) rfl), (zT_in 1042 (by decide +kernel) rfl), (zT_in 80 (by decide +kernel) rfl)⟩
theorem qX6_217 : Cond.constantLong RX6 217 (1000) ∈ zTBL := (zT_in 1035 (by decide +kernel) rfl)
theorem kX6_219 : zKv RX6 219 yX6_pass cX6_pass 3 (some .int) 1 := ⟨⟨(zT_in 1039 (by decide +kernel) rfl), (zT_in 108 (by decide +kernel) rfl), ⟨by decide +kernel, by decide +kernel⟩, by decide +kernel⟩, Or.inl (zT_in 1036 (by decide +kernel) rfl), (zT_in 1038 (by decide +kernel) rfl), (zT_in 79 (by decide +kernel) rfl)⟩
theorem kX6_222 : zKv RX6 222 yX6_owedOf cX6_owedOf 5 (some .int) 2 := ⟨⟨(zT_in 1076 (by decide +kernel) rfl), (zT_in 108 (by decide +kernel) rfl), ⟨by decide +kernel, by decide +kernel⟩, by decide +kernel⟩, Or.inl (zT_in 1073 (by decide +kernel) rfl), (zT_in 1075 (by decide +kernel) rfl), (zT_in 87 (by decide +kernel) rfl)⟩
theorem kX6_225 : zKv RX6 225 yX6_plansOf cX6_plansOf 4 (some .int) 1 := ⟨⟨(zT_in 1080 (by decide +kernel) rfl), (zT_in 108 (by decide +kernel) rfl), ⟨by decide +kernel, by decide +kernel⟩, by decide +kernel⟩, Or.inl (zT_in 1077 (by decide +kernel) rfl), (zT_in 1079 (by decide +kernel) rfl), (zT_in 88 (by decide +kernel) rfl)⟩
theorem qX6_228 : Cond.constantLong RX6 228 (-1) ∈ zTBL := (zT_in 1085 (by decide +kernel) rfl)
theorem qX6_230 : Cond.constantLong RX6 230 (7) ∈ zTBL := (zT_in 1086 (by decide +kernel) rfl)
theorem qX6_232 : Cond.constantLong RX6 232 (-2) ∈ zTBL := (zT_in 1087 (by decide +kernel) rfl)
theorem kX6_234 : zKv RX6 234 yX6_frozenSet cX6_frozenSet 3 (some .int) 0 := ⟨⟨(zT_in 1103 (by decide +kernel) rfl), (zT_in 108 (by decide +kernel) rfl), ⟨by decide +kernel, by decide +kernel⟩, by decide +kernel⟩, Or.inl (zT_in 1100 (by decide +kernel) rfl), (zT_in 1102 (by decide +kernel) rfl), (zT_in 89 (by decide +kernel) rfl)⟩
theorem fX6_237 : zF RX6 237 6 5 := ⟨RX6, TX6, 14, rfl, uX6, by decide, Or.inl (zT_in 809 (by decide +kernel) rfl)⟩
theorem pX6_237 : zFp RX6 237 6 5 .int false := ⟨RX6, TX6, 14, tyX6, rfl, uX6, by decide, Or.inl (zT_in 809 (by decide +kernel) rfl), tyX6_ok, nmX6, rfl, by decide +kernel, Or.inr rfl⟩
theorem qX6_240 : Cond.constantLong RX6 240 (17) ∈ zTBL := (zT_in 1104 (by decide +kernel) rfl)
theorem kX6_242 : zKv RX6 242 yX6_hoursTo cX6_hoursTo 5 (some .int) 2 := ⟨⟨(zT_in 1116 (by decide +kernel) rfl), (zT_in 108 (by decide +kernel) rfl), ⟨by decide +kernel, by decide +kernel⟩, by decide +kernel⟩, Or.inl (zT_in 1113 (by decide +kernel) rfl), (zT_in 1115 (by decide +kernel) rfl), (zT_in 90 (by decide +kernel) rfl)⟩
theorem qX6_246 : Cond.constantLong RX6 246 (255) ∈ zTBL := (zT_in 1141 (by decide +kernel) rfl)
theorem qX6_248 : Cond.constantLong RX6 248 (33) ∈ zTBL := (zT_in 1142 (by decide +kernel) rfl)
theorem qX6_250 : Cond.constantLong RX6 250 (126) ∈ zTBL := (zT_in 1143 (by decide +kernel) rfl)
theorem fX6_252 : zF RX6 252 6 11 := ⟨RX6, TX6, 14, rfl, uX6, by decide, Or.inl (zT_in 815 (by decide +kernel) rfl)⟩
theorem pX6_252 : zFp RX6 252 6 11 .int false := ⟨RX6, TX6, 14, tyX6, rfl, uX6, by decide, Or.inl (zT_in 815 (by decide +kernel) rfl), tyX6_ok, nmX6, rfl, by decide +kernel, Or.inr rfl⟩
theorem kX6_255 : zKv RX6 255 yX6_code cX6_code 1 (some .int) 0 := ⟨⟨(zT_in 1163 (by decide +kernel) rfl), (zT_in 108 (by decide +kernel) rfl), ⟨by decide +kernel, by decide +kernel⟩, by decide +kernel⟩, Or.inl (zT_in 1160 (by decide +kernel) rfl), (zT_in 1162 (by decide +kernel) rfl), (zT_in 93 (by decide +kernel) rfl)⟩
theorem qX6_258 : Cond.constantLong RX6 258 (57) ∈ zTBL := (zT_in 1184 (by decide +kernel) rfl)
theorem fX6_260 : zF RX6 260 6 13 := ⟨RX6, TX6, 14, rfl, uX6, by decide, Or.inl (zT_in 817 (by decide +kernel) rfl)⟩
theorem pX6_260 : zFp RX6 260 6 13 .int false := ⟨RX6, TX6, 14, tyX6, rfl, uX6, by decide, Or.inl (zT_in 817 (by decide +kernel) rfl), tyX6_ok, nmX6, rfl, by decide +kernel, Or.inr rfl⟩
theorem kX6_263 : zKv RX6 263 yX6_isDigit cX6_isDigit 1 (some .boolean) 0 := ⟨⟨(zT_in 1183 (by decide +kernel) rfl), (zT_in 108 (by decide +kernel) rfl), ⟨by decide +kernel, by decide +kernel⟩, by decide +kernel⟩, Or.inl (zT_in 1180 (by decide +kernel) rfl), (zT_in 1182 (by decide +kernel) rfl), (zT_in 98 (by decide +kernel) rfl)⟩
theorem kX6_267 : zKv RX6 267 yX6_readsDigit cX6_readsDigit 2 (some .boolean) 1 := ⟨⟨(zT_in 1175 (by decide +kernel) rfl), (zT_in 108 (by decide +kernel) rfl), ⟨by decide +kernel, by decide +kernel⟩, by decide +kernel⟩, Or.inl (zT_in 1172 (by decide +kernel) rfl), (zT_in 1174 (by decide +kernel) rfl), (zT_in 96 (by decide +kernel) rfl)⟩
theorem kX6_270 : zKv RX6 270 yX6_readsNumber cX6_readsNumber 2 (some .boolean) 0 := ⟨⟨(zT_in 1179 (by decide +kernel) rfl), (zT_in 108 (by decide +kernel) rfl), ⟨by decide +kernel, by decide +kernel⟩, by decide +kernel⟩, Or.inl (zT_in 1176 (by decide +kernel) rfl), (zT_in 1178 (by decide +kernel) rfl), (zT_in 97 (by decide +kernel) rfl)⟩
theorem kX6_273 : zKv RX6 273 yX6_reads cX6_reads 3 (some .boolean) 1 := ⟨⟨(zT_in 1188 (by decide +kernel) rfl), (zT_in 108 (by decide +kernel) rfl), ⟨by decide +kernel, by decide +kernel⟩, by decide +kernel⟩, Or.inl (zT_in 1185 (by decide +kernel) rfl), (zT_in 1187 (by decide +kernel) rfl), (zT_in 99 (by decide +kernel) rfl)⟩
theorem kX6_276 : zKv RX6 276 yX6_orderOf cX6_orderOf 2 (some .int) 1 := ⟨⟨(zT_in 1167 (by decide +kernel) rfl), (zT_in 108 (by decide +kernel) rfl), ⟨by decide +kernel, by decide +kernel⟩, by decide +kernel⟩, Or.inl (zT_in 1164 (by decide +kernel) rfl), (zT_in 1166 (by decide +kernel) rfl), (zT_in 94 (by decide +kernel) rfl)⟩
theorem kX6_279 : zKv RX6 279 yX6_readsPart cX6_readsPart 2 (some .boolean) 1 := ⟨⟨(zT_in 1171 (by decide +kernel) rfl), (zT_in 108 (by decide +kernel) rfl), ⟨by decide +kernel, by decide +kernel⟩, by decide +kernel⟩, Or.inl (zT_in 1168 (by decide +kernel) rfl), (zT_in 1170 (by decide +kernel) rfl), (zT_in 95 (by decide +kernel) rfl)⟩
theorem kX6_282 : zKv RX6 282 yX6_readsOrder cX6_readsOrder 4 (some .int) 0 := ⟨⟨(zT_in 1159 (by decide +kernel) rfl), (zT_in 108 (by decide +kernel) rfl), ⟨by decide +kernel, by decide +kernel⟩, by decide +kernel⟩, Or.inl (zT_in 1156 (by decide +kernel) rfl), (zT_in 1158 (by decide +kernel) rfl), (zT_in 92 (by decide +kernel) rfl)⟩
theorem kX6_285 : zKv RX6 285 yX6_faultOf cX6_faultOf 2 (some .int) 0 := ⟨⟨(zT_in 1155 (by decide +kernel) rfl), (zT_in 108 (by decide +kernel) rfl), ⟨by decide +kernel, by decide +kernel⟩, by decide +kernel⟩, Or.inl (zT_in 1152 (by decide +kernel) rfl), (zT_in 1154 (by decide +kernel) rfl), (zT_in 91 (by decide +kernel) rfl)⟩
theorem kX6_288 : zKv RX6 288 yX6_does cX6_does 7 (some .boolean) 1 := ⟨⟨(zT_in 1196 (by decide +kernel) rfl), (zT_in 108 (by decide +kernel) rfl), ⟨by decide +kernel, by decide +kernel⟩, by decide +kernel⟩, Or.inl (zT_in 1193 (by decide +kernel) rfl), (zT_in 1195 (by decide +kernel) rfl), (zT_in 100 (by decide +kernel) rfl)⟩
end
section
theorem eX0_init_0 : zD cX0_init 0 (.aload_n 0) 1 1 := ⟨by decide +kernel, rfl⟩
theorem eX0_init_1 : zD cX0_init 1 (.invokespecial 3) 3 4 := ⟨by decide +kernel, rfl⟩
theorem eX0_init_4 : zD cX0_init 4 (.aload_n 0) 1 5 := ⟨by decide +kernel, rfl⟩
theorem eX0_init_5 : zD cX0_init 5 (.bipush 7) 2 7 := ⟨by decide +kernel, rfl⟩
theorem eX0_init_7 : zD cX0_init 7 (.anewarray 9) 3 10 := ⟨by decide +kernel, rfl⟩
theorem eX0_init_10 : zD cX0_init 10 (.putfield 11) 3 13 := ⟨by decide +kernel, rfl⟩
theorem eX0_init_13 : zD cX0_init 13 (.aload_n 0) 1 14 := ⟨by decide +kernel, rfl⟩
theorem eX0_init_14 : zD cX0_init 14 (.iconst 0) 1 15 := ⟨by decide +kernel, rfl⟩
theorem eX0_init_15 : zD cX0_init 15 (.putfield 17) 3 18 := ⟨by decide +kernel, rfl⟩
theorem eX0_init_18 : zD cX0_init 18 (.aload_n 0) 1 19 := ⟨by decide +kernel, rfl⟩
theorem eX0_init_19 : zD cX0_init 19 (.iconst 0) 1 20 := ⟨by decide +kernel, rfl⟩
theorem eX0_init_20 : zD cX0_init 20 (.putfield 21) 3 23 := ⟨by decide +kernel, rfl⟩
theorem eX0_init_23 : zD cX0_init 23 (.iconst 0) 1 24 := ⟨by decide +kernel, rfl⟩
theorem eX0_init_24 : zD cX0_init 24 (.istore_n 1) 1 25 := ⟨by decide +kernel, rfl⟩
theorem eX0_init_25 : zD cX0_init 25 (.iload_n 1) 1 26 := ⟨by decide +kernel, rfl⟩
theorem eX0_init_26 : zD cX0_init 26 (.bipush 7) 2 28 := ⟨by decide +kernel, rfl⟩
theorem eX0_init_28 : zJ cX0_init 28 (.if_icmp .ge (22)) (22) 50 3 31 := ⟨by decide +kernel, rfl, by decide⟩
theorem eX0_init_31 : zD cX0_init 31 (.aload_n 0) 1 32 := ⟨by decide +kernel, rfl⟩
theorem eX0_init_32 : zD cX0_init 32 (.getfield 11) 3 35 := ⟨by decide +kernel, rfl⟩
theorem eX0_init_35 : zD cX0_init 35 (.iload_n 1) 1 36 := ⟨by decide +kernel, rfl⟩
theorem eX0_init_36 : zD cX0_init 36 (.new 9) 3 39 := ⟨by decide +kernel, rfl⟩
theorem eX0_init_39 : zD cX0_init 39 (.dup) 1 40 := ⟨by decide +kernel, rfl⟩
theorem eX0_init_40 : zD cX0_init 40 (.invokespecial 24) 3 43 := ⟨by decide +kernel, rfl⟩
theorem eX0_init_43 : zD cX0_init 43 (.aastore) 1 44 := ⟨by decide +kernel, rfl⟩
theorem eX0_init_44 : zD cX0_init 44 (.iinc 1 1) 3 47 := ⟨by decide +kernel, rfl⟩
theorem eX0_init_47 : zJ cX0_init 47 (.goto (-22)) (-22) 25 3 50 := ⟨by decide +kernel, rfl, by decide⟩
theorem eX0_init_50 : zD cX0_init 50 (.return_) 1 51 := ⟨by decide +kernel, rfl⟩
theorem eX0_prepare_0 : zD cX0_prepare 0 (.aload_n 0) 1 1 := ⟨by decide +kernel, rfl⟩
theorem eX0_prepare_1 : zD cX0_prepare 1 (.getfield 11) 3 4 := ⟨by decide +kernel, rfl⟩
theorem eX0_prepare_4 : zD cX0_prepare 4 (.aload_n 0) 1 5 := ⟨by decide +kernel, rfl⟩
theorem eX0_prepare_5 : zD cX0_prepare 5 (.getfield 17) 3 8 := ⟨by decide +kernel, rfl⟩
theorem eX0_prepare_8 : zD cX0_prepare 8 (.aload_n 0) 1 9 := ⟨by decide +kernel, rfl⟩
theorem eX0_prepare_9 : zD cX0_prepare 9 (.getfield 21) 3 12 := ⟨by decide +kernel, rfl⟩
theorem eX0_prepare_12 : zD cX0_prepare 12 (.iadd) 1 13 := ⟨by decide +kernel, rfl⟩
theorem eX0_prepare_13 : zD cX0_prepare 13 (.bipush 7) 2 15 := ⟨by decide +kernel, rfl⟩
theorem eX0_prepare_15 : zD cX0_prepare 15 (.irem) 1 16 := ⟨by decide +kernel, rfl⟩
theorem eX0_prepare_16 : zD cX0_prepare 16 (.aaload) 1 17 := ⟨by decide +kernel, rfl⟩
theorem eX0_prepare_17 : zD cX0_prepare 17 (.aload_n 1) 1 18 := ⟨by decide +kernel, rfl⟩
theorem eX0_prepare_18 : zD cX0_prepare 18 (.invokevirtual 25) 3 21 := ⟨by decide +kernel, rfl⟩
theorem eX0_prepare_21 : zD cX0_prepare 21 (.return_) 1 22 := ⟨by decide +kernel, rfl⟩
theorem eX0_keep_0 : zD cX0_keep 0 (.iload_n 1) 1 1 := ⟨by decide +kernel, rfl⟩
theorem eX0_keep_1 : zJ cX0_keep 1 (.ifCond .lt (25)) (25) 26 3 4 := ⟨by decide +kernel, rfl, by decide⟩
theorem eX0_keep_4 : zD cX0_keep 4 (.aload_n 0) 1 5 := ⟨by decide +kernel, rfl⟩
theorem eX0_keep_5 : zD cX0_keep 5 (.getfield 21) 3 8 := ⟨by decide +kernel, rfl⟩
theorem eX0_keep_8 : zD cX0_keep 8 (.bipush 6) 2 10 := ⟨by decide +kernel, rfl⟩
theorem eX0_keep_10 : zJ cX0_keep 10 (.if_icmp .ge (16)) (16) 26 3 13 := ⟨by decide +kernel, rfl, by decide⟩
theorem eX0_keep_13 : zD cX0_keep 13 (.aload_n 0) 1 14 := ⟨by decide +kernel, rfl⟩
theorem eX0_keep_14 : zD cX0_keep 14 (.dup) 1 15 := ⟨by decide +kernel, rfl⟩
theorem eX0_keep_15 : zD cX0_keep 15 (.getfield 21) 3 18 := ⟨by decide +kernel, rfl⟩
theorem eX0_keep_18 : zD cX0_keep 18 (.iconst 1) 1 19 := ⟨by decide +kernel, rfl⟩
theorem eX0_keep_19 : zD cX0_keep 19 (.iadd) 1 20 := ⟨by decide +kernel, rfl⟩
theorem eX0_keep_20 : zD cX0_keep 20 (.putfield 21) 3 23 := ⟨by decide +kernel, rfl⟩
theorem eX0_keep_23 : zJ cX0_keep 23 (.goto (20)) (20) 43 3 26 := ⟨by decide +kernel, rfl, by decide⟩
theorem eX0_keep_26 : zD cX0_keep 26 (.iload_n 1) 1 27 := ⟨by decide +kernel, rfl⟩
theorem eX0_keep_27 : zJ cX0_keep 27 (.ifCond .lt (16)) (16) 43 3 30 := ⟨by decide +kernel, rfl, by decide⟩
theorem eX0_keep_30 : zD cX0_keep 30 (.aload_n 0) 1 31 := ⟨by decide +kernel, rfl⟩
theorem eX0_keep_31 : zD cX0_keep 31 (.aload_n 0) 1 32 := ⟨by decide +kernel, rfl⟩
theorem eX0_keep_32 : zD cX0_keep 32 (.getfield 17) 3 35 := ⟨by decide +kernel, rfl⟩
theorem eX0_keep_35 : zD cX0_keep 35 (.iconst 1) 1 36 := ⟨by decide +kernel, rfl⟩
theorem eX0_keep_36 : zD cX0_keep 36 (.iadd) 1 37 := ⟨by decide +kernel, rfl⟩
theorem eX0_keep_37 : zD cX0_keep 37 (.bipush 7) 2 39 := ⟨by decide +kernel, rfl⟩
theorem eX0_keep_39 : zD cX0_keep 39 (.irem) 1 40 := ⟨by decide +kernel, rfl⟩
theorem eX0_keep_40 : zD cX0_keep 40 (.putfield 17) 3 43 := ⟨by decide +kernel, rfl⟩
theorem eX0_keep_43 : zD cX0_keep 43 (.iload_n 1) 1 44 := ⟨by decide +kernel, rfl⟩
theorem eX0_keep_44 : zD cX0_keep 44 (.ireturn) 1 45 := ⟨by decide +kernel, rfl⟩
theorem eX0_takeLatest_0 : zD cX0_takeLatest 0 (.aload_n 0) 1 1 := ⟨by decide +kernel, rfl⟩
theorem eX0_takeLatest_1 : zD cX0_takeLatest 1 (.iconst 0) 1 2 := ⟨by decide +kernel, rfl⟩
theorem eX0_takeLatest_2 : zD cX0_takeLatest 2 (.aload_n 0) 1 3 := ⟨by decide +kernel, rfl⟩
theorem eX0_takeLatest_3 : zD cX0_takeLatest 3 (.getfield 21) 3 6 := ⟨by decide +kernel, rfl⟩
theorem eX0_takeLatest_6 : zD cX0_takeLatest 6 (.iconst 1) 1 7 := ⟨by decide +kernel, rfl⟩
theorem eX0_takeLatest_7 : zD cX0_takeLatest 7 (.isub) 1 8 := ⟨by decide +kernel, rfl⟩
theorem eX0_takeLatest_8 : zD cX0_takeLatest 8 (.invokestatic 29) 3 11 := ⟨by decide +kernel, rfl⟩
theorem eX0_takeLatest_11 : zD cX0_takeLatest 11 (.putfield 21) 3 14 := ⟨by decide +kernel, rfl⟩
theorem eX0_takeLatest_14 : zD cX0_takeLatest 14 (.aload_n 0) 1 15 := ⟨by decide +kernel, rfl⟩
theorem eX0_takeLatest_15 : zD cX0_takeLatest 15 (.getfield 11) 3 18 := ⟨by decide +kernel, rfl⟩
theorem eX0_takeLatest_18 : zD cX0_takeLatest 18 (.aload_n 0) 1 19 := ⟨by decide +kernel, rfl⟩
theorem eX0_takeLatest_19 : zD cX0_takeLatest 19 (.getfield 17) 3 22 := ⟨by decide +kernel, rfl⟩
theorem eX0_takeLatest_22 : zD cX0_takeLatest 22 (.aload_n 0) 1 23 := ⟨by decide +kernel, rfl⟩
theorem eX0_takeLatest_23 : zD cX0_takeLatest 23 (.getfield 21) 3 26 := ⟨by decide +kernel, rfl⟩
theorem eX0_takeLatest_26 : zD cX0_takeLatest 26 (.iadd) 1 27 := ⟨by decide +kernel, rfl⟩
theorem eX0_takeLatest_27 : zD cX0_takeLatest 27 (.bipush 7) 2 29 := ⟨by decide +kernel, rfl⟩
theorem eX0_takeLatest_29 : zD cX0_takeLatest 29 (.irem) 1 30 := ⟨by decide +kernel, rfl⟩
theorem eX0_takeLatest_30 : zD cX0_takeLatest 30 (.aaload) 1 31 := ⟨by decide +kernel, rfl⟩
theorem eX0_takeLatest_31 : zD cX0_takeLatest 31 (.areturn) 1 32 := ⟨by decide +kernel, rfl⟩
theorem eX2_init_0 : zD cX2_init 0 (.aload_n 0) 1 1 := ⟨by decide +kernel, rfl⟩
theorem eX2_init_1 : zD cX2_init 1 (.invokespecial 3) 3 4 := ⟨by decide +kernel, rfl⟩
theorem eX2_init_4 : zD cX2_init 4 (.aload_n 0) 1 5 := ⟨by decide +kernel, rfl⟩
theorem eX2_init_5 : zD cX2_init 5 (.iconst 0) 1 6 := ⟨by decide +kernel, rfl⟩
theorem eX2_init_6 : zD cX2_init 6 (.putfield 9) 3 9 := ⟨by decide +kernel, rfl⟩
theorem eX2_init_9 : zD cX2_init 9 (.aload_n 0) 1 10 := ⟨by decide +kernel, rfl⟩
theorem eX2_init_10 : zD cX2_init 10 (.bipush 40) 2 12 := ⟨by decide +kernel, rfl⟩
theorem eX2_init_12 : zD cX2_init 12 (.newarray .int) 2 14 := ⟨by decide +kernel, rfl⟩
theorem eX2_init_14 : zD cX2_init 14 (.putfield 15) 3 17 := ⟨by decide +kernel, rfl⟩
theorem eX2_init_17 : zD cX2_init 17 (.aload_n 0) 1 18 := ⟨by decide +kernel, rfl⟩
theorem eX2_init_18 : zD cX2_init 18 (.bipush 40) 2 20 := ⟨by decide +kernel, rfl⟩
theorem eX2_init_20 : zD cX2_init 20 (.newarray .int) 2 22 := ⟨by decide +kernel, rfl⟩
theorem eX2_init_22 : zD cX2_init 22 (.putfield 19) 3 25 := ⟨by decide +kernel, rfl⟩
theorem eX2_init_25 : zD cX2_init 25 (.aload_n 0) 1 26 := ⟨by decide +kernel, rfl⟩
theorem eX2_init_26 : zD cX2_init 26 (.bipush 40) 2 28 := ⟨by decide +kernel, rfl⟩
theorem eX2_init_28 : zD cX2_init 28 (.newarray .int) 2 30 := ⟨by decide +kernel, rfl⟩
theorem eX2_init_30 : zD cX2_init 30 (.putfield 22) 3 33 := ⟨by decide +kernel, rfl⟩
theorem eX2_init_33 : zD cX2_init 33 (.aload_n 0) 1 34 := ⟨by decide +kernel, rfl⟩
theorem eX2_init_34 : zD cX2_init 34 (.bipush 40) 2 36 := ⟨by decide +kernel, rfl⟩
theorem eX2_init_36 : zD cX2_init 36 (.newarray .int) 2 38 := ⟨by decide +kernel, rfl⟩
theorem eX2_init_38 : zD cX2_init 38 (.putfield 25) 3 41 := ⟨by decide +kernel, rfl⟩
theorem eX2_init_41 : zD cX2_init 41 (.aload_n 0) 1 42 := ⟨by decide +kernel, rfl⟩
theorem eX2_init_42 : zD cX2_init 42 (.bipush 40) 2 44 := ⟨by decide +kernel, rfl⟩
theorem eX2_init_44 : zD cX2_init 44 (.newarray .int) 2 46 := ⟨by decide +kernel, rfl⟩
theorem eX2_init_46 : zD cX2_init 46 (.putfield 28) 3 49 := ⟨by decide +kernel, rfl⟩
theorem eX2_init_49 : zD cX2_init 49 (.return_) 1 50 := ⟨by decide +kernel, rfl⟩
theorem eX2_copyFrom_0 : zD cX2_copyFrom 0 (.aload_n 0) 1 1 := ⟨by decide +kernel, rfl⟩
theorem eX2_copyFrom_1 : zD cX2_copyFrom 1 (.aload_n 1) 1 2 := ⟨by decide +kernel, rfl⟩
theorem eX2_copyFrom_2 : zD cX2_copyFrom 2 (.getfield 9) 3 5 := ⟨by decide +kernel, rfl⟩
theorem eX2_copyFrom_5 : zD cX2_copyFrom 5 (.putfield 9) 3 8 := ⟨by decide +kernel, rfl⟩
theorem eX2_copyFrom_8 : zD cX2_copyFrom 8 (.aload_n 1) 1 9 := ⟨by decide +kernel, rfl⟩
theorem eX2_copyFrom_9 : zD cX2_copyFrom 9 (.getfield 15) 3 12 := ⟨by decide +kernel, rfl⟩
theorem eX2_copyFrom_12 : zD cX2_copyFrom 12 (.iconst 0) 1 13 := ⟨by decide +kernel, rfl⟩
theorem eX2_copyFrom_13 : zD cX2_copyFrom 13 (.aload_n 0) 1 14 := ⟨by decide +kernel, rfl⟩
theorem eX2_copyFrom_14 : zD cX2_copyFrom 14 (.getfield 15) 3 17 := ⟨by decide +kernel, rfl⟩
theorem eX2_copyFrom_17 : zD cX2_copyFrom 17 (.iconst 0) 1 18 := ⟨by decide +kernel, rfl⟩
theorem eX2_copyFrom_18 : zD cX2_copyFrom 18 (.aload_n 0) 1 19 := ⟨by decide +kernel, rfl⟩
theorem eX2_copyFrom_19 : zD cX2_copyFrom 19 (.getfield 9) 3 22 := ⟨by decide +kernel, rfl⟩
theorem eX2_copyFrom_22 : zD cX2_copyFrom 22 (.invokestatic 31) 3 25 := ⟨by decide +kernel, rfl⟩
theorem eX2_copyFrom_25 : zD cX2_copyFrom 25 (.aload_n 1) 1 26 := ⟨by decide +kernel, rfl⟩
theorem eX2_copyFrom_26 : zD cX2_copyFrom 26 (.getfield 19) 3 29 := ⟨by decide +kernel, rfl⟩
theorem eX2_copyFrom_29 : zD cX2_copyFrom 29 (.iconst 0) 1 30 := ⟨by decide +kernel, rfl⟩
theorem eX2_copyFrom_30 : zD cX2_copyFrom 30 (.aload_n 0) 1 31 := ⟨by decide +kernel, rfl⟩
theorem eX2_copyFrom_31 : zD cX2_copyFrom 31 (.getfield 19) 3 34 := ⟨by decide +kernel, rfl⟩
theorem eX2_copyFrom_34 : zD cX2_copyFrom 34 (.iconst 0) 1 35 := ⟨by decide +kernel, rfl⟩
theorem eX2_copyFrom_35 : zD cX2_copyFrom 35 (.aload_n 0) 1 36 := ⟨by decide +kernel, rfl⟩
theorem eX2_copyFrom_36 : zD cX2_copyFrom 36 (.getfield 9) 3 39 := ⟨by decide +kernel, rfl⟩
theorem eX2_copyFrom_39 : zD cX2_copyFrom 39 (.invokestatic 31) 3 42 := ⟨by decide +kernel, rfl⟩
theorem eX2_copyFrom_42 : zD cX2_copyFrom 42 (.aload_n 1) 1 43 := ⟨by decide +kernel, rfl⟩
theorem eX2_copyFrom_43 : zD cX2_copyFrom 43 (.getfield 22) 3 46 := ⟨by decide +kernel, rfl⟩
theorem eX2_copyFrom_46 : zD cX2_copyFrom 46 (.iconst 0) 1 47 := ⟨by decide +kernel, rfl⟩
theorem eX2_copyFrom_47 : zD cX2_copyFrom 47 (.aload_n 0) 1 48 := ⟨by decide +kernel, rfl⟩
theorem eX2_copyFrom_48 : zD cX2_copyFrom 48 (.getfield 22) 3 51 := ⟨by decide +kernel, rfl⟩
theorem eX2_copyFrom_51 : zD cX2_copyFrom 51 (.iconst 0) 1 52 := ⟨by decide +kernel, rfl⟩
theorem eX2_copyFrom_52 : zD cX2_copyFrom 52 (.aload_n 0) 1 53 := ⟨by decide +kernel, rfl⟩
theorem eX2_copyFrom_53 : zD cX2_copyFrom 53 (.getfield 9) 3 56 := ⟨by decide +kernel, rfl⟩
theorem eX2_copyFrom_56 : zD cX2_copyFrom 56 (.invokestatic 31) 3 59 := ⟨by decide +kernel, rfl⟩
theorem eX2_copyFrom_59 : zD cX2_copyFrom 59 (.aload_n 1) 1 60 := ⟨by decide +kernel, rfl⟩
theorem eX2_copyFrom_60 : zD cX2_copyFrom 60 (.getfield 25) 3 63 := ⟨by decide +kernel, rfl⟩
theorem eX2_copyFrom_63 : zD cX2_copyFrom 63 (.iconst 0) 1 64 := ⟨by decide +kernel, rfl⟩
theorem eX2_copyFrom_64 : zD cX2_copyFrom 64 (.aload_n 0) 1 65 := ⟨by decide +kernel, rfl⟩
theorem eX2_copyFrom_65 : zD cX2_copyFrom 65 (.getfield 25) 3 68 := ⟨by decide +kernel, rfl⟩
theorem eX2_copyFrom_68 : zD cX2_copyFrom 68 (.iconst 0) 1 69 := ⟨by decide +kernel, rfl⟩
theorem eX2_copyFrom_69 : zD cX2_copyFrom 69 (.aload_n 0) 1 70 := ⟨by decide +kernel, rfl⟩
theorem eX2_copyFrom_70 : zD cX2_copyFrom 70 (.getfield 9) 3 73 := ⟨by decide +kernel, rfl⟩
theorem eX2_copyFrom_73 : zD cX2_copyFrom 73 (.invokestatic 31) 3 76 := ⟨by decide +kernel, rfl⟩
theorem eX2_copyFrom_76 : zD cX2_copyFrom 76 (.aload_n 1) 1 77 := ⟨by decide +kernel, rfl⟩
theorem eX2_copyFrom_77 : zD cX2_copyFrom 77 (.getfield 28) 3 80 := ⟨by decide +kernel, rfl⟩
theorem eX2_copyFrom_80 : zD cX2_copyFrom 80 (.iconst 0) 1 81 := ⟨by decide +kernel, rfl⟩
theorem eX2_copyFrom_81 : zD cX2_copyFrom 81 (.aload_n 0) 1 82 := ⟨by decide +kernel, rfl⟩
theorem eX2_copyFrom_82 : zD cX2_copyFrom 82 (.getfield 28) 3 85 := ⟨by decide +kernel, rfl⟩
theorem eX2_copyFrom_85 : zD cX2_copyFrom 85 (.iconst 0) 1 86 := ⟨by decide +kernel, rfl⟩
theorem eX2_copyFrom_86 : zD cX2_copyFrom 86 (.aload_n 0) 1 87 := ⟨by decide +kernel, rfl⟩
theorem eX2_copyFrom_87 : zD cX2_copyFrom 87 (.getfield 9) 3 90 := ⟨by decide +kernel, rfl⟩
theorem eX2_copyFrom_90 : zD cX2_copyFrom 90 (.invokestatic 31) 3 93 := ⟨by decide +kernel, rfl⟩
theorem eX2_copyFrom_93 : zD cX2_copyFrom 93 (.return_) 1 94 := ⟨by decide +kernel, rfl⟩
theorem eX2_has_0 : zD cX2_has 0 (.iload_n 1) 1 1 := ⟨by decide +kernel, rfl⟩
theorem eX2_has_1 : zJ cX2_has 1 (.ifCond .lt (15)) (15) 16 3 4 := ⟨by decide +kernel, rfl, by decide⟩
theorem eX2_has_4 : zD cX2_has 4 (.iload_n 1) 1 5 := ⟨by decide +kernel, rfl⟩
theorem eX2_has_5 : zD cX2_has 5 (.aload_n 0) 1 6 := ⟨by decide +kernel, rfl⟩
theorem eX2_has_6 : zD cX2_has 6 (.getfield 9) 3 9 := ⟨by decide +kernel, rfl⟩
theorem eX2_has_9 : zJ cX2_has 9 (.if_icmp .ge (7)) (7) 16 3 12 := ⟨by decide +kernel, rfl, by decide⟩
theorem eX2_has_12 : zD cX2_has 12 (.iconst 1) 1 13 := ⟨by decide +kernel, rfl⟩
theorem eX2_has_13 : zJ cX2_has 13 (.goto (4)) (4) 17 3 16 := ⟨by decide +kernel, rfl, by decide⟩
theorem eX2_has_16 : zD cX2_has 16 (.iconst 0) 1 17 := ⟨by decide +kernel, rfl⟩
theorem eX2_has_17 : zD cX2_has 17 (.ireturn) 1 18 := ⟨by decide +kernel, rfl⟩
theorem eX2_add_0 : zD cX2_add 0 (.aload_n 0) 1 1 := ⟨by decide +kernel, rfl⟩
theorem eX2_add_1 : zD cX2_add 1 (.getfield 9) 3 4 := ⟨by decide +kernel, rfl⟩
theorem eX2_add_4 : zD cX2_add 4 (.istore 6) 2 6 := ⟨by decide +kernel, rfl⟩
theorem eX2_add_6 : zD cX2_add 6 (.aload_n 0) 1 7 := ⟨by decide +kernel, rfl⟩
theorem eX2_add_7 : zD cX2_add 7 (.getfield 15) 3 10 := ⟨by decide +kernel, rfl⟩
theorem eX2_add_10 : zD cX2_add 10 (.iload 6) 2 12 := ⟨by decide +kernel, rfl⟩
theorem eX2_add_12 : zD cX2_add 12 (.iload_n 1) 1 13 := ⟨by decide +kernel, rfl⟩
theorem eX2_add_13 : zD cX2_add 13 (.iastore) 1 14 := ⟨by decide +kernel, rfl⟩
theorem eX2_add_14 : zD cX2_add 14 (.aload_n 0) 1 15 := ⟨by decide +kernel, rfl⟩
theorem eX2_add_15 : zD cX2_add 15 (.getfield 19) 3 18 := ⟨by decide +kernel, rfl⟩
theorem eX2_add_18 : zD cX2_add 18 (.iload 6) 2 20 := ⟨by decide +kernel, rfl⟩
theorem eX2_add_20 : zD cX2_add 20 (.iload_n 2) 1 21 := ⟨by decide +kernel, rfl⟩
theorem eX2_add_21 : zD cX2_add 21 (.iastore) 1 22 := ⟨by decide +kernel, rfl⟩
theorem eX2_add_22 : zD cX2_add 22 (.aload_n 0) 1 23 := ⟨by decide +kernel, rfl⟩
theorem eX2_add_23 : zD cX2_add 23 (.getfield 22) 3 26 := ⟨by decide +kernel, rfl⟩
theorem eX2_add_26 : zD cX2_add 26 (.iload 6) 2 28 := ⟨by decide +kernel, rfl⟩
theorem eX2_add_28 : zD cX2_add 28 (.iload_n 3) 1 29 := ⟨by decide +kernel, rfl⟩
theorem eX2_add_29 : zD cX2_add 29 (.iastore) 1 30 := ⟨by decide +kernel, rfl⟩
theorem eX2_add_30 : zD cX2_add 30 (.aload_n 0) 1 31 := ⟨by decide +kernel, rfl⟩
theorem eX2_add_31 : zD cX2_add 31 (.getfield 25) 3 34 := ⟨by decide +kernel, rfl⟩
theorem eX2_add_34 : zD cX2_add 34 (.iload 6) 2 36 := ⟨by decide +kernel, rfl⟩
theorem eX2_add_36 : zD cX2_add 36 (.iload 4) 2 38 := ⟨by decide +kernel, rfl⟩
theorem eX2_add_38 : zD cX2_add 38 (.iastore) 1 39 := ⟨by decide +kernel, rfl⟩
theorem eX2_add_39 : zD cX2_add 39 (.aload_n 0) 1 40 := ⟨by decide +kernel, rfl⟩
theorem eX2_add_40 : zD cX2_add 40 (.getfield 28) 3 43 := ⟨by decide +kernel, rfl⟩
theorem eX2_add_43 : zD cX2_add 43 (.iload 6) 2 45 := ⟨by decide +kernel, rfl⟩
theorem eX2_add_45 : zD cX2_add 45 (.iload 5) 2 47 := ⟨by decide +kernel, rfl⟩
theorem eX2_add_47 : zD cX2_add 47 (.iastore) 1 48 := ⟨by decide +kernel, rfl⟩
theorem eX2_add_48 : zD cX2_add 48 (.aload_n 0) 1 49 := ⟨by decide +kernel, rfl⟩
theorem eX2_add_49 : zD cX2_add 49 (.dup) 1 50 := ⟨by decide +kernel, rfl⟩
theorem eX2_add_50 : zD cX2_add 50 (.getfield 9) 3 53 := ⟨by decide +kernel, rfl⟩
theorem eX2_add_53 : zD cX2_add 53 (.iconst 1) 1 54 := ⟨by decide +kernel, rfl⟩
theorem eX2_add_54 : zD cX2_add 54 (.iadd) 1 55 := ⟨by decide +kernel, rfl⟩
theorem eX2_add_55 : zD cX2_add 55 (.putfield 9) 3 58 := ⟨by decide +kernel, rfl⟩
theorem eX2_add_58 : zD cX2_add 58 (.iload 6) 2 60 := ⟨by decide +kernel, rfl⟩
theorem eX2_add_60 : zD cX2_add 60 (.ireturn) 1 61 := ⟨by decide +kernel, rfl⟩
theorem eX2_countWith_0 : zD cX2_countWith 0 (.iconst 0) 1 1 := ⟨by decide +kernel, rfl⟩
theorem eX2_countWith_1 : zD cX2_countWith 1 (.istore_n 3) 1 2 := ⟨by decide +kernel, rfl⟩
theorem eX2_countWith_2 : zD cX2_countWith 2 (.iconst 0) 1 3 := ⟨by decide +kernel, rfl⟩
theorem eX2_countWith_3 : zD cX2_countWith 3 (.istore 4) 2 5 := ⟨by decide +kernel, rfl⟩
theorem eX2_countWith_5 : zD cX2_countWith 5 (.iload 4) 2 7 := ⟨by decide +kernel, rfl⟩
theorem eX2_countWith_7 : zD cX2_countWith 7 (.aload_n 0) 1 8 := ⟨by decide +kernel, rfl⟩
theorem eX2_countWith_8 : zD cX2_countWith 8 (.getfield 9) 3 11 := ⟨by decide +kernel, rfl⟩
theorem eX2_countWith_11 : zJ cX2_countWith 11 (.if_icmp .ge (20)) (20) 31 3 14 := ⟨by decide +kernel, rfl, by decide⟩
theorem eX2_countWith_14 : zD cX2_countWith 14 (.aload_n 1) 1 15 := ⟨by decide +kernel, rfl⟩
theorem eX2_countWith_15 : zD cX2_countWith 15 (.iload 4) 2 17 := ⟨by decide +kernel, rfl⟩
theorem eX2_countWith_17 : zD cX2_countWith 17 (.iaload) 1 18 := ⟨by decide +kernel, rfl⟩
theorem eX2_countWith_18 : zD cX2_countWith 18 (.iload_n 2) 1 19 := ⟨by decide +kernel, rfl⟩
theorem eX2_countWith_19 : zJ cX2_countWith 19 (.if_icmp .ne (6)) (6) 25 3 22 := ⟨by decide +kernel, rfl, by decide⟩
theorem eX2_countWith_22 : zD cX2_countWith 22 (.iinc 3 1) 3 25 := ⟨by decide +kernel, rfl⟩
theorem eX2_countWith_25 : zD cX2_countWith 25 (.iinc 4 1) 3 28 := ⟨by decide +kernel, rfl⟩
theorem eX2_countWith_28 : zJ cX2_countWith 28 (.goto (-23)) (-23) 5 3 31 := ⟨by decide +kernel, rfl, by decide⟩
theorem eX2_countWith_31 : zD cX2_countWith 31 (.iload_n 3) 1 32 := ⟨by decide +kernel, rfl⟩
theorem eX2_countWith_32 : zD cX2_countWith 32 (.ireturn) 1 33 := ⟨by decide +kernel, rfl⟩
theorem eX2_owedWith_0 : zD cX2_owedWith 0 (.iconst 0) 1 1 := ⟨by decide +kernel, rfl⟩
theorem eX2_owedWith_1 : zD cX2_owedWith 1 (.istore_n 3) 1 2 := ⟨by decide +kernel, rfl⟩
theorem eX2_owedWith_2 : zD cX2_owedWith 2 (.iconst 0) 1 3 := ⟨by decide +kernel, rfl⟩
theorem eX2_owedWith_3 : zD cX2_owedWith 3 (.istore 4) 2 5 := ⟨by decide +kernel, rfl⟩
theorem eX2_owedWith_5 : zD cX2_owedWith 5 (.iload 4) 2 7 := ⟨by decide +kernel, rfl⟩
theorem eX2_owedWith_7 : zD cX2_owedWith 7 (.aload_n 0) 1 8 := ⟨by decide +kernel, rfl⟩
theorem eX2_owedWith_8 : zD cX2_owedWith 8 (.getfield 9) 3 11 := ⟨by decide +kernel, rfl⟩
theorem eX2_owedWith_11 : zJ cX2_owedWith 11 (.if_icmp .ge (27)) (27) 38 3 14 := ⟨by decide +kernel, rfl, by decide⟩
theorem eX2_owedWith_14 : zD cX2_owedWith 14 (.aload_n 1) 1 15 := ⟨by decide +kernel, rfl⟩
theorem eX2_owedWith_15 : zD cX2_owedWith 15 (.iload 4) 2 17 := ⟨by decide +kernel, rfl⟩
theorem eX2_owedWith_17 : zD cX2_owedWith 17 (.iaload) 1 18 := ⟨by decide +kernel, rfl⟩
theorem eX2_owedWith_18 : zD cX2_owedWith 18 (.iload_n 2) 1 19 := ⟨by decide +kernel, rfl⟩
theorem eX2_owedWith_19 : zJ cX2_owedWith 19 (.if_icmp .ne (13)) (13) 32 3 22 := ⟨by decide +kernel, rfl, by decide⟩
theorem eX2_owedWith_22 : zD cX2_owedWith 22 (.iload_n 3) 1 23 := ⟨by decide +kernel, rfl⟩
theorem eX2_owedWith_23 : zD cX2_owedWith 23 (.aload_n 0) 1 24 := ⟨by decide +kernel, rfl⟩
theorem eX2_owedWith_24 : zD cX2_owedWith 24 (.getfield 25) 3 27 := ⟨by decide +kernel, rfl⟩
theorem eX2_owedWith_27 : zD cX2_owedWith 27 (.iload 4) 2 29 := ⟨by decide +kernel, rfl⟩
theorem eX2_owedWith_29 : zD cX2_owedWith 29 (.iaload) 1 30 := ⟨by decide +kernel, rfl⟩
theorem eX2_owedWith_30 : zD cX2_owedWith 30 (.iadd) 1 31 := ⟨by decide +kernel, rfl⟩
theorem eX2_owedWith_31 : zD cX2_owedWith 31 (.istore_n 3) 1 32 := ⟨by decide +kernel, rfl⟩
theorem eX2_owedWith_32 : zD cX2_owedWith 32 (.iinc 4 1) 3 35 := ⟨by decide +kernel, rfl⟩
theorem eX2_owedWith_35 : zJ cX2_owedWith 35 (.goto (-30)) (-30) 5 3 38 := ⟨by decide +kernel, rfl, by decide⟩
theorem eX2_owedWith_38 : zD cX2_owedWith 38 (.iload_n 3) 1 39 := ⟨by decide +kernel, rfl⟩
theorem eX2_owedWith_39 : zD cX2_owedWith 39 (.ireturn) 1 40 := ⟨by decide +kernel, rfl⟩
theorem eX2_removePaid_0 : zD cX2_removePaid 0 (.iconst 0) 1 1 := ⟨by decide +kernel, rfl⟩
theorem eX2_removePaid_1 : zD cX2_removePaid 1 (.istore_n 1) 1 2 := ⟨by decide +kernel, rfl⟩
theorem eX2_removePaid_2 : zD cX2_removePaid 2 (.iconst 0) 1 3 := ⟨by decide +kernel, rfl⟩
theorem eX2_removePaid_3 : zD cX2_removePaid 3 (.istore_n 2) 1 4 := ⟨by decide +kernel, rfl⟩
theorem eX2_removePaid_4 : zD cX2_removePaid 4 (.iload_n 2) 1 5 := ⟨by decide +kernel, rfl⟩
theorem eX2_removePaid_5 : zD cX2_removePaid 5 (.aload_n 0) 1 6 := ⟨by decide +kernel, rfl⟩
theorem eX2_removePaid_6 : zD cX2_removePaid 6 (.getfield 9) 3 9 := ⟨by decide +kernel, rfl⟩
theorem eX2_removePaid_9 : zJ cX2_removePaid 9 (.if_icmp .ge (81)) (81) 90 3 12 := ⟨by decide +kernel, rfl, by decide⟩
theorem eX2_removePaid_12 : zD cX2_removePaid 12 (.aload_n 0) 1 13 := ⟨by decide +kernel, rfl⟩
theorem eX2_removePaid_13 : zD cX2_removePaid 13 (.getfield 25) 3 16 := ⟨by decide +kernel, rfl⟩
theorem eX2_removePaid_16 : zD cX2_removePaid 16 (.iload_n 2) 1 17 := ⟨by decide +kernel, rfl⟩
theorem eX2_removePaid_17 : zD cX2_removePaid 17 (.iaload) 1 18 := ⟨by decide +kernel, rfl⟩
theorem eX2_removePaid_18 : zJ cX2_removePaid 18 (.ifCond .le (66)) (66) 84 3 21 := ⟨by decide +kernel, rfl, by decide⟩
theorem eX2_removePaid_21 : zD cX2_removePaid 21 (.aload_n 0) 1 22 := ⟨by decide +kernel, rfl⟩
theorem eX2_removePaid_22 : zD cX2_removePaid 22 (.getfield 15) 3 25 := ⟨by decide +kernel, rfl⟩
theorem eX2_removePaid_25 : zD cX2_removePaid 25 (.iload_n 1) 1 26 := ⟨by decide +kernel, rfl⟩
theorem eX2_removePaid_26 : zD cX2_removePaid 26 (.aload_n 0) 1 27 := ⟨by decide +kernel, rfl⟩
theorem eX2_removePaid_27 : zD cX2_removePaid 27 (.getfield 15) 3 30 := ⟨by decide +kernel, rfl⟩
theorem eX2_removePaid_30 : zD cX2_removePaid 30 (.iload_n 2) 1 31 := ⟨by decide +kernel, rfl⟩
theorem eX2_removePaid_31 : zD cX2_removePaid 31 (.iaload) 1 32 := ⟨by decide +kernel, rfl⟩
theorem eX2_removePaid_32 : zD cX2_removePaid 32 (.iastore) 1 33 := ⟨by decide +kernel, rfl⟩
theorem eX2_removePaid_33 : zD cX2_removePaid 33 (.aload_n 0) 1 34 := ⟨by decide +kernel, rfl⟩
theorem eX2_removePaid_34 : zD cX2_removePaid 34 (.getfield 19) 3 37 := ⟨by decide +kernel, rfl⟩
theorem eX2_removePaid_37 : zD cX2_removePaid 37 (.iload_n 1) 1 38 := ⟨by decide +kernel, rfl⟩
theorem eX2_removePaid_38 : zD cX2_removePaid 38 (.aload_n 0) 1 39 := ⟨by decide +kernel, rfl⟩
theorem eX2_removePaid_39 : zD cX2_removePaid 39 (.getfield 19) 3 42 := ⟨by decide +kernel, rfl⟩
theorem eX2_removePaid_42 : zD cX2_removePaid 42 (.iload_n 2) 1 43 := ⟨by decide +kernel, rfl⟩
theorem eX2_removePaid_43 : zD cX2_removePaid 43 (.iaload) 1 44 := ⟨by decide +kernel, rfl⟩
theorem eX2_removePaid_44 : zD cX2_removePaid 44 (.iastore) 1 45 := ⟨by decide +kernel, rfl⟩
theorem eX2_removePaid_45 : zD cX2_removePaid 45 (.aload_n 0) 1 46 := ⟨by decide +kernel, rfl⟩
theorem eX2_removePaid_46 : zD cX2_removePaid 46 (.getfield 22) 3 49 := ⟨by decide +kernel, rfl⟩
theorem eX2_removePaid_49 : zD cX2_removePaid 49 (.iload_n 1) 1 50 := ⟨by decide +kernel, rfl⟩
theorem eX2_removePaid_50 : zD cX2_removePaid 50 (.aload_n 0) 1 51 := ⟨by decide +kernel, rfl⟩
theorem eX2_removePaid_51 : zD cX2_removePaid 51 (.getfield 22) 3 54 := ⟨by decide +kernel, rfl⟩
theorem eX2_removePaid_54 : zD cX2_removePaid 54 (.iload_n 2) 1 55 := ⟨by decide +kernel, rfl⟩
theorem eX2_removePaid_55 : zD cX2_removePaid 55 (.iaload) 1 56 := ⟨by decide +kernel, rfl⟩
theorem eX2_removePaid_56 : zD cX2_removePaid 56 (.iastore) 1 57 := ⟨by decide +kernel, rfl⟩
theorem eX2_removePaid_57 : zD cX2_removePaid 57 (.aload_n 0) 1 58 := ⟨by decide +kernel, rfl⟩
theorem eX2_removePaid_58 : zD cX2_removePaid 58 (.getfield 25) 3 61 := ⟨by decide +kernel, rfl⟩
theorem eX2_removePaid_61 : zD cX2_removePaid 61 (.iload_n 1) 1 62 := ⟨by decide +kernel, rfl⟩
theorem eX2_removePaid_62 : zD cX2_removePaid 62 (.aload_n 0) 1 63 := ⟨by decide +kernel, rfl⟩
theorem eX2_removePaid_63 : zD cX2_removePaid 63 (.getfield 25) 3 66 := ⟨by decide +kernel, rfl⟩
theorem eX2_removePaid_66 : zD cX2_removePaid 66 (.iload_n 2) 1 67 := ⟨by decide +kernel, rfl⟩
theorem eX2_removePaid_67 : zD cX2_removePaid 67 (.iaload) 1 68 := ⟨by decide +kernel, rfl⟩
theorem eX2_removePaid_68 : zD cX2_removePaid 68 (.iastore) 1 69 := ⟨by decide +kernel, rfl⟩
theorem eX2_removePaid_69 : zD cX2_removePaid 69 (.aload_n 0) 1 70 := ⟨by decide +kernel, rfl⟩
theorem eX2_removePaid_70 : zD cX2_removePaid 70 (.getfield 28) 3 73 := ⟨by decide +kernel, rfl⟩
theorem eX2_removePaid_73 : zD cX2_removePaid 73 (.iload_n 1) 1 74 := ⟨by decide +kernel, rfl⟩
theorem eX2_removePaid_74 : zD cX2_removePaid 74 (.aload_n 0) 1 75 := ⟨by decide +kernel, rfl⟩
theorem eX2_removePaid_75 : zD cX2_removePaid 75 (.getfield 28) 3 78 := ⟨by decide +kernel, rfl⟩
theorem eX2_removePaid_78 : zD cX2_removePaid 78 (.iload_n 2) 1 79 := ⟨by decide +kernel, rfl⟩
theorem eX2_removePaid_79 : zD cX2_removePaid 79 (.iaload) 1 80 := ⟨by decide +kernel, rfl⟩
theorem eX2_removePaid_80 : zD cX2_removePaid 80 (.iastore) 1 81 := ⟨by decide +kernel, rfl⟩
theorem eX2_removePaid_81 : zD cX2_removePaid 81 (.iinc 1 1) 3 84 := ⟨by decide +kernel, rfl⟩
theorem eX2_removePaid_84 : zD cX2_removePaid 84 (.iinc 2 1) 3 87 := ⟨by decide +kernel, rfl⟩
theorem eX2_removePaid_87 : zJ cX2_removePaid 87 (.goto (-83)) (-83) 4 3 90 := ⟨by decide +kernel, rfl, by decide⟩
theorem eX2_removePaid_90 : zD cX2_removePaid 90 (.aload_n 0) 1 91 := ⟨by decide +kernel, rfl⟩
theorem eX2_removePaid_91 : zD cX2_removePaid 91 (.iload_n 1) 1 92 := ⟨by decide +kernel, rfl⟩
theorem eX2_removePaid_92 : zD cX2_removePaid 92 (.putfield 9) 3 95 := ⟨by decide +kernel, rfl⟩
theorem eX2_removePaid_95 : zD cX2_removePaid 95 (.return_) 1 96 := ⟨by decide +kernel, rfl⟩
theorem eX3_init_0 : zD cX3_init 0 (.aload_n 0) 1 1 := ⟨by decide +kernel, rfl⟩
theorem eX3_init_1 : zD cX3_init 1 (.invokespecial 3) 3 4 := ⟨by decide +kernel, rfl⟩
theorem eX3_init_4 : zD cX3_init 4 (.aload_n 0) 1 5 := ⟨by decide +kernel, rfl⟩
theorem eX3_init_5 : zD cX3_init 5 (.bipush 80) 2 7 := ⟨by decide +kernel, rfl⟩
theorem eX3_init_7 : zD cX3_init 7 (.newarray .char) 2 9 := ⟨by decide +kernel, rfl⟩
theorem eX3_init_9 : zD cX3_init 9 (.putfield 9) 3 12 := ⟨by decide +kernel, rfl⟩
theorem eX3_init_12 : zD cX3_init 12 (.aload_n 0) 1 13 := ⟨by decide +kernel, rfl⟩
theorem eX3_init_13 : zD cX3_init 13 (.iconst 0) 1 14 := ⟨by decide +kernel, rfl⟩
theorem eX3_init_14 : zD cX3_init 14 (.putfield 15) 3 17 := ⟨by decide +kernel, rfl⟩
theorem eX3_init_17 : zD cX3_init 17 (.aload_n 0) 1 18 := ⟨by decide +kernel, rfl⟩
theorem eX3_init_18 : zD cX3_init 18 (.iconst 0) 1 19 := ⟨by decide +kernel, rfl⟩
theorem eX3_init_19 : zD cX3_init 19 (.putfield 19) 3 22 := ⟨by decide +kernel, rfl⟩
theorem eX3_init_22 : zD cX3_init 22 (.aload_n 0) 1 23 := ⟨by decide +kernel, rfl⟩
theorem eX3_init_23 : zD cX3_init 23 (.iconst 0) 1 24 := ⟨by decide +kernel, rfl⟩
theorem eX3_init_24 : zD cX3_init 24 (.putfield 22) 3 27 := ⟨by decide +kernel, rfl⟩
theorem eX3_init_27 : zD cX3_init 27 (.aload_n 0) 1 28 := ⟨by decide +kernel, rfl⟩
theorem eX3_init_28 : zD cX3_init 28 (.bipush 27) 2 30 := ⟨by decide +kernel, rfl⟩
theorem eX3_init_30 : zD cX3_init 30 (.newarray .char) 2 32 := ⟨by decide +kernel, rfl⟩
theorem eX3_init_32 : zD cX3_init 32 (.putfield 25) 3 35 := ⟨by decide +kernel, rfl⟩
theorem eX3_init_35 : zD cX3_init 35 (.aload_n 0) 1 36 := ⟨by decide +kernel, rfl⟩
theorem eX3_init_36 : zD cX3_init 36 (.bipush 108) 2 38 := ⟨by decide +kernel, rfl⟩
theorem eX3_init_38 : zD cX3_init 38 (.newarray .int) 2 40 := ⟨by decide +kernel, rfl⟩
theorem eX3_init_40 : zD cX3_init 40 (.putfield 28) 3 43 := ⟨by decide +kernel, rfl⟩
theorem eX3_init_43 : zD cX3_init 43 (.return_) 1 44 := ⟨by decide +kernel, rfl⟩
theorem eX3_append_0 : zD cX3_append 0 (.aload_n 0) 1 1 := ⟨by decide +kernel, rfl⟩
theorem eX3_append_1 : zD cX3_append 1 (.getfield 9) 3 4 := ⟨by decide +kernel, rfl⟩
theorem eX3_append_4 : zD cX3_append 4 (.aload_n 0) 1 5 := ⟨by decide +kernel, rfl⟩
theorem eX3_append_5 : zD cX3_append 5 (.getfield 15) 3 8 := ⟨by decide +kernel, rfl⟩
theorem eX3_append_8 : zD cX3_append 8 (.iload_n 1) 1 9 := ⟨by decide +kernel, rfl⟩
theorem eX3_append_9 : zD cX3_append 9 (.i2c) 1 10 := ⟨by decide +kernel, rfl⟩
theorem eX3_append_10 : zD cX3_append 10 (.castore) 1 11 := ⟨by decide +kernel, rfl⟩
theorem eX3_append_11 : zD cX3_append 11 (.aload_n 0) 1 12 := ⟨by decide +kernel, rfl⟩
theorem eX3_append_12 : zD cX3_append 12 (.dup) 1 13 := ⟨by decide +kernel, rfl⟩
theorem eX3_append_13 : zD cX3_append 13 (.getfield 15) 3 16 := ⟨by decide +kernel, rfl⟩
theorem eX3_append_16 : zD cX3_append 16 (.iconst 1) 1 17 := ⟨by decide +kernel, rfl⟩
theorem eX3_append_17 : zD cX3_append 17 (.iadd) 1 18 := ⟨by decide +kernel, rfl⟩
theorem eX3_append_18 : zD cX3_append 18 (.putfield 15) 3 21 := ⟨by decide +kernel, rfl⟩
theorem eX3_append_21 : zD cX3_append 21 (.return_) 1 22 := ⟨by decide +kernel, rfl⟩
theorem eX3_kindOf_0 : zD cX3_kindOf 0 (.aload_n 0) 1 1 := ⟨by decide +kernel, rfl⟩
theorem eX3_kindOf_1 : zD cX3_kindOf 1 (.getfield 25) 3 4 := ⟨by decide +kernel, rfl⟩
theorem eX3_kindOf_4 : zD cX3_kindOf 4 (.iload_n 1) 1 5 := ⟨by decide +kernel, rfl⟩
theorem eX3_kindOf_5 : zD cX3_kindOf 5 (.caload) 1 6 := ⟨by decide +kernel, rfl⟩
theorem eX3_kindOf_6 : zD cX3_kindOf 6 (.ireturn) 1 7 := ⟨by decide +kernel, rfl⟩
theorem eX3_valueOf_0 : zD cX3_valueOf 0 (.aload_n 0) 1 1 := ⟨by decide +kernel, rfl⟩
theorem eX3_valueOf_1 : zD cX3_valueOf 1 (.getfield 28) 3 4 := ⟨by decide +kernel, rfl⟩
theorem eX3_valueOf_4 : zD cX3_valueOf 4 (.iload_n 1) 1 5 := ⟨by decide +kernel, rfl⟩
theorem eX3_valueOf_5 : zD cX3_valueOf 5 (.iconst 4) 1 6 := ⟨by decide +kernel, rfl⟩
theorem eX3_valueOf_6 : zD cX3_valueOf 6 (.imul) 1 7 := ⟨by decide +kernel, rfl⟩
theorem eX3_valueOf_7 : zD cX3_valueOf 7 (.iload_n 2) 1 8 := ⟨by decide +kernel, rfl⟩
theorem eX3_valueOf_8 : zD cX3_valueOf 8 (.iadd) 1 9 := ⟨by decide +kernel, rfl⟩
theorem eX3_valueOf_9 : zD cX3_valueOf 9 (.iaload) 1 10 := ⟨by decide +kernel, rfl⟩
theorem eX3_valueOf_10 : zD cX3_valueOf 10 (.ireturn) 1 11 := ⟨by decide +kernel, rfl⟩
theorem eX3_readOrders_0 : zD cX3_readOrders 0 (.aload_n 0) 1 1 := ⟨by decide +kernel, rfl⟩
theorem eX3_readOrders_1 : zD cX3_readOrders 1 (.iconst 0) 1 2 := ⟨by decide +kernel, rfl⟩
theorem eX3_readOrders_2 : zD cX3_readOrders 2 (.putfield 19) 3 5 := ⟨by decide +kernel, rfl⟩
theorem eX3_readOrders_5 : zD cX3_readOrders 5 (.aload_n 0) 1 6 := ⟨by decide +kernel, rfl⟩
theorem eX3_readOrders_6 : zD cX3_readOrders 6 (.iconst 0) 1 7 := ⟨by decide +kernel, rfl⟩
theorem eX3_readOrders_7 : zD cX3_readOrders 7 (.putfield 22) 3 10 := ⟨by decide +kernel, rfl⟩
theorem eX3_readOrders_10 : zD cX3_readOrders 10 (.aload_n 0) 1 11 := ⟨by decide +kernel, rfl⟩
theorem eX3_readOrders_11 : zD cX3_readOrders 11 (.getfield 22) 3 14 := ⟨by decide +kernel, rfl⟩
theorem eX3_readOrders_14 : zD cX3_readOrders 14 (.bipush 27) 2 16 := ⟨by decide +kernel, rfl⟩
theorem eX3_readOrders_16 : zJ cX3_readOrders 16 (.if_icmp .ge (53)) (53) 69 3 19 := ⟨by decide +kernel, rfl, by decide⟩
theorem eX3_readOrders_19 : zD cX3_readOrders 19 (.aload_n 0) 1 20 := ⟨by decide +kernel, rfl⟩
theorem eX3_readOrders_20 : zD cX3_readOrders 20 (.invokevirtual 32) 3 23 := ⟨by decide +kernel, rfl⟩
theorem eX3_readOrders_23 : zJ cX3_readOrders 23 (.ifCond .ne (8)) (8) 31 3 26 := ⟨by decide +kernel, rfl, by decide⟩
theorem eX3_readOrders_26 : zD cX3_readOrders 26 (.aload_n 0) 1 27 := ⟨by decide +kernel, rfl⟩
theorem eX3_readOrders_27 : zD cX3_readOrders 27 (.getfield 19) 3 30 := ⟨by decide +kernel, rfl⟩
theorem eX3_readOrders_30 : zD cX3_readOrders 30 (.ireturn) 1 31 := ⟨by decide +kernel, rfl⟩
theorem eX3_readOrders_31 : zD cX3_readOrders 31 (.aload_n 0) 1 32 := ⟨by decide +kernel, rfl⟩
theorem eX3_readOrders_32 : zD cX3_readOrders 32 (.dup) 1 33 := ⟨by decide +kernel, rfl⟩
theorem eX3_readOrders_33 : zD cX3_readOrders 33 (.getfield 22) 3 36 := ⟨by decide +kernel, rfl⟩
theorem eX3_readOrders_36 : zD cX3_readOrders 36 (.iconst 1) 1 37 := ⟨by decide +kernel, rfl⟩
theorem eX3_readOrders_37 : zD cX3_readOrders 37 (.iadd) 1 38 := ⟨by decide +kernel, rfl⟩
theorem eX3_readOrders_38 : zD cX3_readOrders 38 (.putfield 22) 3 41 := ⟨by decide +kernel, rfl⟩
theorem eX3_readOrders_41 : zD cX3_readOrders 41 (.aload_n 0) 1 42 := ⟨by decide +kernel, rfl⟩
theorem eX3_readOrders_42 : zD cX3_readOrders 42 (.getfield 19) 3 45 := ⟨by decide +kernel, rfl⟩
theorem eX3_readOrders_45 : zD cX3_readOrders 45 (.aload_n 0) 1 46 := ⟨by decide +kernel, rfl⟩
theorem eX3_readOrders_46 : zD cX3_readOrders 46 (.getfield 15) 3 49 := ⟨by decide +kernel, rfl⟩
theorem eX3_readOrders_49 : zJ cX3_readOrders 49 (.if_icmp .lt (6)) (6) 55 3 52 := ⟨by decide +kernel, rfl, by decide⟩
theorem eX3_readOrders_52 : zD cX3_readOrders 52 (.bipush (-6)) 2 54 := ⟨by decide +kernel, rfl⟩
theorem eX3_readOrders_54 : zD cX3_readOrders 54 (.ireturn) 1 55 := ⟨by decide +kernel, rfl⟩
theorem eX3_readOrders_55 : zD cX3_readOrders 55 (.aload_n 0) 1 56 := ⟨by decide +kernel, rfl⟩
theorem eX3_readOrders_56 : zD cX3_readOrders 56 (.bipush 59) 2 58 := ⟨by decide +kernel, rfl⟩
theorem eX3_readOrders_58 : zD cX3_readOrders 58 (.invokevirtual 36) 3 61 := ⟨by decide +kernel, rfl⟩
theorem eX3_readOrders_61 : zJ cX3_readOrders 61 (.ifCond .ne (-51)) (-51) 10 3 64 := ⟨by decide +kernel, rfl, by decide⟩
theorem eX3_readOrders_64 : zD cX3_readOrders 64 (.aload_n 0) 1 65 := ⟨by decide +kernel, rfl⟩
theorem eX3_readOrders_65 : zD cX3_readOrders 65 (.getfield 19) 3 68 := ⟨by decide +kernel, rfl⟩
theorem eX3_readOrders_68 : zD cX3_readOrders 68 (.ireturn) 1 69 := ⟨by decide +kernel, rfl⟩
theorem eX3_readOrders_69 : zD cX3_readOrders 69 (.aload_n 0) 1 70 := ⟨by decide +kernel, rfl⟩
theorem eX3_readOrders_70 : zD cX3_readOrders 70 (.getfield 19) 3 73 := ⟨by decide +kernel, rfl⟩
theorem eX3_readOrders_73 : zD cX3_readOrders 73 (.ireturn) 1 74 := ⟨by decide +kernel, rfl⟩
theorem eX3_readOrder_0 : zD cX3_readOrder 0 (.aload_n 0) 1 1 := ⟨by decide +kernel, rfl⟩
theorem eX3_readOrder_1 : zD cX3_readOrder 1 (.invokevirtual 40) 3 4 := ⟨by decide +kernel, rfl⟩
theorem eX3_readOrder_4 : zD cX3_readOrder 4 (.invokestatic 44) 3 7 := ⟨by decide +kernel, rfl⟩
theorem eX3_readOrder_7 : zD cX3_readOrder 7 (.astore_n 1) 1 8 := ⟨by decide +kernel, rfl⟩
theorem eX3_readOrder_8 : zD cX3_readOrder 8 (.aload_n 1) 1 9 := ⟨by decide +kernel, rfl⟩
theorem eX3_readOrder_9 : zD cX3_readOrder 9 (.invokevirtual 48) 3 12 := ⟨by decide +kernel, rfl⟩
theorem eX3_readOrder_12 : zJ cX3_readOrder 12 (.ifCond .eq (5)) (5) 17 3 15 := ⟨by decide +kernel, rfl, by decide⟩
theorem eX3_readOrder_15 : zD cX3_readOrder 15 (.iconst 0) 1 16 := ⟨by decide +kernel, rfl⟩
theorem eX3_readOrder_16 : zD cX3_readOrder 16 (.ireturn) 1 17 := ⟨by decide +kernel, rfl⟩
theorem eX3_readOrder_17 : zD cX3_readOrder 17 (.aload_n 0) 1 18 := ⟨by decide +kernel, rfl⟩
theorem eX3_readOrder_18 : zD cX3_readOrder 18 (.getfield 25) 3 21 := ⟨by decide +kernel, rfl⟩
theorem eX3_readOrder_21 : zD cX3_readOrder 21 (.aload_n 0) 1 22 := ⟨by decide +kernel, rfl⟩
theorem eX3_readOrder_22 : zD cX3_readOrder 22 (.getfield 22) 3 25 := ⟨by decide +kernel, rfl⟩
theorem eX3_readOrder_25 : zD cX3_readOrder 25 (.aload_n 0) 1 26 := ⟨by decide +kernel, rfl⟩
theorem eX3_readOrder_26 : zD cX3_readOrder 26 (.invokevirtual 40) 3 29 := ⟨by decide +kernel, rfl⟩
theorem eX3_readOrder_29 : zD cX3_readOrder 29 (.castore) 1 30 := ⟨by decide +kernel, rfl⟩
theorem eX3_readOrder_30 : zD cX3_readOrder 30 (.aload_n 0) 1 31 := ⟨by decide +kernel, rfl⟩
theorem eX3_readOrder_31 : zD cX3_readOrder 31 (.dup) 1 32 := ⟨by decide +kernel, rfl⟩
theorem eX3_readOrder_32 : zD cX3_readOrder 32 (.getfield 19) 3 35 := ⟨by decide +kernel, rfl⟩
theorem eX3_readOrder_35 : zD cX3_readOrder 35 (.iconst 1) 1 36 := ⟨by decide +kernel, rfl⟩
theorem eX3_readOrder_36 : zD cX3_readOrder 36 (.iadd) 1 37 := ⟨by decide +kernel, rfl⟩
theorem eX3_readOrder_37 : zD cX3_readOrder 37 (.putfield 19) 3 40 := ⟨by decide +kernel, rfl⟩
theorem eX3_readOrder_40 : zD cX3_readOrder 40 (.iconst 0) 1 41 := ⟨by decide +kernel, rfl⟩
theorem eX3_readOrder_41 : zD cX3_readOrder 41 (.istore_n 2) 1 42 := ⟨by decide +kernel, rfl⟩
theorem eX3_readOrder_42 : zD cX3_readOrder 42 (.iconst 0) 1 43 := ⟨by decide +kernel, rfl⟩
theorem eX3_readOrder_43 : zD cX3_readOrder 43 (.istore_n 3) 1 44 := ⟨by decide +kernel, rfl⟩
theorem eX3_readOrder_44 : zD cX3_readOrder 44 (.iload_n 3) 1 45 := ⟨by decide +kernel, rfl⟩
theorem eX3_readOrder_45 : zD cX3_readOrder 45 (.aload_n 1) 1 46 := ⟨by decide +kernel, rfl⟩
theorem eX3_readOrder_46 : zD cX3_readOrder 46 (.invokevirtual 53) 3 49 := ⟨by decide +kernel, rfl⟩
theorem eX3_readOrder_49 : zJ cX3_readOrder 49 (.if_icmp .ge (62)) (62) 111 3 52 := ⟨by decide +kernel, rfl, by decide⟩
theorem eX3_readOrder_52 : zD cX3_readOrder 52 (.aload_n 1) 1 53 := ⟨by decide +kernel, rfl⟩
theorem eX3_readOrder_53 : zD cX3_readOrder 53 (.iload_n 3) 1 54 := ⟨by decide +kernel, rfl⟩
theorem eX3_readOrder_54 : zD cX3_readOrder 54 (.invokevirtual 56) 3 57 := ⟨by decide +kernel, rfl⟩
theorem eX3_readOrder_57 : zD cX3_readOrder 57 (.istore 4) 2 59 := ⟨by decide +kernel, rfl⟩
theorem eX3_readOrder_59 : zD cX3_readOrder 59 (.aload_n 0) 1 60 := ⟨by decide +kernel, rfl⟩
theorem eX3_readOrder_60 : zD cX3_readOrder 60 (.iload 4) 2 62 := ⟨by decide +kernel, rfl⟩
theorem eX3_readOrder_62 : zD cX3_readOrder 62 (.invokevirtual 60) 3 65 := ⟨by decide +kernel, rfl⟩
theorem eX3_readOrder_65 : zD cX3_readOrder 65 (.istore 5) 2 67 := ⟨by decide +kernel, rfl⟩
theorem eX3_readOrder_67 : zD cX3_readOrder 67 (.iload 5) 2 69 := ⟨by decide +kernel, rfl⟩
theorem eX3_readOrder_69 : zJ cX3_readOrder 69 (.ifCond .ge (5)) (5) 74 3 72 := ⟨by decide +kernel, rfl, by decide⟩
theorem eX3_readOrder_72 : zD cX3_readOrder 72 (.iconst 0) 1 73 := ⟨by decide +kernel, rfl⟩
theorem eX3_readOrder_73 : zD cX3_readOrder 73 (.ireturn) 1 74 := ⟨by decide +kernel, rfl⟩
theorem eX3_readOrder_74 : zD cX3_readOrder 74 (.iload 4) 2 76 := ⟨by decide +kernel, rfl⟩
theorem eX3_readOrder_76 : zD cX3_readOrder 76 (.invokestatic 64) 3 79 := ⟨by decide +kernel, rfl⟩
theorem eX3_readOrder_79 : zJ cX3_readOrder 79 (.ifCond .eq (26)) (26) 105 3 82 := ⟨by decide +kernel, rfl, by decide⟩
theorem eX3_readOrder_82 : zD cX3_readOrder 82 (.iload_n 2) 1 83 := ⟨by decide +kernel, rfl⟩
theorem eX3_readOrder_83 : zD cX3_readOrder 83 (.iconst 4) 1 84 := ⟨by decide +kernel, rfl⟩
theorem eX3_readOrder_84 : zJ cX3_readOrder 84 (.if_icmp .ge (21)) (21) 105 3 87 := ⟨by decide +kernel, rfl, by decide⟩
theorem eX3_readOrder_87 : zD cX3_readOrder 87 (.aload_n 0) 1 88 := ⟨by decide +kernel, rfl⟩
theorem eX3_readOrder_88 : zD cX3_readOrder 88 (.getfield 28) 3 91 := ⟨by decide +kernel, rfl⟩
theorem eX3_readOrder_91 : zD cX3_readOrder 91 (.aload_n 0) 1 92 := ⟨by decide +kernel, rfl⟩
theorem eX3_readOrder_92 : zD cX3_readOrder 92 (.getfield 22) 3 95 := ⟨by decide +kernel, rfl⟩
theorem eX3_readOrder_95 : zD cX3_readOrder 95 (.iconst 4) 1 96 := ⟨by decide +kernel, rfl⟩
theorem eX3_readOrder_96 : zD cX3_readOrder 96 (.imul) 1 97 := ⟨by decide +kernel, rfl⟩
theorem eX3_readOrder_97 : zD cX3_readOrder 97 (.iload_n 2) 1 98 := ⟨by decide +kernel, rfl⟩
theorem eX3_readOrder_98 : zD cX3_readOrder 98 (.iadd) 1 99 := ⟨by decide +kernel, rfl⟩
theorem eX3_readOrder_99 : zD cX3_readOrder 99 (.iload 5) 2 101 := ⟨by decide +kernel, rfl⟩
theorem eX3_readOrder_101 : zD cX3_readOrder 101 (.iastore) 1 102 := ⟨by decide +kernel, rfl⟩
theorem eX3_readOrder_102 : zD cX3_readOrder 102 (.iinc 2 1) 3 105 := ⟨by decide +kernel, rfl⟩
theorem eX3_readOrder_105 : zD cX3_readOrder 105 (.iinc 3 1) 3 108 := ⟨by decide +kernel, rfl⟩
theorem eX3_readOrder_108 : zJ cX3_readOrder 108 (.goto (-64)) (-64) 44 3 111 := ⟨by decide +kernel, rfl, by decide⟩
theorem eX3_readOrder_111 : zD cX3_readOrder 111 (.iconst 1) 1 112 := ⟨by decide +kernel, rfl⟩
theorem eX3_readOrder_112 : zD cX3_readOrder 112 (.ireturn) 1 113 := ⟨by decide +kernel, rfl⟩
theorem eX3_shapeOf_0 : zD cX3_shapeOf 0 (.iload_n 0) 1 1 := ⟨by decide +kernel, rfl⟩
theorem eX3_shapeOf_1 : zD cX3_shapeOf 1 (.tableswitch 101 104 120 #[98, 101, 101, 101, 89, 101, 101, 83, 92, 101, 86, 101, 101, 101, 101, 101, 95]) 83 84 := ⟨by decide +kernel, rfl⟩
theorem eX3_shapeOf_84 : zD cX3_shapeOf 84 (.ldc 67) 2 86 := ⟨by decide +kernel, rfl⟩
theorem eX3_shapeOf_86 : zD cX3_shapeOf 86 (.areturn) 1 87 := ⟨by decide +kernel, rfl⟩
theorem eX3_shapeOf_87 : zD cX3_shapeOf 87 (.ldc 69) 2 89 := ⟨by decide +kernel, rfl⟩
theorem eX3_shapeOf_89 : zD cX3_shapeOf 89 (.areturn) 1 90 := ⟨by decide +kernel, rfl⟩
theorem eX3_shapeOf_90 : zD cX3_shapeOf 90 (.ldc 71) 2 92 := ⟨by decide +kernel, rfl⟩
theorem eX3_shapeOf_92 : zD cX3_shapeOf 92 (.areturn) 1 93 := ⟨by decide +kernel, rfl⟩
theorem eX3_shapeOf_93 : zD cX3_shapeOf 93 (.ldc 73) 2 95 := ⟨by decide +kernel, rfl⟩
theorem eX3_shapeOf_95 : zD cX3_shapeOf 95 (.areturn) 1 96 := ⟨by decide +kernel, rfl⟩
theorem eX3_shapeOf_96 : zD cX3_shapeOf 96 (.ldc 75) 2 98 := ⟨by decide +kernel, rfl⟩
theorem eX3_shapeOf_98 : zD cX3_shapeOf 98 (.areturn) 1 99 := ⟨by decide +kernel, rfl⟩
theorem eX3_shapeOf_99 : zD cX3_shapeOf 99 (.ldc 75) 2 101 := ⟨by decide +kernel, rfl⟩
theorem eX3_shapeOf_101 : zD cX3_shapeOf 101 (.areturn) 1 102 := ⟨by decide +kernel, rfl⟩
theorem eX3_shapeOf_102 : zD cX3_shapeOf 102 (.ldc 77) 2 104 := ⟨by decide +kernel, rfl⟩
theorem eX3_shapeOf_104 : zD cX3_shapeOf 104 (.areturn) 1 105 := ⟨by decide +kernel, rfl⟩
theorem eX3_isValue_0 : zD cX3_isValue 0 (.iload_n 0) 1 1 := ⟨by decide +kernel, rfl⟩
theorem eX3_isValue_1 : zD cX3_isValue 1 (.bipush 115) 2 3 := ⟨by decide +kernel, rfl⟩
theorem eX3_isValue_3 : zJ cX3_isValue 3 (.if_icmp .eq (21)) (21) 24 3 6 := ⟨by decide +kernel, rfl, by decide⟩
theorem eX3_isValue_6 : zD cX3_isValue 6 (.iload_n 0) 1 7 := ⟨by decide +kernel, rfl⟩
theorem eX3_isValue_7 : zD cX3_isValue 7 (.bipush 100) 2 9 := ⟨by decide +kernel, rfl⟩
theorem eX3_isValue_9 : zJ cX3_isValue 9 (.if_icmp .eq (15)) (15) 24 3 12 := ⟨by decide +kernel, rfl, by decide⟩
theorem eX3_isValue_12 : zD cX3_isValue 12 (.iload_n 0) 1 13 := ⟨by decide +kernel, rfl⟩
theorem eX3_isValue_13 : zD cX3_isValue 13 (.bipush 110) 2 15 := ⟨by decide +kernel, rfl⟩
theorem eX3_isValue_15 : zJ cX3_isValue 15 (.if_icmp .eq (9)) (9) 24 3 18 := ⟨by decide +kernel, rfl, by decide⟩
theorem eX3_isValue_18 : zD cX3_isValue 18 (.iload_n 0) 1 19 := ⟨by decide +kernel, rfl⟩
theorem eX3_isValue_19 : zD cX3_isValue 19 (.bipush 33) 2 21 := ⟨by decide +kernel, rfl⟩
theorem eX3_isValue_21 : zJ cX3_isValue 21 (.if_icmp .ne (7)) (7) 28 3 24 := ⟨by decide +kernel, rfl, by decide⟩
theorem eX3_isValue_24 : zD cX3_isValue 24 (.iconst 1) 1 25 := ⟨by decide +kernel, rfl⟩
theorem eX3_isValue_25 : zJ cX3_isValue 25 (.goto (4)) (4) 29 3 28 := ⟨by decide +kernel, rfl, by decide⟩
theorem eX3_isValue_28 : zD cX3_isValue 28 (.iconst 0) 1 29 := ⟨by decide +kernel, rfl⟩
theorem eX3_isValue_29 : zD cX3_isValue 29 (.ireturn) 1 30 := ⟨by decide +kernel, rfl⟩
theorem eX3_readPart_0 : zD cX3_readPart 0 (.iload_n 1) 1 1 := ⟨by decide +kernel, rfl⟩
theorem eX3_readPart_1 : zD cX3_readPart 1 (.lookupswitch 77 #[(33, 62), (100, 50), (110, 57), (115, 43)]) 43 44 := ⟨by decide +kernel, rfl⟩
theorem eX3_readPart_44 : zD cX3_readPart 44 (.aload_n 0) 1 45 := ⟨by decide +kernel, rfl⟩
theorem eX3_readPart_45 : zD cX3_readPart 45 (.bipush 55) 2 47 := ⟨by decide +kernel, rfl⟩
theorem eX3_readPart_47 : zD cX3_readPart 47 (.invokevirtual 79) 3 50 := ⟨by decide +kernel, rfl⟩
theorem eX3_readPart_50 : zD cX3_readPart 50 (.ireturn) 1 51 := ⟨by decide +kernel, rfl⟩
theorem eX3_readPart_51 : zD cX3_readPart 51 (.aload_n 0) 1 52 := ⟨by decide +kernel, rfl⟩
theorem eX3_readPart_52 : zD cX3_readPart 52 (.bipush 57) 2 54 := ⟨by decide +kernel, rfl⟩
theorem eX3_readPart_54 : zD cX3_readPart 54 (.invokevirtual 79) 3 57 := ⟨by decide +kernel, rfl⟩
theorem eX3_readPart_57 : zD cX3_readPart 57 (.ireturn) 1 58 := ⟨by decide +kernel, rfl⟩
theorem eX3_readPart_58 : zD cX3_readPart 58 (.aload_n 0) 1 59 := ⟨by decide +kernel, rfl⟩
theorem eX3_readPart_59 : zD cX3_readPart 59 (.invokevirtual 82) 3 62 := ⟨by decide +kernel, rfl⟩
theorem eX3_readPart_62 : zD cX3_readPart 62 (.ireturn) 1 63 := ⟨by decide +kernel, rfl⟩
theorem eX3_readPart_63 : zD cX3_readPart 63 (.aload_n 0) 1 64 := ⟨by decide +kernel, rfl⟩
theorem eX3_readPart_64 : zD cX3_readPart 64 (.bipush 33) 2 66 := ⟨by decide +kernel, rfl⟩
theorem eX3_readPart_66 : zD cX3_readPart 66 (.invokevirtual 36) 3 69 := ⟨by decide +kernel, rfl⟩
theorem eX3_readPart_69 : zJ cX3_readPart 69 (.ifCond .eq (7)) (7) 76 3 72 := ⟨by decide +kernel, rfl, by decide⟩
theorem eX3_readPart_72 : zD cX3_readPart 72 (.iconst 1) 1 73 := ⟨by decide +kernel, rfl⟩
theorem eX3_readPart_73 : zJ cX3_readPart 73 (.goto (4)) (4) 77 3 76 := ⟨by decide +kernel, rfl, by decide⟩
theorem eX3_readPart_76 : zD cX3_readPart 76 (.iconst 0) 1 77 := ⟨by decide +kernel, rfl⟩
theorem eX3_readPart_77 : zD cX3_readPart 77 (.ireturn) 1 78 := ⟨by decide +kernel, rfl⟩
theorem eX3_readPart_78 : zD cX3_readPart 78 (.aload_n 0) 1 79 := ⟨by decide +kernel, rfl⟩
theorem eX3_readPart_79 : zD cX3_readPart 79 (.iload_n 1) 1 80 := ⟨by decide +kernel, rfl⟩
theorem eX3_readPart_80 : zD cX3_readPart 80 (.invokevirtual 36) 3 83 := ⟨by decide +kernel, rfl⟩
theorem eX3_readPart_83 : zJ cX3_readPart 83 (.ifCond .eq (7)) (7) 90 3 86 := ⟨by decide +kernel, rfl, by decide⟩
theorem eX3_readPart_86 : zD cX3_readPart 86 (.iconst 0) 1 87 := ⟨by decide +kernel, rfl⟩
theorem eX3_readPart_87 : zJ cX3_readPart 87 (.goto (4)) (4) 91 3 90 := ⟨by decide +kernel, rfl, by decide⟩
theorem eX3_readPart_90 : zD cX3_readPart 90 (.iconst (-1)) 1 91 := ⟨by decide +kernel, rfl⟩
theorem eX3_readPart_91 : zD cX3_readPart 91 (.ireturn) 1 92 := ⟨by decide +kernel, rfl⟩
theorem eX3_readSign_0 : zD cX3_readSign 0 (.aload_n 0) 1 1 := ⟨by decide +kernel, rfl⟩
theorem eX3_readSign_1 : zD cX3_readSign 1 (.invokevirtual 40) 3 4 := ⟨by decide +kernel, rfl⟩
theorem eX3_readSign_4 : zD cX3_readSign 4 (.iload_n 1) 1 5 := ⟨by decide +kernel, rfl⟩
theorem eX3_readSign_5 : zJ cX3_readSign 5 (.if_icmp .ne (7)) (7) 12 3 8 := ⟨by decide +kernel, rfl, by decide⟩
theorem eX3_readSign_8 : zD cX3_readSign 8 (.iconst 1) 1 9 := ⟨by decide +kernel, rfl⟩
theorem eX3_readSign_9 : zJ cX3_readSign 9 (.goto (4)) (4) 13 3 12 := ⟨by decide +kernel, rfl, by decide⟩
theorem eX3_readSign_12 : zD cX3_readSign 12 (.iconst 0) 1 13 := ⟨by decide +kernel, rfl⟩
theorem eX3_readSign_13 : zD cX3_readSign 13 (.istore_n 2) 1 14 := ⟨by decide +kernel, rfl⟩
theorem eX3_readSign_14 : zD cX3_readSign 14 (.iload_n 2) 1 15 := ⟨by decide +kernel, rfl⟩
theorem eX3_readSign_15 : zJ cX3_readSign 15 (.ifCond .eq (13)) (13) 28 3 18 := ⟨by decide +kernel, rfl, by decide⟩
theorem eX3_readSign_18 : zD cX3_readSign 18 (.aload_n 0) 1 19 := ⟨by decide +kernel, rfl⟩
theorem eX3_readSign_19 : zD cX3_readSign 19 (.dup) 1 20 := ⟨by decide +kernel, rfl⟩
theorem eX3_readSign_20 : zD cX3_readSign 20 (.getfield 19) 3 23 := ⟨by decide +kernel, rfl⟩
theorem eX3_readSign_23 : zD cX3_readSign 23 (.iconst 1) 1 24 := ⟨by decide +kernel, rfl⟩
theorem eX3_readSign_24 : zD cX3_readSign 24 (.iadd) 1 25 := ⟨by decide +kernel, rfl⟩
theorem eX3_readSign_25 : zD cX3_readSign 25 (.putfield 19) 3 28 := ⟨by decide +kernel, rfl⟩
theorem eX3_readSign_28 : zD cX3_readSign 28 (.iload_n 2) 1 29 := ⟨by decide +kernel, rfl⟩
theorem eX3_readSign_29 : zD cX3_readSign 29 (.ireturn) 1 30 := ⟨by decide +kernel, rfl⟩
theorem eX3_readDigit_0 : zD cX3_readDigit 0 (.aload_n 0) 1 1 := ⟨by decide +kernel, rfl⟩
theorem eX3_readDigit_1 : zD cX3_readDigit 1 (.invokevirtual 40) 3 4 := ⟨by decide +kernel, rfl⟩
theorem eX3_readDigit_4 : zD cX3_readDigit 4 (.istore_n 2) 1 5 := ⟨by decide +kernel, rfl⟩
theorem eX3_readDigit_5 : zD cX3_readDigit 5 (.iload_n 2) 1 6 := ⟨by decide +kernel, rfl⟩
theorem eX3_readDigit_6 : zD cX3_readDigit 6 (.bipush 48) 2 8 := ⟨by decide +kernel, rfl⟩
theorem eX3_readDigit_8 : zJ cX3_readDigit 8 (.if_icmp .lt (8)) (8) 16 3 11 := ⟨by decide +kernel, rfl, by decide⟩
theorem eX3_readDigit_11 : zD cX3_readDigit 11 (.iload_n 2) 1 12 := ⟨by decide +kernel, rfl⟩
theorem eX3_readDigit_12 : zD cX3_readDigit 12 (.iload_n 1) 1 13 := ⟨by decide +kernel, rfl⟩
theorem eX3_readDigit_13 : zJ cX3_readDigit 13 (.if_icmp .le (5)) (5) 18 3 16 := ⟨by decide +kernel, rfl, by decide⟩
theorem eX3_readDigit_16 : zD cX3_readDigit 16 (.iconst (-1)) 1 17 := ⟨by decide +kernel, rfl⟩
theorem eX3_readDigit_17 : zD cX3_readDigit 17 (.ireturn) 1 18 := ⟨by decide +kernel, rfl⟩
theorem eX3_readDigit_18 : zD cX3_readDigit 18 (.aload_n 0) 1 19 := ⟨by decide +kernel, rfl⟩
theorem eX3_readDigit_19 : zD cX3_readDigit 19 (.dup) 1 20 := ⟨by decide +kernel, rfl⟩
theorem eX3_readDigit_20 : zD cX3_readDigit 20 (.getfield 19) 3 23 := ⟨by decide +kernel, rfl⟩
theorem eX3_readDigit_23 : zD cX3_readDigit 23 (.iconst 1) 1 24 := ⟨by decide +kernel, rfl⟩
theorem eX3_readDigit_24 : zD cX3_readDigit 24 (.iadd) 1 25 := ⟨by decide +kernel, rfl⟩
theorem eX3_readDigit_25 : zD cX3_readDigit 25 (.putfield 19) 3 28 := ⟨by decide +kernel, rfl⟩
theorem eX3_readDigit_28 : zD cX3_readDigit 28 (.iload_n 2) 1 29 := ⟨by decide +kernel, rfl⟩
theorem eX3_readDigit_29 : zD cX3_readDigit 29 (.bipush 48) 2 31 := ⟨by decide +kernel, rfl⟩
theorem eX3_readDigit_31 : zD cX3_readDigit 31 (.isub) 1 32 := ⟨by decide +kernel, rfl⟩
theorem eX3_readDigit_32 : zD cX3_readDigit 32 (.ireturn) 1 33 := ⟨by decide +kernel, rfl⟩
theorem eX3_readNumber_0 : zD cX3_readNumber 0 (.aload_n 0) 1 1 := ⟨by decide +kernel, rfl⟩
theorem eX3_readNumber_1 : zD cX3_readNumber 1 (.bipush 57) 2 3 := ⟨by decide +kernel, rfl⟩
theorem eX3_readNumber_3 : zD cX3_readNumber 3 (.invokevirtual 79) 3 6 := ⟨by decide +kernel, rfl⟩
theorem eX3_readNumber_6 : zD cX3_readNumber 6 (.istore_n 1) 1 7 := ⟨by decide +kernel, rfl⟩
theorem eX3_readNumber_7 : zD cX3_readNumber 7 (.iconst 1) 1 8 := ⟨by decide +kernel, rfl⟩
theorem eX3_readNumber_8 : zD cX3_readNumber 8 (.istore_n 2) 1 9 := ⟨by decide +kernel, rfl⟩
theorem eX3_readNumber_9 : zD cX3_readNumber 9 (.iload_n 2) 1 10 := ⟨by decide +kernel, rfl⟩
theorem eX3_readNumber_10 : zD cX3_readNumber 10 (.iconst 4) 1 11 := ⟨by decide +kernel, rfl⟩
theorem eX3_readNumber_11 : zJ cX3_readNumber 11 (.if_icmp .ge (33)) (33) 44 3 14 := ⟨by decide +kernel, rfl, by decide⟩
theorem eX3_readNumber_14 : zD cX3_readNumber 14 (.iload_n 1) 1 15 := ⟨by decide +kernel, rfl⟩
theorem eX3_readNumber_15 : zJ cX3_readNumber 15 (.ifCond .le (29)) (29) 44 3 18 := ⟨by decide +kernel, rfl, by decide⟩
theorem eX3_readNumber_18 : zD cX3_readNumber 18 (.aload_n 0) 1 19 := ⟨by decide +kernel, rfl⟩
theorem eX3_readNumber_19 : zD cX3_readNumber 19 (.bipush 57) 2 21 := ⟨by decide +kernel, rfl⟩
theorem eX3_readNumber_21 : zD cX3_readNumber 21 (.invokevirtual 79) 3 24 := ⟨by decide +kernel, rfl⟩
theorem eX3_readNumber_24 : zD cX3_readNumber 24 (.istore_n 3) 1 25 := ⟨by decide +kernel, rfl⟩
theorem eX3_readNumber_25 : zD cX3_readNumber 25 (.iload_n 3) 1 26 := ⟨by decide +kernel, rfl⟩
theorem eX3_readNumber_26 : zJ cX3_readNumber 26 (.ifCond .ge (5)) (5) 31 3 29 := ⟨by decide +kernel, rfl, by decide⟩
theorem eX3_readNumber_29 : zD cX3_readNumber 29 (.iload_n 1) 1 30 := ⟨by decide +kernel, rfl⟩
theorem eX3_readNumber_30 : zD cX3_readNumber 30 (.ireturn) 1 31 := ⟨by decide +kernel, rfl⟩
theorem eX3_readNumber_31 : zD cX3_readNumber 31 (.iload_n 1) 1 32 := ⟨by decide +kernel, rfl⟩
theorem eX3_readNumber_32 : zD cX3_readNumber 32 (.bipush 10) 2 34 := ⟨by decide +kernel, rfl⟩
theorem eX3_readNumber_34 : zD cX3_readNumber 34 (.imul) 1 35 := ⟨by decide +kernel, rfl⟩
theorem eX3_readNumber_35 : zD cX3_readNumber 35 (.iload_n 3) 1 36 := ⟨by decide +kernel, rfl⟩
theorem eX3_readNumber_36 : zD cX3_readNumber 36 (.iadd) 1 37 := ⟨by decide +kernel, rfl⟩
theorem eX3_readNumber_37 : zD cX3_readNumber 37 (.istore_n 1) 1 38 := ⟨by decide +kernel, rfl⟩
theorem eX3_readNumber_38 : zD cX3_readNumber 38 (.iinc 2 1) 3 41 := ⟨by decide +kernel, rfl⟩
theorem eX3_readNumber_41 : zJ cX3_readNumber 41 (.goto (-32)) (-32) 9 3 44 := ⟨by decide +kernel, rfl, by decide⟩
theorem eX3_readNumber_44 : zD cX3_readNumber 44 (.iload_n 1) 1 45 := ⟨by decide +kernel, rfl⟩
theorem eX3_readNumber_45 : zD cX3_readNumber 45 (.ireturn) 1 46 := ⟨by decide +kernel, rfl⟩
theorem eX3_signHere_0 : zD cX3_signHere 0 (.aload_n 0) 1 1 := ⟨by decide +kernel, rfl⟩
theorem eX3_signHere_1 : zD cX3_signHere 1 (.getfield 19) 3 4 := ⟨by decide +kernel, rfl⟩
theorem eX3_signHere_4 : zD cX3_signHere 4 (.aload_n 0) 1 5 := ⟨by decide +kernel, rfl⟩
theorem eX3_signHere_5 : zD cX3_signHere 5 (.getfield 15) 3 8 := ⟨by decide +kernel, rfl⟩
theorem eX3_signHere_8 : zJ cX3_signHere 8 (.if_icmp .ge (15)) (15) 23 3 11 := ⟨by decide +kernel, rfl, by decide⟩
theorem eX3_signHere_11 : zD cX3_signHere 11 (.aload_n 0) 1 12 := ⟨by decide +kernel, rfl⟩
theorem eX3_signHere_12 : zD cX3_signHere 12 (.getfield 9) 3 15 := ⟨by decide +kernel, rfl⟩
theorem eX3_signHere_15 : zD cX3_signHere 15 (.aload_n 0) 1 16 := ⟨by decide +kernel, rfl⟩
theorem eX3_signHere_16 : zD cX3_signHere 16 (.getfield 19) 3 19 := ⟨by decide +kernel, rfl⟩
theorem eX3_signHere_19 : zD cX3_signHere 19 (.caload) 1 20 := ⟨by decide +kernel, rfl⟩
theorem eX3_signHere_20 : zJ cX3_signHere 20 (.goto (4)) (4) 24 3 23 := ⟨by decide +kernel, rfl, by decide⟩
theorem eX3_signHere_23 : zD cX3_signHere 23 (.iconst 0) 1 24 := ⟨by decide +kernel, rfl⟩
theorem eX3_signHere_24 : zD cX3_signHere 24 (.ireturn) 1 25 := ⟨by decide +kernel, rfl⟩
theorem eX4_init_0 : zD cX4_init 0 (.aload_n 0) 1 1 := ⟨by decide +kernel, rfl⟩
theorem eX4_init_1 : zD cX4_init 1 (.invokespecial 3) 3 4 := ⟨by decide +kernel, rfl⟩
theorem eX4_init_4 : zD cX4_init 4 (.aload_n 0) 1 5 := ⟨by decide +kernel, rfl⟩
theorem eX4_init_5 : zD cX4_init 5 (.iconst 0) 1 6 := ⟨by decide +kernel, rfl⟩
theorem eX4_init_6 : zD cX4_init 6 (.putfield 9) 3 9 := ⟨by decide +kernel, rfl⟩
theorem eX4_init_9 : zD cX4_init 9 (.aload_n 0) 1 10 := ⟨by decide +kernel, rfl⟩
theorem eX4_init_10 : zD cX4_init 10 (.bipush 30) 2 12 := ⟨by decide +kernel, rfl⟩
theorem eX4_init_12 : zD cX4_init 12 (.newarray .int) 2 14 := ⟨by decide +kernel, rfl⟩
theorem eX4_init_14 : zD cX4_init 14 (.putfield 15) 3 17 := ⟨by decide +kernel, rfl⟩
theorem eX4_init_17 : zD cX4_init 17 (.aload_n 0) 1 18 := ⟨by decide +kernel, rfl⟩
theorem eX4_init_18 : zD cX4_init 18 (.bipush 30) 2 20 := ⟨by decide +kernel, rfl⟩
theorem eX4_init_20 : zD cX4_init 20 (.newarray .int) 2 22 := ⟨by decide +kernel, rfl⟩
theorem eX4_init_22 : zD cX4_init 22 (.putfield 19) 3 25 := ⟨by decide +kernel, rfl⟩
theorem eX4_init_25 : zD cX4_init 25 (.aload_n 0) 1 26 := ⟨by decide +kernel, rfl⟩
theorem eX4_init_26 : zD cX4_init 26 (.bipush 30) 2 28 := ⟨by decide +kernel, rfl⟩
theorem eX4_init_28 : zD cX4_init 28 (.newarray .int) 2 30 := ⟨by decide +kernel, rfl⟩
theorem eX4_init_30 : zD cX4_init 30 (.putfield 22) 3 33 := ⟨by decide +kernel, rfl⟩
theorem eX4_init_33 : zD cX4_init 33 (.aload_n 0) 1 34 := ⟨by decide +kernel, rfl⟩
theorem eX4_init_34 : zD cX4_init 34 (.bipush 30) 2 36 := ⟨by decide +kernel, rfl⟩
theorem eX4_init_36 : zD cX4_init 36 (.newarray .int) 2 38 := ⟨by decide +kernel, rfl⟩
theorem eX4_init_38 : zD cX4_init 38 (.putfield 25) 3 41 := ⟨by decide +kernel, rfl⟩
theorem eX4_init_41 : zD cX4_init 41 (.aload_n 0) 1 42 := ⟨by decide +kernel, rfl⟩
theorem eX4_init_42 : zD cX4_init 42 (.bipush 30) 2 44 := ⟨by decide +kernel, rfl⟩
theorem eX4_init_44 : zD cX4_init 44 (.newarray .int) 2 46 := ⟨by decide +kernel, rfl⟩
theorem eX4_init_46 : zD cX4_init 46 (.putfield 28) 3 49 := ⟨by decide +kernel, rfl⟩
theorem eX4_init_49 : zD cX4_init 49 (.aload_n 0) 1 50 := ⟨by decide +kernel, rfl⟩
theorem eX4_init_50 : zD cX4_init 50 (.bipush 30) 2 52 := ⟨by decide +kernel, rfl⟩
theorem eX4_init_52 : zD cX4_init 52 (.newarray .int) 2 54 := ⟨by decide +kernel, rfl⟩
theorem eX4_init_54 : zD cX4_init 54 (.putfield 31) 3 57 := ⟨by decide +kernel, rfl⟩
theorem eX4_init_57 : zD cX4_init 57 (.aload_n 0) 1 58 := ⟨by decide +kernel, rfl⟩
theorem eX4_init_58 : zD cX4_init 58 (.iconst (-1)) 1 59 := ⟨by decide +kernel, rfl⟩
theorem eX4_init_59 : zD cX4_init 59 (.putfield 34) 3 62 := ⟨by decide +kernel, rfl⟩
theorem eX4_init_62 : zD cX4_init 62 (.aload_n 0) 1 63 := ⟨by decide +kernel, rfl⟩
theorem eX4_init_63 : zD cX4_init 63 (.iconst 0) 1 64 := ⟨by decide +kernel, rfl⟩
theorem eX4_init_64 : zD cX4_init 64 (.putfield 37) 3 67 := ⟨by decide +kernel, rfl⟩
theorem eX4_init_67 : zD cX4_init 67 (.return_) 1 68 := ⟨by decide +kernel, rfl⟩
theorem eX4_copyFrom_0 : zD cX4_copyFrom 0 (.aload_n 0) 1 1 := ⟨by decide +kernel, rfl⟩
theorem eX4_copyFrom_1 : zD cX4_copyFrom 1 (.aload_n 1) 1 2 := ⟨by decide +kernel, rfl⟩
theorem eX4_copyFrom_2 : zD cX4_copyFrom 2 (.getfield 9) 3 5 := ⟨by decide +kernel, rfl⟩
theorem eX4_copyFrom_5 : zD cX4_copyFrom 5 (.putfield 9) 3 8 := ⟨by decide +kernel, rfl⟩
theorem eX4_copyFrom_8 : zD cX4_copyFrom 8 (.aload_n 1) 1 9 := ⟨by decide +kernel, rfl⟩
theorem eX4_copyFrom_9 : zD cX4_copyFrom 9 (.getfield 15) 3 12 := ⟨by decide +kernel, rfl⟩
theorem eX4_copyFrom_12 : zD cX4_copyFrom 12 (.iconst 0) 1 13 := ⟨by decide +kernel, rfl⟩
theorem eX4_copyFrom_13 : zD cX4_copyFrom 13 (.aload_n 0) 1 14 := ⟨by decide +kernel, rfl⟩
theorem eX4_copyFrom_14 : zD cX4_copyFrom 14 (.getfield 15) 3 17 := ⟨by decide +kernel, rfl⟩
theorem eX4_copyFrom_17 : zD cX4_copyFrom 17 (.iconst 0) 1 18 := ⟨by decide +kernel, rfl⟩
theorem eX4_copyFrom_18 : zD cX4_copyFrom 18 (.aload_n 0) 1 19 := ⟨by decide +kernel, rfl⟩
theorem eX4_copyFrom_19 : zD cX4_copyFrom 19 (.getfield 9) 3 22 := ⟨by decide +kernel, rfl⟩
theorem eX4_copyFrom_22 : zD cX4_copyFrom 22 (.invokestatic 40) 3 25 := ⟨by decide +kernel, rfl⟩
theorem eX4_copyFrom_25 : zD cX4_copyFrom 25 (.aload_n 1) 1 26 := ⟨by decide +kernel, rfl⟩
theorem eX4_copyFrom_26 : zD cX4_copyFrom 26 (.getfield 19) 3 29 := ⟨by decide +kernel, rfl⟩
theorem eX4_copyFrom_29 : zD cX4_copyFrom 29 (.iconst 0) 1 30 := ⟨by decide +kernel, rfl⟩
theorem eX4_copyFrom_30 : zD cX4_copyFrom 30 (.aload_n 0) 1 31 := ⟨by decide +kernel, rfl⟩
theorem eX4_copyFrom_31 : zD cX4_copyFrom 31 (.getfield 19) 3 34 := ⟨by decide +kernel, rfl⟩
theorem eX4_copyFrom_34 : zD cX4_copyFrom 34 (.iconst 0) 1 35 := ⟨by decide +kernel, rfl⟩
theorem eX4_copyFrom_35 : zD cX4_copyFrom 35 (.aload_n 0) 1 36 := ⟨by decide +kernel, rfl⟩
theorem eX4_copyFrom_36 : zD cX4_copyFrom 36 (.getfield 9) 3 39 := ⟨by decide +kernel, rfl⟩
theorem eX4_copyFrom_39 : zD cX4_copyFrom 39 (.invokestatic 40) 3 42 := ⟨by decide +kernel, rfl⟩
theorem eX4_copyFrom_42 : zD cX4_copyFrom 42 (.aload_n 1) 1 43 := ⟨by decide +kernel, rfl⟩
theorem eX4_copyFrom_43 : zD cX4_copyFrom 43 (.getfield 22) 3 46 := ⟨by decide +kernel, rfl⟩
theorem eX4_copyFrom_46 : zD cX4_copyFrom 46 (.iconst 0) 1 47 := ⟨by decide +kernel, rfl⟩
theorem eX4_copyFrom_47 : zD cX4_copyFrom 47 (.aload_n 0) 1 48 := ⟨by decide +kernel, rfl⟩
theorem eX4_copyFrom_48 : zD cX4_copyFrom 48 (.getfield 22) 3 51 := ⟨by decide +kernel, rfl⟩
theorem eX4_copyFrom_51 : zD cX4_copyFrom 51 (.iconst 0) 1 52 := ⟨by decide +kernel, rfl⟩
theorem eX4_copyFrom_52 : zD cX4_copyFrom 52 (.aload_n 0) 1 53 := ⟨by decide +kernel, rfl⟩
theorem eX4_copyFrom_53 : zD cX4_copyFrom 53 (.getfield 9) 3 56 := ⟨by decide +kernel, rfl⟩
theorem eX4_copyFrom_56 : zD cX4_copyFrom 56 (.invokestatic 40) 3 59 := ⟨by decide +kernel, rfl⟩
theorem eX4_copyFrom_59 : zD cX4_copyFrom 59 (.aload_n 1) 1 60 := ⟨by decide +kernel, rfl⟩
theorem eX4_copyFrom_60 : zD cX4_copyFrom 60 (.getfield 25) 3 63 := ⟨by decide +kernel, rfl⟩
theorem eX4_copyFrom_63 : zD cX4_copyFrom 63 (.iconst 0) 1 64 := ⟨by decide +kernel, rfl⟩
theorem eX4_copyFrom_64 : zD cX4_copyFrom 64 (.aload_n 0) 1 65 := ⟨by decide +kernel, rfl⟩
theorem eX4_copyFrom_65 : zD cX4_copyFrom 65 (.getfield 25) 3 68 := ⟨by decide +kernel, rfl⟩
theorem eX4_copyFrom_68 : zD cX4_copyFrom 68 (.iconst 0) 1 69 := ⟨by decide +kernel, rfl⟩
theorem eX4_copyFrom_69 : zD cX4_copyFrom 69 (.aload_n 0) 1 70 := ⟨by decide +kernel, rfl⟩
theorem eX4_copyFrom_70 : zD cX4_copyFrom 70 (.getfield 9) 3 73 := ⟨by decide +kernel, rfl⟩
theorem eX4_copyFrom_73 : zD cX4_copyFrom 73 (.invokestatic 40) 3 76 := ⟨by decide +kernel, rfl⟩
theorem eX4_copyFrom_76 : zD cX4_copyFrom 76 (.aload_n 1) 1 77 := ⟨by decide +kernel, rfl⟩
theorem eX4_copyFrom_77 : zD cX4_copyFrom 77 (.getfield 28) 3 80 := ⟨by decide +kernel, rfl⟩
theorem eX4_copyFrom_80 : zD cX4_copyFrom 80 (.iconst 0) 1 81 := ⟨by decide +kernel, rfl⟩
theorem eX4_copyFrom_81 : zD cX4_copyFrom 81 (.aload_n 0) 1 82 := ⟨by decide +kernel, rfl⟩
theorem eX4_copyFrom_82 : zD cX4_copyFrom 82 (.getfield 28) 3 85 := ⟨by decide +kernel, rfl⟩
theorem eX4_copyFrom_85 : zD cX4_copyFrom 85 (.iconst 0) 1 86 := ⟨by decide +kernel, rfl⟩
theorem eX4_copyFrom_86 : zD cX4_copyFrom 86 (.aload_n 0) 1 87 := ⟨by decide +kernel, rfl⟩
theorem eX4_copyFrom_87 : zD cX4_copyFrom 87 (.getfield 9) 3 90 := ⟨by decide +kernel, rfl⟩
theorem eX4_copyFrom_90 : zD cX4_copyFrom 90 (.invokestatic 40) 3 93 := ⟨by decide +kernel, rfl⟩
theorem eX4_copyFrom_93 : zD cX4_copyFrom 93 (.aload_n 1) 1 94 := ⟨by decide +kernel, rfl⟩
theorem eX4_copyFrom_94 : zD cX4_copyFrom 94 (.getfield 31) 3 97 := ⟨by decide +kernel, rfl⟩
theorem eX4_copyFrom_97 : zD cX4_copyFrom 97 (.iconst 0) 1 98 := ⟨by decide +kernel, rfl⟩
theorem eX4_copyFrom_98 : zD cX4_copyFrom 98 (.aload_n 0) 1 99 := ⟨by decide +kernel, rfl⟩
theorem eX4_copyFrom_99 : zD cX4_copyFrom 99 (.getfield 31) 3 102 := ⟨by decide +kernel, rfl⟩
theorem eX4_copyFrom_102 : zD cX4_copyFrom 102 (.iconst 0) 1 103 := ⟨by decide +kernel, rfl⟩
theorem eX4_copyFrom_103 : zD cX4_copyFrom 103 (.aload_n 0) 1 104 := ⟨by decide +kernel, rfl⟩
theorem eX4_copyFrom_104 : zD cX4_copyFrom 104 (.getfield 9) 3 107 := ⟨by decide +kernel, rfl⟩
theorem eX4_copyFrom_107 : zD cX4_copyFrom 107 (.invokestatic 40) 3 110 := ⟨by decide +kernel, rfl⟩
theorem eX4_copyFrom_110 : zD cX4_copyFrom 110 (.aload_n 0) 1 111 := ⟨by decide +kernel, rfl⟩
theorem eX4_copyFrom_111 : zD cX4_copyFrom 111 (.iconst (-1)) 1 112 := ⟨by decide +kernel, rfl⟩
theorem eX4_copyFrom_112 : zD cX4_copyFrom 112 (.invokevirtual 46) 3 115 := ⟨by decide +kernel, rfl⟩
theorem eX4_copyFrom_115 : zD cX4_copyFrom 115 (.return_) 1 116 := ⟨by decide +kernel, rfl⟩
theorem eX4_watch_0 : zD cX4_watch 0 (.aload_n 0) 1 1 := ⟨by decide +kernel, rfl⟩
theorem eX4_watch_1 : zD cX4_watch 1 (.iload_n 1) 1 2 := ⟨by decide +kernel, rfl⟩
theorem eX4_watch_2 : zD cX4_watch 2 (.putfield 34) 3 5 := ⟨by decide +kernel, rfl⟩
theorem eX4_watch_5 : zD cX4_watch 5 (.aload_n 0) 1 6 := ⟨by decide +kernel, rfl⟩
theorem eX4_watch_6 : zD cX4_watch 6 (.iconst 0) 1 7 := ⟨by decide +kernel, rfl⟩
theorem eX4_watch_7 : zD cX4_watch 7 (.putfield 37) 3 10 := ⟨by decide +kernel, rfl⟩
theorem eX4_watch_10 : zD cX4_watch 10 (.return_) 1 11 := ⟨by decide +kernel, rfl⟩
theorem eX4_has_0 : zD cX4_has 0 (.iload_n 1) 1 1 := ⟨by decide +kernel, rfl⟩
theorem eX4_has_1 : zJ cX4_has 1 (.ifCond .lt (15)) (15) 16 3 4 := ⟨by decide +kernel, rfl, by decide⟩
theorem eX4_has_4 : zD cX4_has 4 (.iload_n 1) 1 5 := ⟨by decide +kernel, rfl⟩
theorem eX4_has_5 : zD cX4_has 5 (.aload_n 0) 1 6 := ⟨by decide +kernel, rfl⟩
theorem eX4_has_6 : zD cX4_has 6 (.getfield 9) 3 9 := ⟨by decide +kernel, rfl⟩
theorem eX4_has_9 : zJ cX4_has 9 (.if_icmp .ge (7)) (7) 16 3 12 := ⟨by decide +kernel, rfl, by decide⟩
theorem eX4_has_12 : zD cX4_has 12 (.iconst 1) 1 13 := ⟨by decide +kernel, rfl⟩
theorem eX4_has_13 : zJ cX4_has 13 (.goto (4)) (4) 17 3 16 := ⟨by decide +kernel, rfl, by decide⟩
theorem eX4_has_16 : zD cX4_has 16 (.iconst 0) 1 17 := ⟨by decide +kernel, rfl⟩
theorem eX4_has_17 : zD cX4_has 17 (.ireturn) 1 18 := ⟨by decide +kernel, rfl⟩
theorem eX4_add_0 : zD cX4_add 0 (.aload_n 0) 1 1 := ⟨by decide +kernel, rfl⟩
theorem eX4_add_1 : zD cX4_add 1 (.getfield 9) 3 4 := ⟨by decide +kernel, rfl⟩
theorem eX4_add_4 : zD cX4_add 4 (.istore 5) 2 6 := ⟨by decide +kernel, rfl⟩
theorem eX4_add_6 : zD cX4_add 6 (.aload_n 0) 1 7 := ⟨by decide +kernel, rfl⟩
theorem eX4_add_7 : zD cX4_add 7 (.getfield 15) 3 10 := ⟨by decide +kernel, rfl⟩
theorem eX4_add_10 : zD cX4_add 10 (.iload 5) 2 12 := ⟨by decide +kernel, rfl⟩
theorem eX4_add_12 : zD cX4_add 12 (.iload_n 1) 1 13 := ⟨by decide +kernel, rfl⟩
theorem eX4_add_13 : zD cX4_add 13 (.iastore) 1 14 := ⟨by decide +kernel, rfl⟩
theorem eX4_add_14 : zD cX4_add 14 (.aload_n 0) 1 15 := ⟨by decide +kernel, rfl⟩
theorem eX4_add_15 : zD cX4_add 15 (.getfield 19) 3 18 := ⟨by decide +kernel, rfl⟩
theorem eX4_add_18 : zD cX4_add 18 (.iload 5) 2 20 := ⟨by decide +kernel, rfl⟩
theorem eX4_add_20 : zD cX4_add 20 (.iload_n 2) 1 21 := ⟨by decide +kernel, rfl⟩
theorem eX4_add_21 : zD cX4_add 21 (.iastore) 1 22 := ⟨by decide +kernel, rfl⟩
theorem eX4_add_22 : zD cX4_add 22 (.aload_n 0) 1 23 := ⟨by decide +kernel, rfl⟩
theorem eX4_add_23 : zD cX4_add 23 (.getfield 22) 3 26 := ⟨by decide +kernel, rfl⟩
theorem eX4_add_26 : zD cX4_add 26 (.iload 5) 2 28 := ⟨by decide +kernel, rfl⟩
theorem eX4_add_28 : zD cX4_add 28 (.iload_n 3) 1 29 := ⟨by decide +kernel, rfl⟩
theorem eX4_add_29 : zD cX4_add 29 (.iastore) 1 30 := ⟨by decide +kernel, rfl⟩
theorem eX4_add_30 : zD cX4_add 30 (.aload_n 0) 1 31 := ⟨by decide +kernel, rfl⟩
theorem eX4_add_31 : zD cX4_add 31 (.getfield 25) 3 34 := ⟨by decide +kernel, rfl⟩
theorem eX4_add_34 : zD cX4_add 34 (.iload 5) 2 36 := ⟨by decide +kernel, rfl⟩
theorem eX4_add_36 : zD cX4_add 36 (.iload 4) 2 38 := ⟨by decide +kernel, rfl⟩
theorem eX4_add_38 : zD cX4_add 38 (.iastore) 1 39 := ⟨by decide +kernel, rfl⟩
theorem eX4_add_39 : zD cX4_add 39 (.aload_n 0) 1 40 := ⟨by decide +kernel, rfl⟩
theorem eX4_add_40 : zD cX4_add 40 (.getfield 28) 3 43 := ⟨by decide +kernel, rfl⟩
theorem eX4_add_43 : zD cX4_add 43 (.iload 5) 2 45 := ⟨by decide +kernel, rfl⟩
theorem eX4_add_45 : zD cX4_add 45 (.iconst 0) 1 46 := ⟨by decide +kernel, rfl⟩
theorem eX4_add_46 : zD cX4_add 46 (.iastore) 1 47 := ⟨by decide +kernel, rfl⟩
theorem eX4_add_47 : zD cX4_add 47 (.aload_n 0) 1 48 := ⟨by decide +kernel, rfl⟩
theorem eX4_add_48 : zD cX4_add 48 (.dup) 1 49 := ⟨by decide +kernel, rfl⟩
theorem eX4_add_49 : zD cX4_add 49 (.getfield 9) 3 52 := ⟨by decide +kernel, rfl⟩
theorem eX4_add_52 : zD cX4_add 52 (.iconst 1) 1 53 := ⟨by decide +kernel, rfl⟩
theorem eX4_add_53 : zD cX4_add 53 (.iadd) 1 54 := ⟨by decide +kernel, rfl⟩
theorem eX4_add_54 : zD cX4_add 54 (.putfield 9) 3 57 := ⟨by decide +kernel, rfl⟩
theorem eX4_add_57 : zD cX4_add 57 (.aload_n 0) 1 58 := ⟨by decide +kernel, rfl⟩
theorem eX4_add_58 : zD cX4_add 58 (.invokevirtual 50) 3 61 := ⟨by decide +kernel, rfl⟩
theorem eX4_add_61 : zD cX4_add 61 (.iload 5) 2 63 := ⟨by decide +kernel, rfl⟩
theorem eX4_add_63 : zD cX4_add 63 (.ireturn) 1 64 := ⟨by decide +kernel, rfl⟩
theorem eX4_countWith_0 : zD cX4_countWith 0 (.iconst 0) 1 1 := ⟨by decide +kernel, rfl⟩
theorem eX4_countWith_1 : zD cX4_countWith 1 (.istore_n 2) 1 2 := ⟨by decide +kernel, rfl⟩
theorem eX4_countWith_2 : zD cX4_countWith 2 (.iconst 0) 1 3 := ⟨by decide +kernel, rfl⟩
theorem eX4_countWith_3 : zD cX4_countWith 3 (.istore_n 3) 1 4 := ⟨by decide +kernel, rfl⟩
theorem eX4_countWith_4 : zD cX4_countWith 4 (.iload_n 3) 1 5 := ⟨by decide +kernel, rfl⟩
theorem eX4_countWith_5 : zD cX4_countWith 5 (.aload_n 0) 1 6 := ⟨by decide +kernel, rfl⟩
theorem eX4_countWith_6 : zD cX4_countWith 6 (.getfield 9) 3 9 := ⟨by decide +kernel, rfl⟩
theorem eX4_countWith_9 : zJ cX4_countWith 9 (.if_icmp .ge (22)) (22) 31 3 12 := ⟨by decide +kernel, rfl, by decide⟩
theorem eX4_countWith_12 : zD cX4_countWith 12 (.aload_n 0) 1 13 := ⟨by decide +kernel, rfl⟩
theorem eX4_countWith_13 : zD cX4_countWith 13 (.getfield 15) 3 16 := ⟨by decide +kernel, rfl⟩
theorem eX4_countWith_16 : zD cX4_countWith 16 (.iload_n 3) 1 17 := ⟨by decide +kernel, rfl⟩
theorem eX4_countWith_17 : zD cX4_countWith 17 (.iaload) 1 18 := ⟨by decide +kernel, rfl⟩
theorem eX4_countWith_18 : zD cX4_countWith 18 (.iload_n 1) 1 19 := ⟨by decide +kernel, rfl⟩
theorem eX4_countWith_19 : zJ cX4_countWith 19 (.if_icmp .ne (6)) (6) 25 3 22 := ⟨by decide +kernel, rfl, by decide⟩
theorem eX4_countWith_22 : zD cX4_countWith 22 (.iinc 2 1) 3 25 := ⟨by decide +kernel, rfl⟩
theorem eX4_countWith_25 : zD cX4_countWith 25 (.iinc 3 1) 3 28 := ⟨by decide +kernel, rfl⟩
theorem eX4_countWith_28 : zJ cX4_countWith 28 (.goto (-24)) (-24) 4 3 31 := ⟨by decide +kernel, rfl, by decide⟩
theorem eX4_countWith_31 : zD cX4_countWith 31 (.iload_n 2) 1 32 := ⟨by decide +kernel, rfl⟩
theorem eX4_countWith_32 : zD cX4_countWith 32 (.ireturn) 1 33 := ⟨by decide +kernel, rfl⟩
theorem eX4_removeEnded_0 : zD cX4_removeEnded 0 (.iconst 0) 1 1 := ⟨by decide +kernel, rfl⟩
theorem eX4_removeEnded_1 : zD cX4_removeEnded 1 (.istore_n 1) 1 2 := ⟨by decide +kernel, rfl⟩
theorem eX4_removeEnded_2 : zD cX4_removeEnded 2 (.aload_n 0) 1 3 := ⟨by decide +kernel, rfl⟩
theorem eX4_removeEnded_3 : zD cX4_removeEnded 3 (.getfield 34) 3 6 := ⟨by decide +kernel, rfl⟩
theorem eX4_removeEnded_6 : zD cX4_removeEnded 6 (.istore_n 2) 1 7 := ⟨by decide +kernel, rfl⟩
theorem eX4_removeEnded_7 : zD cX4_removeEnded 7 (.iconst 0) 1 8 := ⟨by decide +kernel, rfl⟩
theorem eX4_removeEnded_8 : zD cX4_removeEnded 8 (.istore_n 3) 1 9 := ⟨by decide +kernel, rfl⟩
theorem eX4_removeEnded_9 : zD cX4_removeEnded 9 (.iload_n 3) 1 10 := ⟨by decide +kernel, rfl⟩
theorem eX4_removeEnded_10 : zD cX4_removeEnded 10 (.aload_n 0) 1 11 := ⟨by decide +kernel, rfl⟩
theorem eX4_removeEnded_11 : zD cX4_removeEnded 11 (.getfield 9) 3 14 := ⟨by decide +kernel, rfl⟩
theorem eX4_removeEnded_14 : zJ cX4_removeEnded 14 (.if_icmp .ge (60)) (60) 74 3 17 := ⟨by decide +kernel, rfl, by decide⟩
theorem eX4_removeEnded_17 : zD cX4_removeEnded 17 (.iload_n 3) 1 18 := ⟨by decide +kernel, rfl⟩
theorem eX4_removeEnded_18 : zD cX4_removeEnded 18 (.iload_n 2) 1 19 := ⟨by decide +kernel, rfl⟩
theorem eX4_removeEnded_19 : zJ cX4_removeEnded 19 (.if_icmp .ne (31)) (31) 50 3 22 := ⟨by decide +kernel, rfl, by decide⟩
theorem eX4_removeEnded_22 : zD cX4_removeEnded 22 (.aload_n 0) 1 23 := ⟨by decide +kernel, rfl⟩
theorem eX4_removeEnded_23 : zD cX4_removeEnded 23 (.aload_n 0) 1 24 := ⟨by decide +kernel, rfl⟩
theorem eX4_removeEnded_24 : zD cX4_removeEnded 24 (.getfield 28) 3 27 := ⟨by decide +kernel, rfl⟩
theorem eX4_removeEnded_27 : zD cX4_removeEnded 27 (.iload_n 3) 1 28 := ⟨by decide +kernel, rfl⟩
theorem eX4_removeEnded_28 : zD cX4_removeEnded 28 (.iaload) 1 29 := ⟨by decide +kernel, rfl⟩
theorem eX4_removeEnded_29 : zD cX4_removeEnded 29 (.putfield 37) 3 32 := ⟨by decide +kernel, rfl⟩
theorem eX4_removeEnded_32 : zD cX4_removeEnded 32 (.aload_n 0) 1 33 := ⟨by decide +kernel, rfl⟩
theorem eX4_removeEnded_33 : zD cX4_removeEnded 33 (.aload_n 0) 1 34 := ⟨by decide +kernel, rfl⟩
theorem eX4_removeEnded_34 : zD cX4_removeEnded 34 (.getfield 28) 3 37 := ⟨by decide +kernel, rfl⟩
theorem eX4_removeEnded_37 : zD cX4_removeEnded 37 (.iload_n 3) 1 38 := ⟨by decide +kernel, rfl⟩
theorem eX4_removeEnded_38 : zD cX4_removeEnded 38 (.iaload) 1 39 := ⟨by decide +kernel, rfl⟩
theorem eX4_removeEnded_39 : zJ cX4_removeEnded 39 (.ifCond .ne (7)) (7) 46 3 42 := ⟨by decide +kernel, rfl, by decide⟩
theorem eX4_removeEnded_42 : zD cX4_removeEnded 42 (.iload_n 1) 1 43 := ⟨by decide +kernel, rfl⟩
theorem eX4_removeEnded_43 : zJ cX4_removeEnded 43 (.goto (4)) (4) 47 3 46 := ⟨by decide +kernel, rfl, by decide⟩
theorem eX4_removeEnded_46 : zD cX4_removeEnded 46 (.iconst (-1)) 1 47 := ⟨by decide +kernel, rfl⟩
theorem eX4_removeEnded_47 : zD cX4_removeEnded 47 (.putfield 34) 3 50 := ⟨by decide +kernel, rfl⟩
theorem eX4_removeEnded_50 : zD cX4_removeEnded 50 (.aload_n 0) 1 51 := ⟨by decide +kernel, rfl⟩
theorem eX4_removeEnded_51 : zD cX4_removeEnded 51 (.getfield 28) 3 54 := ⟨by decide +kernel, rfl⟩
theorem eX4_removeEnded_54 : zD cX4_removeEnded 54 (.iload_n 3) 1 55 := ⟨by decide +kernel, rfl⟩
theorem eX4_removeEnded_55 : zD cX4_removeEnded 55 (.iaload) 1 56 := ⟨by decide +kernel, rfl⟩
theorem eX4_removeEnded_56 : zJ cX4_removeEnded 56 (.ifCond .ne (12)) (12) 68 3 59 := ⟨by decide +kernel, rfl, by decide⟩
theorem eX4_removeEnded_59 : zD cX4_removeEnded 59 (.aload_n 0) 1 60 := ⟨by decide +kernel, rfl⟩
theorem eX4_removeEnded_60 : zD cX4_removeEnded 60 (.iload_n 3) 1 61 := ⟨by decide +kernel, rfl⟩
theorem eX4_removeEnded_61 : zD cX4_removeEnded 61 (.iload_n 1) 1 62 := ⟨by decide +kernel, rfl⟩
theorem eX4_removeEnded_62 : zD cX4_removeEnded 62 (.invokevirtual 53) 3 65 := ⟨by decide +kernel, rfl⟩
theorem eX4_removeEnded_65 : zD cX4_removeEnded 65 (.iinc 1 1) 3 68 := ⟨by decide +kernel, rfl⟩
theorem eX4_removeEnded_68 : zD cX4_removeEnded 68 (.iinc 3 1) 3 71 := ⟨by decide +kernel, rfl⟩
theorem eX4_removeEnded_71 : zJ cX4_removeEnded 71 (.goto (-62)) (-62) 9 3 74 := ⟨by decide +kernel, rfl, by decide⟩
theorem eX4_removeEnded_74 : zD cX4_removeEnded 74 (.aload_n 0) 1 75 := ⟨by decide +kernel, rfl⟩
theorem eX4_removeEnded_75 : zD cX4_removeEnded 75 (.iload_n 1) 1 76 := ⟨by decide +kernel, rfl⟩
theorem eX4_removeEnded_76 : zD cX4_removeEnded 76 (.putfield 9) 3 79 := ⟨by decide +kernel, rfl⟩
theorem eX4_removeEnded_79 : zD cX4_removeEnded 79 (.aload_n 0) 1 80 := ⟨by decide +kernel, rfl⟩
theorem eX4_removeEnded_80 : zD cX4_removeEnded 80 (.invokevirtual 50) 3 83 := ⟨by decide +kernel, rfl⟩
theorem eX4_removeEnded_83 : zD cX4_removeEnded 83 (.return_) 1 84 := ⟨by decide +kernel, rfl⟩
theorem eX4_move_0 : zD cX4_move 0 (.aload_n 0) 1 1 := ⟨by decide +kernel, rfl⟩
theorem eX4_move_1 : zD cX4_move 1 (.getfield 15) 3 4 := ⟨by decide +kernel, rfl⟩
theorem eX4_move_4 : zD cX4_move 4 (.iload_n 2) 1 5 := ⟨by decide +kernel, rfl⟩
theorem eX4_move_5 : zD cX4_move 5 (.aload_n 0) 1 6 := ⟨by decide +kernel, rfl⟩
theorem eX4_move_6 : zD cX4_move 6 (.getfield 15) 3 9 := ⟨by decide +kernel, rfl⟩
theorem eX4_move_9 : zD cX4_move 9 (.iload_n 1) 1 10 := ⟨by decide +kernel, rfl⟩
theorem eX4_move_10 : zD cX4_move 10 (.iaload) 1 11 := ⟨by decide +kernel, rfl⟩
theorem eX4_move_11 : zD cX4_move 11 (.iastore) 1 12 := ⟨by decide +kernel, rfl⟩
theorem eX4_move_12 : zD cX4_move 12 (.aload_n 0) 1 13 := ⟨by decide +kernel, rfl⟩
theorem eX4_move_13 : zD cX4_move 13 (.getfield 19) 3 16 := ⟨by decide +kernel, rfl⟩
theorem eX4_move_16 : zD cX4_move 16 (.iload_n 2) 1 17 := ⟨by decide +kernel, rfl⟩
theorem eX4_move_17 : zD cX4_move 17 (.aload_n 0) 1 18 := ⟨by decide +kernel, rfl⟩
theorem eX4_move_18 : zD cX4_move 18 (.getfield 19) 3 21 := ⟨by decide +kernel, rfl⟩
theorem eX4_move_21 : zD cX4_move 21 (.iload_n 1) 1 22 := ⟨by decide +kernel, rfl⟩
theorem eX4_move_22 : zD cX4_move 22 (.iaload) 1 23 := ⟨by decide +kernel, rfl⟩
theorem eX4_move_23 : zD cX4_move 23 (.iastore) 1 24 := ⟨by decide +kernel, rfl⟩
theorem eX4_move_24 : zD cX4_move 24 (.aload_n 0) 1 25 := ⟨by decide +kernel, rfl⟩
theorem eX4_move_25 : zD cX4_move 25 (.getfield 22) 3 28 := ⟨by decide +kernel, rfl⟩
theorem eX4_move_28 : zD cX4_move 28 (.iload_n 2) 1 29 := ⟨by decide +kernel, rfl⟩
theorem eX4_move_29 : zD cX4_move 29 (.aload_n 0) 1 30 := ⟨by decide +kernel, rfl⟩
theorem eX4_move_30 : zD cX4_move 30 (.getfield 22) 3 33 := ⟨by decide +kernel, rfl⟩
theorem eX4_move_33 : zD cX4_move 33 (.iload_n 1) 1 34 := ⟨by decide +kernel, rfl⟩
theorem eX4_move_34 : zD cX4_move 34 (.iaload) 1 35 := ⟨by decide +kernel, rfl⟩
theorem eX4_move_35 : zD cX4_move 35 (.iastore) 1 36 := ⟨by decide +kernel, rfl⟩
theorem eX4_move_36 : zD cX4_move 36 (.aload_n 0) 1 37 := ⟨by decide +kernel, rfl⟩
theorem eX4_move_37 : zD cX4_move 37 (.getfield 25) 3 40 := ⟨by decide +kernel, rfl⟩
theorem eX4_move_40 : zD cX4_move 40 (.iload_n 2) 1 41 := ⟨by decide +kernel, rfl⟩
theorem eX4_move_41 : zD cX4_move 41 (.aload_n 0) 1 42 := ⟨by decide +kernel, rfl⟩
theorem eX4_move_42 : zD cX4_move 42 (.getfield 25) 3 45 := ⟨by decide +kernel, rfl⟩
theorem eX4_move_45 : zD cX4_move 45 (.iload_n 1) 1 46 := ⟨by decide +kernel, rfl⟩
theorem eX4_move_46 : zD cX4_move 46 (.iaload) 1 47 := ⟨by decide +kernel, rfl⟩
theorem eX4_move_47 : zD cX4_move 47 (.iastore) 1 48 := ⟨by decide +kernel, rfl⟩
theorem eX4_move_48 : zD cX4_move 48 (.aload_n 0) 1 49 := ⟨by decide +kernel, rfl⟩
theorem eX4_move_49 : zD cX4_move 49 (.getfield 28) 3 52 := ⟨by decide +kernel, rfl⟩
theorem eX4_move_52 : zD cX4_move 52 (.iload_n 2) 1 53 := ⟨by decide +kernel, rfl⟩
theorem eX4_move_53 : zD cX4_move 53 (.aload_n 0) 1 54 := ⟨by decide +kernel, rfl⟩
theorem eX4_move_54 : zD cX4_move 54 (.getfield 28) 3 57 := ⟨by decide +kernel, rfl⟩
theorem eX4_move_57 : zD cX4_move 57 (.iload_n 1) 1 58 := ⟨by decide +kernel, rfl⟩
theorem eX4_move_58 : zD cX4_move 58 (.iaload) 1 59 := ⟨by decide +kernel, rfl⟩
theorem eX4_move_59 : zD cX4_move 59 (.iastore) 1 60 := ⟨by decide +kernel, rfl⟩
theorem eX4_move_60 : zD cX4_move 60 (.return_) 1 61 := ⟨by decide +kernel, rfl⟩
theorem eX4_arrange_0 : zD cX4_arrange 0 (.iconst 0) 1 1 := ⟨by decide +kernel, rfl⟩
theorem eX4_arrange_1 : zD cX4_arrange 1 (.istore_n 1) 1 2 := ⟨by decide +kernel, rfl⟩
theorem eX4_arrange_2 : zD cX4_arrange 2 (.iload_n 1) 1 3 := ⟨by decide +kernel, rfl⟩
theorem eX4_arrange_3 : zD cX4_arrange 3 (.aload_n 0) 1 4 := ⟨by decide +kernel, rfl⟩
theorem eX4_arrange_4 : zD cX4_arrange 4 (.getfield 9) 3 7 := ⟨by decide +kernel, rfl⟩
theorem eX4_arrange_7 : zJ cX4_arrange 7 (.if_icmp .ge (58)) (58) 65 3 10 := ⟨by decide +kernel, rfl, by decide⟩
theorem eX4_arrange_10 : zD cX4_arrange 10 (.iload_n 1) 1 11 := ⟨by decide +kernel, rfl⟩
theorem eX4_arrange_11 : zD cX4_arrange 11 (.istore_n 2) 1 12 := ⟨by decide +kernel, rfl⟩
theorem eX4_arrange_12 : zD cX4_arrange 12 (.iload_n 2) 1 13 := ⟨by decide +kernel, rfl⟩
theorem eX4_arrange_13 : zJ cX4_arrange 13 (.ifCond .le (39)) (39) 52 3 16 := ⟨by decide +kernel, rfl, by decide⟩
theorem eX4_arrange_16 : zD cX4_arrange 16 (.aload_n 0) 1 17 := ⟨by decide +kernel, rfl⟩
theorem eX4_arrange_17 : zD cX4_arrange 17 (.iload_n 1) 1 18 := ⟨by decide +kernel, rfl⟩
theorem eX4_arrange_18 : zD cX4_arrange 18 (.aload_n 0) 1 19 := ⟨by decide +kernel, rfl⟩
theorem eX4_arrange_19 : zD cX4_arrange 19 (.getfield 31) 3 22 := ⟨by decide +kernel, rfl⟩
theorem eX4_arrange_22 : zD cX4_arrange 22 (.iload_n 2) 1 23 := ⟨by decide +kernel, rfl⟩
theorem eX4_arrange_23 : zD cX4_arrange 23 (.iconst 1) 1 24 := ⟨by decide +kernel, rfl⟩
theorem eX4_arrange_24 : zD cX4_arrange 24 (.isub) 1 25 := ⟨by decide +kernel, rfl⟩
theorem eX4_arrange_25 : zD cX4_arrange 25 (.iaload) 1 26 := ⟨by decide +kernel, rfl⟩
theorem eX4_arrange_26 : zD cX4_arrange 26 (.invokevirtual 57) 3 29 := ⟨by decide +kernel, rfl⟩
theorem eX4_arrange_29 : zJ cX4_arrange 29 (.ifCond .eq (23)) (23) 52 3 32 := ⟨by decide +kernel, rfl, by decide⟩
theorem eX4_arrange_32 : zD cX4_arrange 32 (.aload_n 0) 1 33 := ⟨by decide +kernel, rfl⟩
theorem eX4_arrange_33 : zD cX4_arrange 33 (.getfield 31) 3 36 := ⟨by decide +kernel, rfl⟩
theorem eX4_arrange_36 : zD cX4_arrange 36 (.iload_n 2) 1 37 := ⟨by decide +kernel, rfl⟩
theorem eX4_arrange_37 : zD cX4_arrange 37 (.aload_n 0) 1 38 := ⟨by decide +kernel, rfl⟩
theorem eX4_arrange_38 : zD cX4_arrange 38 (.getfield 31) 3 41 := ⟨by decide +kernel, rfl⟩
theorem eX4_arrange_41 : zD cX4_arrange 41 (.iload_n 2) 1 42 := ⟨by decide +kernel, rfl⟩
theorem eX4_arrange_42 : zD cX4_arrange 42 (.iconst 1) 1 43 := ⟨by decide +kernel, rfl⟩
theorem eX4_arrange_43 : zD cX4_arrange 43 (.isub) 1 44 := ⟨by decide +kernel, rfl⟩
theorem eX4_arrange_44 : zD cX4_arrange 44 (.iaload) 1 45 := ⟨by decide +kernel, rfl⟩
theorem eX4_arrange_45 : zD cX4_arrange 45 (.iastore) 1 46 := ⟨by decide +kernel, rfl⟩
theorem eX4_arrange_46 : zD cX4_arrange 46 (.iinc 2 (-1)) 3 49 := ⟨by decide +kernel, rfl⟩
theorem eX4_arrange_49 : zJ cX4_arrange 49 (.goto (-37)) (-37) 12 3 52 := ⟨by decide +kernel, rfl, by decide⟩
theorem eX4_arrange_52 : zD cX4_arrange 52 (.aload_n 0) 1 53 := ⟨by decide +kernel, rfl⟩
theorem eX4_arrange_53 : zD cX4_arrange 53 (.getfield 31) 3 56 := ⟨by decide +kernel, rfl⟩
theorem eX4_arrange_56 : zD cX4_arrange 56 (.iload_n 2) 1 57 := ⟨by decide +kernel, rfl⟩
theorem eX4_arrange_57 : zD cX4_arrange 57 (.iload_n 1) 1 58 := ⟨by decide +kernel, rfl⟩
theorem eX4_arrange_58 : zD cX4_arrange 58 (.iastore) 1 59 := ⟨by decide +kernel, rfl⟩
theorem eX4_arrange_59 : zD cX4_arrange 59 (.iinc 1 1) 3 62 := ⟨by decide +kernel, rfl⟩
theorem eX4_arrange_62 : zJ cX4_arrange 62 (.goto (-60)) (-60) 2 3 65 := ⟨by decide +kernel, rfl, by decide⟩
theorem eX4_arrange_65 : zD cX4_arrange 65 (.return_) 1 66 := ⟨by decide +kernel, rfl⟩
theorem eX4_isBefore_0 : zD cX4_isBefore 0 (.aload_n 0) 1 1 := ⟨by decide +kernel, rfl⟩
theorem eX4_isBefore_1 : zD cX4_isBefore 1 (.getfield 25) 3 4 := ⟨by decide +kernel, rfl⟩
theorem eX4_isBefore_4 : zD cX4_isBefore 4 (.iload_n 1) 1 5 := ⟨by decide +kernel, rfl⟩
theorem eX4_isBefore_5 : zD cX4_isBefore 5 (.iaload) 1 6 := ⟨by decide +kernel, rfl⟩
theorem eX4_isBefore_6 : zD cX4_isBefore 6 (.aload_n 0) 1 7 := ⟨by decide +kernel, rfl⟩
theorem eX4_isBefore_7 : zD cX4_isBefore 7 (.getfield 25) 3 10 := ⟨by decide +kernel, rfl⟩
theorem eX4_isBefore_10 : zD cX4_isBefore 10 (.iload_n 2) 1 11 := ⟨by decide +kernel, rfl⟩
theorem eX4_isBefore_11 : zD cX4_isBefore 11 (.iaload) 1 12 := ⟨by decide +kernel, rfl⟩
theorem eX4_isBefore_12 : zJ cX4_isBefore 12 (.if_icmp .eq (24)) (24) 36 3 15 := ⟨by decide +kernel, rfl, by decide⟩
theorem eX4_isBefore_15 : zD cX4_isBefore 15 (.aload_n 0) 1 16 := ⟨by decide +kernel, rfl⟩
theorem eX4_isBefore_16 : zD cX4_isBefore 16 (.getfield 25) 3 19 := ⟨by decide +kernel, rfl⟩
theorem eX4_isBefore_19 : zD cX4_isBefore 19 (.iload_n 1) 1 20 := ⟨by decide +kernel, rfl⟩
theorem eX4_isBefore_20 : zD cX4_isBefore 20 (.iaload) 1 21 := ⟨by decide +kernel, rfl⟩
theorem eX4_isBefore_21 : zD cX4_isBefore 21 (.aload_n 0) 1 22 := ⟨by decide +kernel, rfl⟩
theorem eX4_isBefore_22 : zD cX4_isBefore 22 (.getfield 25) 3 25 := ⟨by decide +kernel, rfl⟩
theorem eX4_isBefore_25 : zD cX4_isBefore 25 (.iload_n 2) 1 26 := ⟨by decide +kernel, rfl⟩
theorem eX4_isBefore_26 : zD cX4_isBefore 26 (.iaload) 1 27 := ⟨by decide +kernel, rfl⟩
theorem eX4_isBefore_27 : zJ cX4_isBefore 27 (.if_icmp .le (7)) (7) 34 3 30 := ⟨by decide +kernel, rfl, by decide⟩
theorem eX4_isBefore_30 : zD cX4_isBefore 30 (.iconst 1) 1 31 := ⟨by decide +kernel, rfl⟩
theorem eX4_isBefore_31 : zJ cX4_isBefore 31 (.goto (4)) (4) 35 3 34 := ⟨by decide +kernel, rfl, by decide⟩
theorem eX4_isBefore_34 : zD cX4_isBefore 34 (.iconst 0) 1 35 := ⟨by decide +kernel, rfl⟩
theorem eX4_isBefore_35 : zD cX4_isBefore 35 (.ireturn) 1 36 := ⟨by decide +kernel, rfl⟩
theorem eX4_isBefore_36 : zD cX4_isBefore 36 (.aload_n 0) 1 37 := ⟨by decide +kernel, rfl⟩
theorem eX4_isBefore_37 : zD cX4_isBefore 37 (.getfield 19) 3 40 := ⟨by decide +kernel, rfl⟩
theorem eX4_isBefore_40 : zD cX4_isBefore 40 (.iload_n 1) 1 41 := ⟨by decide +kernel, rfl⟩
theorem eX4_isBefore_41 : zD cX4_isBefore 41 (.iaload) 1 42 := ⟨by decide +kernel, rfl⟩
theorem eX4_isBefore_42 : zD cX4_isBefore 42 (.aload_n 0) 1 43 := ⟨by decide +kernel, rfl⟩
theorem eX4_isBefore_43 : zD cX4_isBefore 43 (.getfield 19) 3 46 := ⟨by decide +kernel, rfl⟩
theorem eX4_isBefore_46 : zD cX4_isBefore 46 (.iload_n 2) 1 47 := ⟨by decide +kernel, rfl⟩
theorem eX4_isBefore_47 : zD cX4_isBefore 47 (.iaload) 1 48 := ⟨by decide +kernel, rfl⟩
theorem eX4_isBefore_48 : zJ cX4_isBefore 48 (.if_icmp .eq (24)) (24) 72 3 51 := ⟨by decide +kernel, rfl, by decide⟩
theorem eX4_isBefore_51 : zD cX4_isBefore 51 (.aload_n 0) 1 52 := ⟨by decide +kernel, rfl⟩
theorem eX4_isBefore_52 : zD cX4_isBefore 52 (.getfield 19) 3 55 := ⟨by decide +kernel, rfl⟩
theorem eX4_isBefore_55 : zD cX4_isBefore 55 (.iload_n 1) 1 56 := ⟨by decide +kernel, rfl⟩
theorem eX4_isBefore_56 : zD cX4_isBefore 56 (.iaload) 1 57 := ⟨by decide +kernel, rfl⟩
theorem eX4_isBefore_57 : zD cX4_isBefore 57 (.aload_n 0) 1 58 := ⟨by decide +kernel, rfl⟩
theorem eX4_isBefore_58 : zD cX4_isBefore 58 (.getfield 19) 3 61 := ⟨by decide +kernel, rfl⟩
theorem eX4_isBefore_61 : zD cX4_isBefore 61 (.iload_n 2) 1 62 := ⟨by decide +kernel, rfl⟩
theorem eX4_isBefore_62 : zD cX4_isBefore 62 (.iaload) 1 63 := ⟨by decide +kernel, rfl⟩
theorem eX4_isBefore_63 : zJ cX4_isBefore 63 (.if_icmp .ge (7)) (7) 70 3 66 := ⟨by decide +kernel, rfl, by decide⟩
theorem eX4_isBefore_66 : zD cX4_isBefore 66 (.iconst 1) 1 67 := ⟨by decide +kernel, rfl⟩
theorem eX4_isBefore_67 : zJ cX4_isBefore 67 (.goto (4)) (4) 71 3 70 := ⟨by decide +kernel, rfl, by decide⟩
theorem eX4_isBefore_70 : zD cX4_isBefore 70 (.iconst 0) 1 71 := ⟨by decide +kernel, rfl⟩
theorem eX4_isBefore_71 : zD cX4_isBefore 71 (.ireturn) 1 72 := ⟨by decide +kernel, rfl⟩
theorem eX4_isBefore_72 : zD cX4_isBefore 72 (.iload_n 1) 1 73 := ⟨by decide +kernel, rfl⟩
theorem eX4_isBefore_73 : zD cX4_isBefore 73 (.iload_n 2) 1 74 := ⟨by decide +kernel, rfl⟩
theorem eX4_isBefore_74 : zJ cX4_isBefore 74 (.if_icmp .ge (7)) (7) 81 3 77 := ⟨by decide +kernel, rfl, by decide⟩
theorem eX4_isBefore_77 : zD cX4_isBefore 77 (.iconst 1) 1 78 := ⟨by decide +kernel, rfl⟩
theorem eX4_isBefore_78 : zJ cX4_isBefore 78 (.goto (4)) (4) 82 3 81 := ⟨by decide +kernel, rfl, by decide⟩
theorem eX4_isBefore_81 : zD cX4_isBefore 81 (.iconst 0) 1 82 := ⟨by decide +kernel, rfl⟩
theorem eX4_isBefore_82 : zD cX4_isBefore 82 (.ireturn) 1 83 := ⟨by decide +kernel, rfl⟩
end
section
theorem eX1_init_0 : zD cX1_init 0 (.aload_n 0) 1 1 := ⟨by decide +kernel, rfl⟩
theorem eX1_init_1 : zD cX1_init 1 (.invokespecial 3) 3 4 := ⟨by decide +kernel, rfl⟩
theorem eX1_init_4 : zD cX1_init 4 (.aload_n 0) 1 5 := ⟨by decide +kernel, rfl⟩
theorem eX1_init_5 : zD cX1_init 5 (.getstatic 9) 3 8 := ⟨by decide +kernel, rfl⟩
theorem eX1_init_8 : zD cX1_init 8 (.invokevirtual 13) 3 11 := ⟨by decide +kernel, rfl⟩
theorem eX1_init_11 : zD cX1_init 11 (.checkcast 14) 3 14 := ⟨by decide +kernel, rfl⟩
theorem eX1_init_14 : zD cX1_init 14 (.putfield 18) 3 17 := ⟨by decide +kernel, rfl⟩
theorem eX1_init_17 : zD cX1_init 17 (.aload_n 0) 1 18 := ⟨by decide +kernel, rfl⟩
theorem eX1_init_18 : zD cX1_init 18 (.iconst 0) 1 19 := ⟨by decide +kernel, rfl⟩
theorem eX1_init_19 : zD cX1_init 19 (.putfield 23) 3 22 := ⟨by decide +kernel, rfl⟩
theorem eX1_init_22 : zD cX1_init 22 (.aload_n 0) 1 23 := ⟨by decide +kernel, rfl⟩
theorem eX1_init_23 : zD cX1_init 23 (.iconst 0) 1 24 := ⟨by decide +kernel, rfl⟩
theorem eX1_init_24 : zD cX1_init 24 (.putfield 27) 3 27 := ⟨by decide +kernel, rfl⟩
theorem eX1_init_27 : zD cX1_init 27 (.aload_n 0) 1 28 := ⟨by decide +kernel, rfl⟩
theorem eX1_init_28 : zD cX1_init 28 (.iconst 0) 1 29 := ⟨by decide +kernel, rfl⟩
theorem eX1_init_29 : zD cX1_init 29 (.putfield 30) 3 32 := ⟨by decide +kernel, rfl⟩
theorem eX1_init_32 : zD cX1_init 32 (.aload_n 0) 1 33 := ⟨by decide +kernel, rfl⟩
theorem eX1_init_33 : zD cX1_init 33 (.iconst 0) 1 34 := ⟨by decide +kernel, rfl⟩
theorem eX1_init_34 : zD cX1_init 34 (.putfield 33) 3 37 := ⟨by decide +kernel, rfl⟩
theorem eX1_init_37 : zD cX1_init 37 (.aload_n 0) 1 38 := ⟨by decide +kernel, rfl⟩
theorem eX1_init_38 : zD cX1_init 38 (.iconst 0) 1 39 := ⟨by decide +kernel, rfl⟩
theorem eX1_init_39 : zD cX1_init 39 (.putfield 36) 3 42 := ⟨by decide +kernel, rfl⟩
theorem eX1_init_42 : zD cX1_init 42 (.aload_n 0) 1 43 := ⟨by decide +kernel, rfl⟩
theorem eX1_init_43 : zD cX1_init 43 (.bipush 8) 2 45 := ⟨by decide +kernel, rfl⟩
theorem eX1_init_45 : zD cX1_init 45 (.newarray .int) 2 47 := ⟨by decide +kernel, rfl⟩
theorem eX1_init_47 : zD cX1_init 47 (.putfield 39) 3 50 := ⟨by decide +kernel, rfl⟩
theorem eX1_init_50 : zD cX1_init 50 (.aload_n 0) 1 51 := ⟨by decide +kernel, rfl⟩
theorem eX1_init_51 : zD cX1_init 51 (.bipush 8) 2 53 := ⟨by decide +kernel, rfl⟩
theorem eX1_init_53 : zD cX1_init 53 (.newarray .int) 2 55 := ⟨by decide +kernel, rfl⟩
theorem eX1_init_55 : zD cX1_init 55 (.putfield 42) 3 58 := ⟨by decide +kernel, rfl⟩
theorem eX1_init_58 : zD cX1_init 58 (.aload_n 0) 1 59 := ⟨by decide +kernel, rfl⟩
theorem eX1_init_59 : zD cX1_init 59 (.bipush 8) 2 61 := ⟨by decide +kernel, rfl⟩
theorem eX1_init_61 : zD cX1_init 61 (.newarray .int) 2 63 := ⟨by decide +kernel, rfl⟩
theorem eX1_init_63 : zD cX1_init 63 (.putfield 45) 3 66 := ⟨by decide +kernel, rfl⟩
theorem eX1_init_66 : zD cX1_init 66 (.aload_n 0) 1 67 := ⟨by decide +kernel, rfl⟩
theorem eX1_init_67 : zD cX1_init 67 (.bipush 8) 2 69 := ⟨by decide +kernel, rfl⟩
theorem eX1_init_69 : zD cX1_init 69 (.newarray .int) 2 71 := ⟨by decide +kernel, rfl⟩
theorem eX1_init_71 : zD cX1_init 71 (.putfield 48) 3 74 := ⟨by decide +kernel, rfl⟩
theorem eX1_init_74 : zD cX1_init 74 (.aload_n 0) 1 75 := ⟨by decide +kernel, rfl⟩
theorem eX1_init_75 : zD cX1_init 75 (.bipush 8) 2 77 := ⟨by decide +kernel, rfl⟩
theorem eX1_init_77 : zD cX1_init 77 (.newarray .int) 2 79 := ⟨by decide +kernel, rfl⟩
theorem eX1_init_79 : zD cX1_init 79 (.putfield 51) 3 82 := ⟨by decide +kernel, rfl⟩
theorem eX1_init_82 : zD cX1_init 82 (.aload_n 0) 1 83 := ⟨by decide +kernel, rfl⟩
theorem eX1_init_83 : zD cX1_init 83 (.bipush 72) 2 85 := ⟨by decide +kernel, rfl⟩
theorem eX1_init_85 : zD cX1_init 85 (.newarray .long) 2 87 := ⟨by decide +kernel, rfl⟩
theorem eX1_init_87 : zD cX1_init 87 (.putfield 54) 3 90 := ⟨by decide +kernel, rfl⟩
theorem eX1_init_90 : zD cX1_init 90 (.aload_n 0) 1 91 := ⟨by decide +kernel, rfl⟩
theorem eX1_init_91 : zD cX1_init 91 (.new 58) 3 94 := ⟨by decide +kernel, rfl⟩
theorem eX1_init_94 : zD cX1_init 94 (.dup) 1 95 := ⟨by decide +kernel, rfl⟩
theorem eX1_init_95 : zD cX1_init 95 (.invokespecial 60) 3 98 := ⟨by decide +kernel, rfl⟩
theorem eX1_init_98 : zD cX1_init 98 (.putfield 61) 3 101 := ⟨by decide +kernel, rfl⟩
theorem eX1_init_101 : zD cX1_init 101 (.aload_n 0) 1 102 := ⟨by decide +kernel, rfl⟩
theorem eX1_init_102 : zD cX1_init 102 (.new 65) 3 105 := ⟨by decide +kernel, rfl⟩
theorem eX1_init_105 : zD cX1_init 105 (.dup) 1 106 := ⟨by decide +kernel, rfl⟩
theorem eX1_init_106 : zD cX1_init 106 (.invokespecial 67) 3 109 := ⟨by decide +kernel, rfl⟩
theorem eX1_init_109 : zD cX1_init 109 (.putfield 68) 3 112 := ⟨by decide +kernel, rfl⟩
theorem eX1_init_112 : zD cX1_init 112 (.return_) 1 113 := ⟨by decide +kernel, rfl⟩
theorem eX1_copyFrom_0 : zD cX1_copyFrom 0 (.aload_n 1) 1 1 := ⟨by decide +kernel, rfl⟩
theorem eX1_copyFrom_1 : zD cX1_copyFrom 1 (.getfield 18) 3 4 := ⟨by decide +kernel, rfl⟩
theorem eX1_copyFrom_4 : zD cX1_copyFrom 4 (.iconst 0) 1 5 := ⟨by decide +kernel, rfl⟩
theorem eX1_copyFrom_5 : zD cX1_copyFrom 5 (.aload_n 0) 1 6 := ⟨by decide +kernel, rfl⟩
theorem eX1_copyFrom_6 : zD cX1_copyFrom 6 (.getfield 18) 3 9 := ⟨by decide +kernel, rfl⟩
theorem eX1_copyFrom_9 : zD cX1_copyFrom 9 (.iconst 0) 1 10 := ⟨by decide +kernel, rfl⟩
theorem eX1_copyFrom_10 : zD cX1_copyFrom 10 (.bipush 8) 2 12 := ⟨by decide +kernel, rfl⟩
theorem eX1_copyFrom_12 : zD cX1_copyFrom 12 (.invokestatic 72) 3 15 := ⟨by decide +kernel, rfl⟩
theorem eX1_copyFrom_15 : zD cX1_copyFrom 15 (.aload_n 0) 1 16 := ⟨by decide +kernel, rfl⟩
theorem eX1_copyFrom_16 : zD cX1_copyFrom 16 (.aload_n 1) 1 17 := ⟨by decide +kernel, rfl⟩
theorem eX1_copyFrom_17 : zD cX1_copyFrom 17 (.getfield 23) 3 20 := ⟨by decide +kernel, rfl⟩
theorem eX1_copyFrom_20 : zD cX1_copyFrom 20 (.putfield 23) 3 23 := ⟨by decide +kernel, rfl⟩
theorem eX1_copyFrom_23 : zD cX1_copyFrom 23 (.aload_n 0) 1 24 := ⟨by decide +kernel, rfl⟩
theorem eX1_copyFrom_24 : zD cX1_copyFrom 24 (.aload_n 1) 1 25 := ⟨by decide +kernel, rfl⟩
theorem eX1_copyFrom_25 : zD cX1_copyFrom 25 (.getfield 27) 3 28 := ⟨by decide +kernel, rfl⟩
theorem eX1_copyFrom_28 : zD cX1_copyFrom 28 (.putfield 27) 3 31 := ⟨by decide +kernel, rfl⟩
theorem eX1_copyFrom_31 : zD cX1_copyFrom 31 (.aload_n 0) 1 32 := ⟨by decide +kernel, rfl⟩
theorem eX1_copyFrom_32 : zD cX1_copyFrom 32 (.aload_n 1) 1 33 := ⟨by decide +kernel, rfl⟩
theorem eX1_copyFrom_33 : zD cX1_copyFrom 33 (.getfield 30) 3 36 := ⟨by decide +kernel, rfl⟩
theorem eX1_copyFrom_36 : zD cX1_copyFrom 36 (.putfield 30) 3 39 := ⟨by decide +kernel, rfl⟩
theorem eX1_copyFrom_39 : zD cX1_copyFrom 39 (.aload_n 0) 1 40 := ⟨by decide +kernel, rfl⟩
theorem eX1_copyFrom_40 : zD cX1_copyFrom 40 (.aload_n 1) 1 41 := ⟨by decide +kernel, rfl⟩
theorem eX1_copyFrom_41 : zD cX1_copyFrom 41 (.getfield 33) 3 44 := ⟨by decide +kernel, rfl⟩
theorem eX1_copyFrom_44 : zD cX1_copyFrom 44 (.putfield 33) 3 47 := ⟨by decide +kernel, rfl⟩
theorem eX1_copyFrom_47 : zD cX1_copyFrom 47 (.aload_n 0) 1 48 := ⟨by decide +kernel, rfl⟩
theorem eX1_copyFrom_48 : zD cX1_copyFrom 48 (.aload_n 1) 1 49 := ⟨by decide +kernel, rfl⟩
theorem eX1_copyFrom_49 : zD cX1_copyFrom 49 (.getfield 36) 3 52 := ⟨by decide +kernel, rfl⟩
theorem eX1_copyFrom_52 : zD cX1_copyFrom 52 (.putfield 36) 3 55 := ⟨by decide +kernel, rfl⟩
theorem eX1_copyFrom_55 : zD cX1_copyFrom 55 (.aload_n 1) 1 56 := ⟨by decide +kernel, rfl⟩
theorem eX1_copyFrom_56 : zD cX1_copyFrom 56 (.getfield 39) 3 59 := ⟨by decide +kernel, rfl⟩
theorem eX1_copyFrom_59 : zD cX1_copyFrom 59 (.iconst 0) 1 60 := ⟨by decide +kernel, rfl⟩
theorem eX1_copyFrom_60 : zD cX1_copyFrom 60 (.aload_n 0) 1 61 := ⟨by decide +kernel, rfl⟩
theorem eX1_copyFrom_61 : zD cX1_copyFrom 61 (.getfield 39) 3 64 := ⟨by decide +kernel, rfl⟩
theorem eX1_copyFrom_64 : zD cX1_copyFrom 64 (.iconst 0) 1 65 := ⟨by decide +kernel, rfl⟩
theorem eX1_copyFrom_65 : zD cX1_copyFrom 65 (.bipush 8) 2 67 := ⟨by decide +kernel, rfl⟩
theorem eX1_copyFrom_67 : zD cX1_copyFrom 67 (.invokestatic 72) 3 70 := ⟨by decide +kernel, rfl⟩
theorem eX1_copyFrom_70 : zD cX1_copyFrom 70 (.aload_n 1) 1 71 := ⟨by decide +kernel, rfl⟩
theorem eX1_copyFrom_71 : zD cX1_copyFrom 71 (.getfield 42) 3 74 := ⟨by decide +kernel, rfl⟩
theorem eX1_copyFrom_74 : zD cX1_copyFrom 74 (.iconst 0) 1 75 := ⟨by decide +kernel, rfl⟩
theorem eX1_copyFrom_75 : zD cX1_copyFrom 75 (.aload_n 0) 1 76 := ⟨by decide +kernel, rfl⟩
theorem eX1_copyFrom_76 : zD cX1_copyFrom 76 (.getfield 42) 3 79 := ⟨by decide +kernel, rfl⟩
theorem eX1_copyFrom_79 : zD cX1_copyFrom 79 (.iconst 0) 1 80 := ⟨by decide +kernel, rfl⟩
theorem eX1_copyFrom_80 : zD cX1_copyFrom 80 (.bipush 8) 2 82 := ⟨by decide +kernel, rfl⟩
theorem eX1_copyFrom_82 : zD cX1_copyFrom 82 (.invokestatic 72) 3 85 := ⟨by decide +kernel, rfl⟩
theorem eX1_copyFrom_85 : zD cX1_copyFrom 85 (.aload_n 1) 1 86 := ⟨by decide +kernel, rfl⟩
theorem eX1_copyFrom_86 : zD cX1_copyFrom 86 (.getfield 45) 3 89 := ⟨by decide +kernel, rfl⟩
theorem eX1_copyFrom_89 : zD cX1_copyFrom 89 (.iconst 0) 1 90 := ⟨by decide +kernel, rfl⟩
theorem eX1_copyFrom_90 : zD cX1_copyFrom 90 (.aload_n 0) 1 91 := ⟨by decide +kernel, rfl⟩
theorem eX1_copyFrom_91 : zD cX1_copyFrom 91 (.getfield 45) 3 94 := ⟨by decide +kernel, rfl⟩
theorem eX1_copyFrom_94 : zD cX1_copyFrom 94 (.iconst 0) 1 95 := ⟨by decide +kernel, rfl⟩
theorem eX1_copyFrom_95 : zD cX1_copyFrom 95 (.bipush 8) 2 97 := ⟨by decide +kernel, rfl⟩
theorem eX1_copyFrom_97 : zD cX1_copyFrom 97 (.invokestatic 72) 3 100 := ⟨by decide +kernel, rfl⟩
theorem eX1_copyFrom_100 : zD cX1_copyFrom 100 (.aload_n 1) 1 101 := ⟨by decide +kernel, rfl⟩
theorem eX1_copyFrom_101 : zD cX1_copyFrom 101 (.getfield 48) 3 104 := ⟨by decide +kernel, rfl⟩
theorem eX1_copyFrom_104 : zD cX1_copyFrom 104 (.iconst 0) 1 105 := ⟨by decide +kernel, rfl⟩
theorem eX1_copyFrom_105 : zD cX1_copyFrom 105 (.aload_n 0) 1 106 := ⟨by decide +kernel, rfl⟩
theorem eX1_copyFrom_106 : zD cX1_copyFrom 106 (.getfield 48) 3 109 := ⟨by decide +kernel, rfl⟩
theorem eX1_copyFrom_109 : zD cX1_copyFrom 109 (.iconst 0) 1 110 := ⟨by decide +kernel, rfl⟩
theorem eX1_copyFrom_110 : zD cX1_copyFrom 110 (.bipush 8) 2 112 := ⟨by decide +kernel, rfl⟩
theorem eX1_copyFrom_112 : zD cX1_copyFrom 112 (.invokestatic 72) 3 115 := ⟨by decide +kernel, rfl⟩
theorem eX1_copyFrom_115 : zD cX1_copyFrom 115 (.aload_n 1) 1 116 := ⟨by decide +kernel, rfl⟩
theorem eX1_copyFrom_116 : zD cX1_copyFrom 116 (.getfield 51) 3 119 := ⟨by decide +kernel, rfl⟩
theorem eX1_copyFrom_119 : zD cX1_copyFrom 119 (.iconst 0) 1 120 := ⟨by decide +kernel, rfl⟩
theorem eX1_copyFrom_120 : zD cX1_copyFrom 120 (.aload_n 0) 1 121 := ⟨by decide +kernel, rfl⟩
theorem eX1_copyFrom_121 : zD cX1_copyFrom 121 (.getfield 51) 3 124 := ⟨by decide +kernel, rfl⟩
theorem eX1_copyFrom_124 : zD cX1_copyFrom 124 (.iconst 0) 1 125 := ⟨by decide +kernel, rfl⟩
theorem eX1_copyFrom_125 : zD cX1_copyFrom 125 (.bipush 8) 2 127 := ⟨by decide +kernel, rfl⟩
theorem eX1_copyFrom_127 : zD cX1_copyFrom 127 (.invokestatic 72) 3 130 := ⟨by decide +kernel, rfl⟩
theorem eX1_copyFrom_130 : zD cX1_copyFrom 130 (.aload_n 1) 1 131 := ⟨by decide +kernel, rfl⟩
theorem eX1_copyFrom_131 : zD cX1_copyFrom 131 (.getfield 54) 3 134 := ⟨by decide +kernel, rfl⟩
theorem eX1_copyFrom_134 : zD cX1_copyFrom 134 (.iconst 0) 1 135 := ⟨by decide +kernel, rfl⟩
theorem eX1_copyFrom_135 : zD cX1_copyFrom 135 (.aload_n 0) 1 136 := ⟨by decide +kernel, rfl⟩
theorem eX1_copyFrom_136 : zD cX1_copyFrom 136 (.getfield 54) 3 139 := ⟨by decide +kernel, rfl⟩
theorem eX1_copyFrom_139 : zD cX1_copyFrom 139 (.iconst 0) 1 140 := ⟨by decide +kernel, rfl⟩
theorem eX1_copyFrom_140 : zD cX1_copyFrom 140 (.bipush 72) 2 142 := ⟨by decide +kernel, rfl⟩
theorem eX1_copyFrom_142 : zD cX1_copyFrom 142 (.invokestatic 72) 3 145 := ⟨by decide +kernel, rfl⟩
theorem eX1_copyFrom_145 : zD cX1_copyFrom 145 (.aload_n 0) 1 146 := ⟨by decide +kernel, rfl⟩
theorem eX1_copyFrom_146 : zD cX1_copyFrom 146 (.getfield 61) 3 149 := ⟨by decide +kernel, rfl⟩
theorem eX1_copyFrom_149 : zD cX1_copyFrom 149 (.aload_n 1) 1 150 := ⟨by decide +kernel, rfl⟩
theorem eX1_copyFrom_150 : zD cX1_copyFrom 150 (.getfield 61) 3 153 := ⟨by decide +kernel, rfl⟩
theorem eX1_copyFrom_153 : zD cX1_copyFrom 153 (.invokevirtual 78) 3 156 := ⟨by decide +kernel, rfl⟩
theorem eX1_copyFrom_156 : zD cX1_copyFrom 156 (.aload_n 0) 1 157 := ⟨by decide +kernel, rfl⟩
theorem eX1_copyFrom_157 : zD cX1_copyFrom 157 (.getfield 68) 3 160 := ⟨by decide +kernel, rfl⟩
theorem eX1_copyFrom_160 : zD cX1_copyFrom 160 (.aload_n 1) 1 161 := ⟨by decide +kernel, rfl⟩
theorem eX1_copyFrom_161 : zD cX1_copyFrom 161 (.getfield 68) 3 164 := ⟨by decide +kernel, rfl⟩
theorem eX1_copyFrom_164 : zD cX1_copyFrom 164 (.invokevirtual 82) 3 167 := ⟨by decide +kernel, rfl⟩
theorem eX1_copyFrom_167 : zD cX1_copyFrom 167 (.return_) 1 168 := ⟨by decide +kernel, rfl⟩
theorem eX1_hasService_0 : zD cX1_hasService 0 (.iload_n 1) 1 1 := ⟨by decide +kernel, rfl⟩
theorem eX1_hasService_1 : zJ cX1_hasService 1 (.ifCond .lt (15)) (15) 16 3 4 := ⟨by decide +kernel, rfl, by decide⟩
theorem eX1_hasService_4 : zD cX1_hasService 4 (.iload_n 1) 1 5 := ⟨by decide +kernel, rfl⟩
theorem eX1_hasService_5 : zD cX1_hasService 5 (.aload_n 0) 1 6 := ⟨by decide +kernel, rfl⟩
theorem eX1_hasService_6 : zD cX1_hasService 6 (.getfield 33) 3 9 := ⟨by decide +kernel, rfl⟩
theorem eX1_hasService_9 : zJ cX1_hasService 9 (.if_icmp .ge (7)) (7) 16 3 12 := ⟨by decide +kernel, rfl, by decide⟩
theorem eX1_hasService_12 : zD cX1_hasService 12 (.iconst 1) 1 13 := ⟨by decide +kernel, rfl⟩
theorem eX1_hasService_13 : zJ cX1_hasService 13 (.goto (4)) (4) 17 3 16 := ⟨by decide +kernel, rfl, by decide⟩
theorem eX1_hasService_16 : zD cX1_hasService 16 (.iconst 0) 1 17 := ⟨by decide +kernel, rfl⟩
theorem eX1_hasService_17 : zD cX1_hasService 17 (.ireturn) 1 18 := ⟨by decide +kernel, rfl⟩
theorem eX1_isFrozen_0 : zD cX1_isFrozen 0 (.aload_n 0) 1 1 := ⟨by decide +kernel, rfl⟩
theorem eX1_isFrozen_1 : zD cX1_isFrozen 1 (.getfield 36) 3 4 := ⟨by decide +kernel, rfl⟩
theorem eX1_isFrozen_4 : zD cX1_isFrozen 4 (.iload_n 1) 1 5 := ⟨by decide +kernel, rfl⟩
theorem eX1_isFrozen_5 : zD cX1_isFrozen 5 (.ishr) 1 6 := ⟨by decide +kernel, rfl⟩
theorem eX1_isFrozen_6 : zD cX1_isFrozen 6 (.iconst 1) 1 7 := ⟨by decide +kernel, rfl⟩
theorem eX1_isFrozen_7 : zD cX1_isFrozen 7 (.iand) 1 8 := ⟨by decide +kernel, rfl⟩
theorem eX1_isFrozen_8 : zD cX1_isFrozen 8 (.iconst 1) 1 9 := ⟨by decide +kernel, rfl⟩
theorem eX1_isFrozen_9 : zJ cX1_isFrozen 9 (.if_icmp .ne (7)) (7) 16 3 12 := ⟨by decide +kernel, rfl, by decide⟩
theorem eX1_isFrozen_12 : zD cX1_isFrozen 12 (.iconst 1) 1 13 := ⟨by decide +kernel, rfl⟩
theorem eX1_isFrozen_13 : zJ cX1_isFrozen 13 (.goto (4)) (4) 17 3 16 := ⟨by decide +kernel, rfl, by decide⟩
theorem eX1_isFrozen_16 : zD cX1_isFrozen 16 (.iconst 0) 1 17 := ⟨by decide +kernel, rfl⟩
theorem eX1_isFrozen_17 : zD cX1_isFrozen 17 (.ireturn) 1 18 := ⟨by decide +kernel, rfl⟩
theorem eX1_minutesOf_0 : zD cX1_minutesOf 0 (.aload_n 0) 1 1 := ⟨by decide +kernel, rfl⟩
theorem eX1_minutesOf_1 : zD cX1_minutesOf 1 (.getfield 54) 3 4 := ⟨by decide +kernel, rfl⟩
theorem eX1_minutesOf_4 : zD cX1_minutesOf 4 (.iload_n 1) 1 5 := ⟨by decide +kernel, rfl⟩
theorem eX1_minutesOf_5 : zD cX1_minutesOf 5 (.bipush 9) 2 7 := ⟨by decide +kernel, rfl⟩
theorem eX1_minutesOf_7 : zD cX1_minutesOf 7 (.imul) 1 8 := ⟨by decide +kernel, rfl⟩
theorem eX1_minutesOf_8 : zD cX1_minutesOf 8 (.iload_n 2) 1 9 := ⟨by decide +kernel, rfl⟩
theorem eX1_minutesOf_9 : zD cX1_minutesOf 9 (.iadd) 1 10 := ⟨by decide +kernel, rfl⟩
theorem eX1_minutesOf_10 : zD cX1_minutesOf 10 (.laload) 1 11 := ⟨by decide +kernel, rfl⟩
theorem eX1_minutesOf_11 : zD cX1_minutesOf 11 (.lreturn) 1 12 := ⟨by decide +kernel, rfl⟩
theorem eX1_thawLimit_0 : zD cX1_thawLimit 0 (.aload_n 0) 1 1 := ⟨by decide +kernel, rfl⟩
theorem eX1_thawLimit_1 : zD cX1_thawLimit 1 (.getfield 39) 3 4 := ⟨by decide +kernel, rfl⟩
theorem eX1_thawLimit_4 : zD cX1_thawLimit 4 (.iload_n 1) 1 5 := ⟨by decide +kernel, rfl⟩
theorem eX1_thawLimit_5 : zD cX1_thawLimit 5 (.iaload) 1 6 := ⟨by decide +kernel, rfl⟩
theorem eX1_thawLimit_6 : zD cX1_thawLimit 6 (.aload_n 0) 1 7 := ⟨by decide +kernel, rfl⟩
theorem eX1_thawLimit_7 : zD cX1_thawLimit 7 (.getfield 18) 3 10 := ⟨by decide +kernel, rfl⟩
theorem eX1_thawLimit_10 : zD cX1_thawLimit 10 (.iconst 3) 1 11 := ⟨by decide +kernel, rfl⟩
theorem eX1_thawLimit_11 : zD cX1_thawLimit 11 (.iaload) 1 12 := ⟨by decide +kernel, rfl⟩
theorem eX1_thawLimit_12 : zD cX1_thawLimit 12 (.imul) 1 13 := ⟨by decide +kernel, rfl⟩
theorem eX1_thawLimit_13 : zD cX1_thawLimit 13 (.bipush 100) 2 15 := ⟨by decide +kernel, rfl⟩
theorem eX1_thawLimit_15 : zD cX1_thawLimit 15 (.idiv) 1 16 := ⟨by decide +kernel, rfl⟩
theorem eX1_thawLimit_16 : zD cX1_thawLimit 16 (.ireturn) 1 17 := ⟨by decide +kernel, rfl⟩
theorem eX1_addService_0 : zD cX1_addService 0 (.aload_n 0) 1 1 := ⟨by decide +kernel, rfl⟩
theorem eX1_addService_1 : zD cX1_addService 1 (.getfield 33) 3 4 := ⟨by decide +kernel, rfl⟩
theorem eX1_addService_4 : zD cX1_addService 4 (.istore_n 2) 1 5 := ⟨by decide +kernel, rfl⟩
theorem eX1_addService_5 : zD cX1_addService 5 (.aload_n 0) 1 6 := ⟨by decide +kernel, rfl⟩
theorem eX1_addService_6 : zD cX1_addService 6 (.getfield 39) 3 9 := ⟨by decide +kernel, rfl⟩
theorem eX1_addService_9 : zD cX1_addService 9 (.iload_n 2) 1 10 := ⟨by decide +kernel, rfl⟩
theorem eX1_addService_10 : zD cX1_addService 10 (.iload_n 1) 1 11 := ⟨by decide +kernel, rfl⟩
theorem eX1_addService_11 : zD cX1_addService 11 (.iastore) 1 12 := ⟨by decide +kernel, rfl⟩
theorem eX1_addService_12 : zD cX1_addService 12 (.aload_n 0) 1 13 := ⟨by decide +kernel, rfl⟩
theorem eX1_addService_13 : zD cX1_addService 13 (.getfield 42) 3 16 := ⟨by decide +kernel, rfl⟩
theorem eX1_addService_16 : zD cX1_addService 16 (.iload_n 2) 1 17 := ⟨by decide +kernel, rfl⟩
theorem eX1_addService_17 : zD cX1_addService 17 (.aload_n 0) 1 18 := ⟨by decide +kernel, rfl⟩
theorem eX1_addService_18 : zD cX1_addService 18 (.getfield 18) 3 21 := ⟨by decide +kernel, rfl⟩
theorem eX1_addService_21 : zD cX1_addService 21 (.bipush 7) 2 23 := ⟨by decide +kernel, rfl⟩
theorem eX1_addService_23 : zD cX1_addService 23 (.iaload) 1 24 := ⟨by decide +kernel, rfl⟩
theorem eX1_addService_24 : zD cX1_addService 24 (.iastore) 1 25 := ⟨by decide +kernel, rfl⟩
theorem eX1_addService_25 : zD cX1_addService 25 (.aload_n 0) 1 26 := ⟨by decide +kernel, rfl⟩
theorem eX1_addService_26 : zD cX1_addService 26 (.dup) 1 27 := ⟨by decide +kernel, rfl⟩
theorem eX1_addService_27 : zD cX1_addService 27 (.getfield 33) 3 30 := ⟨by decide +kernel, rfl⟩
theorem eX1_addService_30 : zD cX1_addService 30 (.iconst 1) 1 31 := ⟨by decide +kernel, rfl⟩
theorem eX1_addService_31 : zD cX1_addService 31 (.iadd) 1 32 := ⟨by decide +kernel, rfl⟩
theorem eX1_addService_32 : zD cX1_addService 32 (.putfield 33) 3 35 := ⟨by decide +kernel, rfl⟩
theorem eX1_addService_35 : zD cX1_addService 35 (.aload_n 0) 1 36 := ⟨by decide +kernel, rfl⟩
theorem eX1_addService_36 : zD cX1_addService 36 (.iload_n 2) 1 37 := ⟨by decide +kernel, rfl⟩
theorem eX1_addService_37 : zD cX1_addService 37 (.iconst 0) 1 38 := ⟨by decide +kernel, rfl⟩
theorem eX1_addService_38 : zD cX1_addService 38 (.iload_n 1) 1 39 := ⟨by decide +kernel, rfl⟩
theorem eX1_addService_39 : zD cX1_addService 39 (.i2l) 1 40 := ⟨by decide +kernel, rfl⟩
theorem eX1_addService_40 : zD cX1_addService 40 (.invokevirtual 85) 3 43 := ⟨by decide +kernel, rfl⟩
theorem eX1_addService_43 : zD cX1_addService 43 (.iload_n 2) 1 44 := ⟨by decide +kernel, rfl⟩
theorem eX1_addService_44 : zD cX1_addService 44 (.ireturn) 1 45 := ⟨by decide +kernel, rfl⟩
theorem eX1_enter_0 : zD cX1_enter 0 (.aload_n 0) 1 1 := ⟨by decide +kernel, rfl⟩
theorem eX1_enter_1 : zD cX1_enter 1 (.getfield 54) 3 4 := ⟨by decide +kernel, rfl⟩
theorem eX1_enter_4 : zD cX1_enter 4 (.iload_n 1) 1 5 := ⟨by decide +kernel, rfl⟩
theorem eX1_enter_5 : zD cX1_enter 5 (.bipush 9) 2 7 := ⟨by decide +kernel, rfl⟩
theorem eX1_enter_7 : zD cX1_enter 7 (.imul) 1 8 := ⟨by decide +kernel, rfl⟩
theorem eX1_enter_8 : zD cX1_enter 8 (.iload_n 2) 1 9 := ⟨by decide +kernel, rfl⟩
theorem eX1_enter_9 : zD cX1_enter 9 (.iadd) 1 10 := ⟨by decide +kernel, rfl⟩
theorem eX1_enter_10 : zD cX1_enter 10 (.dup2) 1 11 := ⟨by decide +kernel, rfl⟩
theorem eX1_enter_11 : zD cX1_enter 11 (.laload) 1 12 := ⟨by decide +kernel, rfl⟩
theorem eX1_enter_12 : zD cX1_enter 12 (.lload_n 3) 1 13 := ⟨by decide +kernel, rfl⟩
theorem eX1_enter_13 : zD cX1_enter 13 (.ladd) 1 14 := ⟨by decide +kernel, rfl⟩
theorem eX1_enter_14 : zD cX1_enter 14 (.lastore) 1 15 := ⟨by decide +kernel, rfl⟩
theorem eX1_enter_15 : zD cX1_enter 15 (.aload_n 0) 1 16 := ⟨by decide +kernel, rfl⟩
theorem eX1_enter_16 : zD cX1_enter 16 (.getfield 54) 3 19 := ⟨by decide +kernel, rfl⟩
theorem eX1_enter_19 : zD cX1_enter 19 (.iload_n 1) 1 20 := ⟨by decide +kernel, rfl⟩
theorem eX1_enter_20 : zD cX1_enter 20 (.bipush 9) 2 22 := ⟨by decide +kernel, rfl⟩
theorem eX1_enter_22 : zD cX1_enter 22 (.imul) 1 23 := ⟨by decide +kernel, rfl⟩
theorem eX1_enter_23 : zD cX1_enter 23 (.bipush 8) 2 25 := ⟨by decide +kernel, rfl⟩
theorem eX1_enter_25 : zD cX1_enter 25 (.iadd) 1 26 := ⟨by decide +kernel, rfl⟩
theorem eX1_enter_26 : zD cX1_enter 26 (.dup2) 1 27 := ⟨by decide +kernel, rfl⟩
theorem eX1_enter_27 : zD cX1_enter 27 (.laload) 1 28 := ⟨by decide +kernel, rfl⟩
theorem eX1_enter_28 : zD cX1_enter 28 (.iload_n 2) 1 29 := ⟨by decide +kernel, rfl⟩
theorem eX1_enter_29 : zD cX1_enter 29 (.iconst 2) 1 30 := ⟨by decide +kernel, rfl⟩
theorem eX1_enter_30 : zJ cX1_enter 30 (.if_icmp .gt (7)) (7) 37 3 33 := ⟨by decide +kernel, rfl, by decide⟩
theorem eX1_enter_33 : zD cX1_enter 33 (.lload_n 3) 1 34 := ⟨by decide +kernel, rfl⟩
theorem eX1_enter_34 : zJ cX1_enter 34 (.goto (5)) (5) 39 3 37 := ⟨by decide +kernel, rfl, by decide⟩
theorem eX1_enter_37 : zD cX1_enter 37 (.lload_n 3) 1 38 := ⟨by decide +kernel, rfl⟩
theorem eX1_enter_38 : zD cX1_enter 38 (.lneg) 1 39 := ⟨by decide +kernel, rfl⟩
theorem eX1_enter_39 : zD cX1_enter 39 (.ladd) 1 40 := ⟨by decide +kernel, rfl⟩
theorem eX1_enter_40 : zD cX1_enter 40 (.lastore) 1 41 := ⟨by decide +kernel, rfl⟩
theorem eX1_enter_41 : zD cX1_enter 41 (.return_) 1 42 := ⟨by decide +kernel, rfl⟩
theorem eX1_book_0 : zD cX1_book 0 (.aload_n 0) 1 1 := ⟨by decide +kernel, rfl⟩
theorem eX1_book_1 : zD cX1_book 1 (.iload_n 1) 1 2 := ⟨by decide +kernel, rfl⟩
theorem eX1_book_2 : zD cX1_book 2 (.iload_n 2) 1 3 := ⟨by decide +kernel, rfl⟩
theorem eX1_book_3 : zD cX1_book 3 (.lload_n 3) 1 4 := ⟨by decide +kernel, rfl⟩
theorem eX1_book_4 : zD cX1_book 4 (.invokevirtual 89) 3 7 := ⟨by decide +kernel, rfl⟩
theorem eX1_book_7 : zD cX1_book 7 (.aload_n 0) 1 8 := ⟨by decide +kernel, rfl⟩
theorem eX1_book_8 : zD cX1_book 8 (.iload_n 1) 1 9 := ⟨by decide +kernel, rfl⟩
theorem eX1_book_9 : zD cX1_book 9 (.bipush 8) 2 11 := ⟨by decide +kernel, rfl⟩
theorem eX1_book_11 : zD cX1_book 11 (.invokevirtual 92) 3 14 := ⟨by decide +kernel, rfl⟩
theorem eX1_book_14 : zD cX1_book 14 (.lstore 5) 2 16 := ⟨by decide +kernel, rfl⟩
theorem eX1_book_16 : zD cX1_book 16 (.lload 5) 2 18 := ⟨by decide +kernel, rfl⟩
theorem eX1_book_18 : zD cX1_book 18 (.lconst 0) 1 19 := ⟨by decide +kernel, rfl⟩
theorem eX1_book_19 : zD cX1_book 19 (.lcmp) 1 20 := ⟨by decide +kernel, rfl⟩
theorem eX1_book_20 : zJ cX1_book 20 (.ifCond .gt (36)) (36) 56 3 23 := ⟨by decide +kernel, rfl, by decide⟩
theorem eX1_book_23 : zD cX1_book 23 (.aload_n 0) 1 24 := ⟨by decide +kernel, rfl⟩
theorem eX1_book_24 : zD cX1_book 24 (.iload_n 1) 1 25 := ⟨by decide +kernel, rfl⟩
theorem eX1_book_25 : zD cX1_book 25 (.invokevirtual 96) 3 28 := ⟨by decide +kernel, rfl⟩
theorem eX1_book_28 : zJ cX1_book 28 (.ifCond .ne (13)) (13) 41 3 31 := ⟨by decide +kernel, rfl, by decide⟩
theorem eX1_book_31 : zD cX1_book 31 (.aload_n 0) 1 32 := ⟨by decide +kernel, rfl⟩
theorem eX1_book_32 : zD cX1_book 32 (.getfield 51) 3 35 := ⟨by decide +kernel, rfl⟩
theorem eX1_book_35 : zD cX1_book 35 (.iload_n 1) 1 36 := ⟨by decide +kernel, rfl⟩
theorem eX1_book_36 : zD cX1_book 36 (.dup2) 1 37 := ⟨by decide +kernel, rfl⟩
theorem eX1_book_37 : zD cX1_book 37 (.iaload) 1 38 := ⟨by decide +kernel, rfl⟩
theorem eX1_book_38 : zD cX1_book 38 (.iconst 1) 1 39 := ⟨by decide +kernel, rfl⟩
theorem eX1_book_39 : zD cX1_book 39 (.iadd) 1 40 := ⟨by decide +kernel, rfl⟩
theorem eX1_book_40 : zD cX1_book 40 (.iastore) 1 41 := ⟨by decide +kernel, rfl⟩
theorem eX1_book_41 : zD cX1_book 41 (.aload_n 0) 1 42 := ⟨by decide +kernel, rfl⟩
theorem eX1_book_42 : zD cX1_book 42 (.dup) 1 43 := ⟨by decide +kernel, rfl⟩
theorem eX1_book_43 : zD cX1_book 43 (.getfield 36) 3 46 := ⟨by decide +kernel, rfl⟩
theorem eX1_book_46 : zD cX1_book 46 (.iconst 1) 1 47 := ⟨by decide +kernel, rfl⟩
theorem eX1_book_47 : zD cX1_book 47 (.iload_n 1) 1 48 := ⟨by decide +kernel, rfl⟩
theorem eX1_book_48 : zD cX1_book 48 (.ishl) 1 49 := ⟨by decide +kernel, rfl⟩
theorem eX1_book_49 : zD cX1_book 49 (.ior) 1 50 := ⟨by decide +kernel, rfl⟩
theorem eX1_book_50 : zD cX1_book 50 (.putfield 36) 3 53 := ⟨by decide +kernel, rfl⟩
theorem eX1_book_53 : zJ cX1_book 53 (.goto (29)) (29) 82 3 56 := ⟨by decide +kernel, rfl, by decide⟩
theorem eX1_book_56 : zD cX1_book 56 (.lload 5) 2 58 := ⟨by decide +kernel, rfl⟩
theorem eX1_book_58 : zD cX1_book 58 (.aload_n 0) 1 59 := ⟨by decide +kernel, rfl⟩
theorem eX1_book_59 : zD cX1_book 59 (.iload_n 1) 1 60 := ⟨by decide +kernel, rfl⟩
theorem eX1_book_60 : zD cX1_book 60 (.invokevirtual 100) 3 63 := ⟨by decide +kernel, rfl⟩
theorem eX1_book_63 : zD cX1_book 63 (.i2l) 1 64 := ⟨by decide +kernel, rfl⟩
theorem eX1_book_64 : zD cX1_book 64 (.lcmp) 1 65 := ⟨by decide +kernel, rfl⟩
theorem eX1_book_65 : zJ cX1_book 65 (.ifCond .le (17)) (17) 82 3 68 := ⟨by decide +kernel, rfl, by decide⟩
theorem eX1_book_68 : zD cX1_book 68 (.aload_n 0) 1 69 := ⟨by decide +kernel, rfl⟩
theorem eX1_book_69 : zD cX1_book 69 (.dup) 1 70 := ⟨by decide +kernel, rfl⟩
theorem eX1_book_70 : zD cX1_book 70 (.getfield 36) 3 73 := ⟨by decide +kernel, rfl⟩
theorem eX1_book_73 : zD cX1_book 73 (.iconst 1) 1 74 := ⟨by decide +kernel, rfl⟩
theorem eX1_book_74 : zD cX1_book 74 (.iload_n 1) 1 75 := ⟨by decide +kernel, rfl⟩
theorem eX1_book_75 : zD cX1_book 75 (.ishl) 1 76 := ⟨by decide +kernel, rfl⟩
theorem eX1_book_76 : zD cX1_book 76 (.iconst (-1)) 1 77 := ⟨by decide +kernel, rfl⟩
theorem eX1_book_77 : zD cX1_book 77 (.ixor) 1 78 := ⟨by decide +kernel, rfl⟩
theorem eX1_book_78 : zD cX1_book 78 (.iand) 1 79 := ⟨by decide +kernel, rfl⟩
theorem eX1_book_79 : zD cX1_book 79 (.putfield 36) 3 82 := ⟨by decide +kernel, rfl⟩
theorem eX1_book_82 : zD cX1_book 82 (.return_) 1 83 := ⟨by decide +kernel, rfl⟩
theorem eX1_doRelease_0 : zD cX1_doRelease 0 (.aload_n 0) 1 1 := ⟨by decide +kernel, rfl⟩
theorem eX1_doRelease_1 : zD cX1_doRelease 1 (.getfield 45) 3 4 := ⟨by decide +kernel, rfl⟩
theorem eX1_doRelease_4 : zD cX1_doRelease 4 (.iload_n 1) 1 5 := ⟨by decide +kernel, rfl⟩
theorem eX1_doRelease_5 : zD cX1_doRelease 5 (.dup2) 1 6 := ⟨by decide +kernel, rfl⟩
theorem eX1_doRelease_6 : zD cX1_doRelease 6 (.iaload) 1 7 := ⟨by decide +kernel, rfl⟩
theorem eX1_doRelease_7 : zD cX1_doRelease 7 (.iconst 1) 1 8 := ⟨by decide +kernel, rfl⟩
theorem eX1_doRelease_8 : zD cX1_doRelease 8 (.iadd) 1 9 := ⟨by decide +kernel, rfl⟩
theorem eX1_doRelease_9 : zD cX1_doRelease 9 (.iastore) 1 10 := ⟨by decide +kernel, rfl⟩
theorem eX1_doRelease_10 : zD cX1_doRelease 10 (.aload_n 0) 1 11 := ⟨by decide +kernel, rfl⟩
theorem eX1_doRelease_11 : zD cX1_doRelease 11 (.iload_n 1) 1 12 := ⟨by decide +kernel, rfl⟩
theorem eX1_doRelease_12 : zD cX1_doRelease 12 (.iconst 4) 1 13 := ⟨by decide +kernel, rfl⟩
theorem eX1_doRelease_13 : zD cX1_doRelease 13 (.iload_n 2) 1 14 := ⟨by decide +kernel, rfl⟩
theorem eX1_doRelease_14 : zD cX1_doRelease 14 (.i2l) 1 15 := ⟨by decide +kernel, rfl⟩
theorem eX1_doRelease_15 : zD cX1_doRelease 15 (.invokevirtual 85) 3 18 := ⟨by decide +kernel, rfl⟩
theorem eX1_doRelease_18 : zD cX1_doRelease 18 (.return_) 1 19 := ⟨by decide +kernel, rfl⟩
theorem eX1_refusalOfLoan_0 : zD cX1_refusalOfLoan 0 (.aload_n 0) 1 1 := ⟨by decide +kernel, rfl⟩
theorem eX1_refusalOfLoan_1 : zD cX1_refusalOfLoan 1 (.iload_n 1) 1 2 := ⟨by decide +kernel, rfl⟩
theorem eX1_refusalOfLoan_2 : zD cX1_refusalOfLoan 2 (.invokevirtual 96) 3 5 := ⟨by decide +kernel, rfl⟩
theorem eX1_refusalOfLoan_5 : zJ cX1_refusalOfLoan 5 (.ifCond .eq (5)) (5) 10 3 8 := ⟨by decide +kernel, rfl, by decide⟩
theorem eX1_refusalOfLoan_8 : zD cX1_refusalOfLoan 8 (.iconst 2) 1 9 := ⟨by decide +kernel, rfl⟩
theorem eX1_refusalOfLoan_9 : zD cX1_refusalOfLoan 9 (.ireturn) 1 10 := ⟨by decide +kernel, rfl⟩
theorem eX1_refusalOfLoan_10 : zD cX1_refusalOfLoan 10 (.aload_n 0) 1 11 := ⟨by decide +kernel, rfl⟩
theorem eX1_refusalOfLoan_11 : zD cX1_refusalOfLoan 11 (.iload_n 1) 1 12 := ⟨by decide +kernel, rfl⟩
theorem eX1_refusalOfLoan_12 : zD cX1_refusalOfLoan 12 (.bipush 8) 2 14 := ⟨by decide +kernel, rfl⟩
theorem eX1_refusalOfLoan_14 : zD cX1_refusalOfLoan 14 (.invokevirtual 92) 3 17 := ⟨by decide +kernel, rfl⟩
theorem eX1_refusalOfLoan_17 : zD cX1_refusalOfLoan 17 (.iload_n 3) 1 18 := ⟨by decide +kernel, rfl⟩
theorem eX1_refusalOfLoan_18 : zD cX1_refusalOfLoan 18 (.i2l) 1 19 := ⟨by decide +kernel, rfl⟩
theorem eX1_refusalOfLoan_19 : zD cX1_refusalOfLoan 19 (.lsub) 1 20 := ⟨by decide +kernel, rfl⟩
theorem eX1_refusalOfLoan_20 : zD cX1_refusalOfLoan 20 (.aload_n 0) 1 21 := ⟨by decide +kernel, rfl⟩
theorem eX1_refusalOfLoan_21 : zD cX1_refusalOfLoan 21 (.iload_n 1) 1 22 := ⟨by decide +kernel, rfl⟩
theorem eX1_refusalOfLoan_22 : zD cX1_refusalOfLoan 22 (.invokevirtual 100) 3 25 := ⟨by decide +kernel, rfl⟩
theorem eX1_refusalOfLoan_25 : zD cX1_refusalOfLoan 25 (.i2l) 1 26 := ⟨by decide +kernel, rfl⟩
theorem eX1_refusalOfLoan_26 : zD cX1_refusalOfLoan 26 (.lcmp) 1 27 := ⟨by decide +kernel, rfl⟩
theorem eX1_refusalOfLoan_27 : zJ cX1_refusalOfLoan 27 (.ifCond .gt (5)) (5) 32 3 30 := ⟨by decide +kernel, rfl, by decide⟩
theorem eX1_refusalOfLoan_30 : zD cX1_refusalOfLoan 30 (.iconst 3) 1 31 := ⟨by decide +kernel, rfl⟩
theorem eX1_refusalOfLoan_31 : zD cX1_refusalOfLoan 31 (.ireturn) 1 32 := ⟨by decide +kernel, rfl⟩
theorem eX1_refusalOfLoan_32 : zD cX1_refusalOfLoan 32 (.aload_n 0) 1 33 := ⟨by decide +kernel, rfl⟩
theorem eX1_refusalOfLoan_33 : zD cX1_refusalOfLoan 33 (.getfield 61) 3 36 := ⟨by decide +kernel, rfl⟩
theorem eX1_refusalOfLoan_36 : zD cX1_refusalOfLoan 36 (.aload_n 0) 1 37 := ⟨by decide +kernel, rfl⟩
theorem eX1_refusalOfLoan_37 : zD cX1_refusalOfLoan 37 (.getfield 61) 3 40 := ⟨by decide +kernel, rfl⟩
theorem eX1_refusalOfLoan_40 : zD cX1_refusalOfLoan 40 (.getfield 104) 3 43 := ⟨by decide +kernel, rfl⟩
theorem eX1_refusalOfLoan_43 : zD cX1_refusalOfLoan 43 (.iload_n 2) 1 44 := ⟨by decide +kernel, rfl⟩
theorem eX1_refusalOfLoan_44 : zD cX1_refusalOfLoan 44 (.invokevirtual 107) 3 47 := ⟨by decide +kernel, rfl⟩
theorem eX1_refusalOfLoan_47 : zD cX1_refusalOfLoan 47 (.aload_n 0) 1 48 := ⟨by decide +kernel, rfl⟩
theorem eX1_refusalOfLoan_48 : zD cX1_refusalOfLoan 48 (.getfield 18) 3 51 := ⟨by decide +kernel, rfl⟩
theorem eX1_refusalOfLoan_51 : zD cX1_refusalOfLoan 51 (.bipush 6) 2 53 := ⟨by decide +kernel, rfl⟩
theorem eX1_refusalOfLoan_53 : zD cX1_refusalOfLoan 53 (.iaload) 1 54 := ⟨by decide +kernel, rfl⟩
theorem eX1_refusalOfLoan_54 : zJ cX1_refusalOfLoan 54 (.if_icmp .lt (7)) (7) 61 3 57 := ⟨by decide +kernel, rfl, by decide⟩
theorem eX1_refusalOfLoan_57 : zD cX1_refusalOfLoan 57 (.iconst 4) 1 58 := ⟨by decide +kernel, rfl⟩
theorem eX1_refusalOfLoan_58 : zJ cX1_refusalOfLoan 58 (.goto (4)) (4) 62 3 61 := ⟨by decide +kernel, rfl, by decide⟩
theorem eX1_refusalOfLoan_61 : zD cX1_refusalOfLoan 61 (.iconst 0) 1 62 := ⟨by decide +kernel, rfl⟩
theorem eX1_refusalOfLoan_62 : zD cX1_refusalOfLoan 62 (.ireturn) 1 63 := ⟨by decide +kernel, rfl⟩
theorem eX1_addLoan_0 : zD cX1_addLoan 0 (.aload_n 0) 1 1 := ⟨by decide +kernel, rfl⟩
theorem eX1_addLoan_1 : zD cX1_addLoan 1 (.iload_n 1) 1 2 := ⟨by decide +kernel, rfl⟩
theorem eX1_addLoan_2 : zD cX1_addLoan 2 (.iconst 5) 1 3 := ⟨by decide +kernel, rfl⟩
theorem eX1_addLoan_3 : zD cX1_addLoan 3 (.iload_n 3) 1 4 := ⟨by decide +kernel, rfl⟩
theorem eX1_addLoan_4 : zD cX1_addLoan 4 (.i2l) 1 5 := ⟨by decide +kernel, rfl⟩
theorem eX1_addLoan_5 : zD cX1_addLoan 5 (.invokevirtual 85) 3 8 := ⟨by decide +kernel, rfl⟩
theorem eX1_addLoan_8 : zD cX1_addLoan 8 (.aload_n 0) 1 9 := ⟨by decide +kernel, rfl⟩
theorem eX1_addLoan_9 : zD cX1_addLoan 9 (.iload_n 2) 1 10 := ⟨by decide +kernel, rfl⟩
theorem eX1_addLoan_10 : zD cX1_addLoan 10 (.iconst 1) 1 11 := ⟨by decide +kernel, rfl⟩
theorem eX1_addLoan_11 : zD cX1_addLoan 11 (.iload_n 3) 1 12 := ⟨by decide +kernel, rfl⟩
theorem eX1_addLoan_12 : zD cX1_addLoan 12 (.i2l) 1 13 := ⟨by decide +kernel, rfl⟩
theorem eX1_addLoan_13 : zD cX1_addLoan 13 (.invokevirtual 85) 3 16 := ⟨by decide +kernel, rfl⟩
theorem eX1_addLoan_16 : zD cX1_addLoan 16 (.iload_n 3) 1 17 := ⟨by decide +kernel, rfl⟩
theorem eX1_addLoan_17 : zD cX1_addLoan 17 (.iload_n 3) 1 18 := ⟨by decide +kernel, rfl⟩
theorem eX1_addLoan_18 : zD cX1_addLoan 18 (.aload_n 0) 1 19 := ⟨by decide +kernel, rfl⟩
theorem eX1_addLoan_19 : zD cX1_addLoan 19 (.getfield 18) 3 22 := ⟨by decide +kernel, rfl⟩
theorem eX1_addLoan_22 : zD cX1_addLoan 22 (.iconst 2) 1 23 := ⟨by decide +kernel, rfl⟩
theorem eX1_addLoan_23 : zD cX1_addLoan 23 (.iaload) 1 24 := ⟨by decide +kernel, rfl⟩
theorem eX1_addLoan_24 : zD cX1_addLoan 24 (.imul) 1 25 := ⟨by decide +kernel, rfl⟩
theorem eX1_addLoan_25 : zD cX1_addLoan 25 (.bipush 100) 2 27 := ⟨by decide +kernel, rfl⟩
theorem eX1_addLoan_27 : zD cX1_addLoan 27 (.idiv) 1 28 := ⟨by decide +kernel, rfl⟩
theorem eX1_addLoan_28 : zD cX1_addLoan 28 (.iadd) 1 29 := ⟨by decide +kernel, rfl⟩
theorem eX1_addLoan_29 : zD cX1_addLoan 29 (.istore 5) 2 31 := ⟨by decide +kernel, rfl⟩
theorem eX1_addLoan_31 : zD cX1_addLoan 31 (.aload_n 0) 1 32 := ⟨by decide +kernel, rfl⟩
theorem eX1_addLoan_32 : zD cX1_addLoan 32 (.getfield 61) 3 35 := ⟨by decide +kernel, rfl⟩
theorem eX1_addLoan_35 : zD cX1_addLoan 35 (.iload_n 1) 1 36 := ⟨by decide +kernel, rfl⟩
theorem eX1_addLoan_36 : zD cX1_addLoan 36 (.iload_n 2) 1 37 := ⟨by decide +kernel, rfl⟩
theorem eX1_addLoan_37 : zD cX1_addLoan 37 (.iload_n 3) 1 38 := ⟨by decide +kernel, rfl⟩
theorem eX1_addLoan_38 : zD cX1_addLoan 38 (.iload 5) 2 40 := ⟨by decide +kernel, rfl⟩
theorem eX1_addLoan_40 : zD cX1_addLoan 40 (.aload_n 0) 1 41 := ⟨by decide +kernel, rfl⟩
theorem eX1_addLoan_41 : zD cX1_addLoan 41 (.getfield 27) 3 44 := ⟨by decide +kernel, rfl⟩
theorem eX1_addLoan_44 : zD cX1_addLoan 44 (.iload 4) 2 46 := ⟨by decide +kernel, rfl⟩
theorem eX1_addLoan_46 : zD cX1_addLoan 46 (.iadd) 1 47 := ⟨by decide +kernel, rfl⟩
theorem eX1_addLoan_47 : zD cX1_addLoan 47 (.invokevirtual 111) 3 50 := ⟨by decide +kernel, rfl⟩
theorem eX1_addLoan_50 : zD cX1_addLoan 50 (.ireturn) 1 51 := ⟨by decide +kernel, rfl⟩
theorem eX1_payBack_0 : zD cX1_payBack 0 (.aload_n 0) 1 1 := ⟨by decide +kernel, rfl⟩
theorem eX1_payBack_1 : zD cX1_payBack 1 (.getfield 61) 3 4 := ⟨by decide +kernel, rfl⟩
theorem eX1_payBack_4 : zD cX1_payBack 4 (.getfield 104) 3 7 := ⟨by decide +kernel, rfl⟩
theorem eX1_payBack_7 : zD cX1_payBack 7 (.iload_n 1) 1 8 := ⟨by decide +kernel, rfl⟩
theorem eX1_payBack_8 : zD cX1_payBack 8 (.iaload) 1 9 := ⟨by decide +kernel, rfl⟩
theorem eX1_payBack_9 : zD cX1_payBack 9 (.istore_n 2) 1 10 := ⟨by decide +kernel, rfl⟩
theorem eX1_payBack_10 : zD cX1_payBack 10 (.aload_n 0) 1 11 := ⟨by decide +kernel, rfl⟩
theorem eX1_payBack_11 : zD cX1_payBack 11 (.getfield 61) 3 14 := ⟨by decide +kernel, rfl⟩
theorem eX1_payBack_14 : zD cX1_payBack 14 (.getfield 115) 3 17 := ⟨by decide +kernel, rfl⟩
theorem eX1_payBack_17 : zD cX1_payBack 17 (.iload_n 1) 1 18 := ⟨by decide +kernel, rfl⟩
theorem eX1_payBack_18 : zD cX1_payBack 18 (.iaload) 1 19 := ⟨by decide +kernel, rfl⟩
theorem eX1_payBack_19 : zD cX1_payBack 19 (.i2l) 1 20 := ⟨by decide +kernel, rfl⟩
theorem eX1_payBack_20 : zD cX1_payBack 20 (.aload_n 0) 1 21 := ⟨by decide +kernel, rfl⟩
theorem eX1_payBack_21 : zD cX1_payBack 21 (.iload_n 2) 1 22 := ⟨by decide +kernel, rfl⟩
theorem eX1_payBack_22 : zD cX1_payBack 22 (.bipush 8) 2 24 := ⟨by decide +kernel, rfl⟩
theorem eX1_payBack_24 : zD cX1_payBack 24 (.invokevirtual 92) 3 27 := ⟨by decide +kernel, rfl⟩
theorem eX1_payBack_27 : zD cX1_payBack 27 (.invokestatic 118) 3 30 := ⟨by decide +kernel, rfl⟩
theorem eX1_payBack_30 : zD cX1_payBack 30 (.lstore_n 3) 1 31 := ⟨by decide +kernel, rfl⟩
theorem eX1_payBack_31 : zD cX1_payBack 31 (.lload_n 3) 1 32 := ⟨by decide +kernel, rfl⟩
theorem eX1_payBack_32 : zD cX1_payBack 32 (.lconst 0) 1 33 := ⟨by decide +kernel, rfl⟩
theorem eX1_payBack_33 : zD cX1_payBack 33 (.lcmp) 1 34 := ⟨by decide +kernel, rfl⟩
theorem eX1_payBack_34 : zJ cX1_payBack 34 (.ifCond .gt (4)) (4) 38 3 37 := ⟨by decide +kernel, rfl, by decide⟩
theorem eX1_payBack_37 : zD cX1_payBack 37 (.return_) 1 38 := ⟨by decide +kernel, rfl⟩
theorem eX1_payBack_38 : zD cX1_payBack 38 (.aload_n 0) 1 39 := ⟨by decide +kernel, rfl⟩
theorem eX1_payBack_39 : zD cX1_payBack 39 (.getfield 61) 3 42 := ⟨by decide +kernel, rfl⟩
theorem eX1_payBack_42 : zD cX1_payBack 42 (.getfield 115) 3 45 := ⟨by decide +kernel, rfl⟩
theorem eX1_payBack_45 : zD cX1_payBack 45 (.iload_n 1) 1 46 := ⟨by decide +kernel, rfl⟩
theorem eX1_payBack_46 : zD cX1_payBack 46 (.dup2) 1 47 := ⟨by decide +kernel, rfl⟩
theorem eX1_payBack_47 : zD cX1_payBack 47 (.iaload) 1 48 := ⟨by decide +kernel, rfl⟩
theorem eX1_payBack_48 : zD cX1_payBack 48 (.lload_n 3) 1 49 := ⟨by decide +kernel, rfl⟩
theorem eX1_payBack_49 : zD cX1_payBack 49 (.l2i) 1 50 := ⟨by decide +kernel, rfl⟩
theorem eX1_payBack_50 : zD cX1_payBack 50 (.isub) 1 51 := ⟨by decide +kernel, rfl⟩
theorem eX1_payBack_51 : zD cX1_payBack 51 (.iastore) 1 52 := ⟨by decide +kernel, rfl⟩
theorem eX1_payBack_52 : zD cX1_payBack 52 (.aload_n 0) 1 53 := ⟨by decide +kernel, rfl⟩
theorem eX1_payBack_53 : zD cX1_payBack 53 (.iload_n 2) 1 54 := ⟨by decide +kernel, rfl⟩
theorem eX1_payBack_54 : zD cX1_payBack 54 (.bipush 6) 2 56 := ⟨by decide +kernel, rfl⟩
theorem eX1_payBack_56 : zD cX1_payBack 56 (.lload_n 3) 1 57 := ⟨by decide +kernel, rfl⟩
theorem eX1_payBack_57 : zD cX1_payBack 57 (.invokevirtual 85) 3 60 := ⟨by decide +kernel, rfl⟩
theorem eX1_payBack_60 : zD cX1_payBack 60 (.aload_n 0) 1 61 := ⟨by decide +kernel, rfl⟩
theorem eX1_payBack_61 : zD cX1_payBack 61 (.aload_n 0) 1 62 := ⟨by decide +kernel, rfl⟩
theorem eX1_payBack_62 : zD cX1_payBack 62 (.getfield 61) 3 65 := ⟨by decide +kernel, rfl⟩
theorem eX1_payBack_65 : zD cX1_payBack 65 (.getfield 124) 3 68 := ⟨by decide +kernel, rfl⟩
theorem eX1_payBack_68 : zD cX1_payBack 68 (.iload_n 1) 1 69 := ⟨by decide +kernel, rfl⟩
theorem eX1_payBack_69 : zD cX1_payBack 69 (.iaload) 1 70 := ⟨by decide +kernel, rfl⟩
theorem eX1_payBack_70 : zD cX1_payBack 70 (.iconst 2) 1 71 := ⟨by decide +kernel, rfl⟩
theorem eX1_payBack_71 : zD cX1_payBack 71 (.lload_n 3) 1 72 := ⟨by decide +kernel, rfl⟩
theorem eX1_payBack_72 : zD cX1_payBack 72 (.invokevirtual 85) 3 75 := ⟨by decide +kernel, rfl⟩
theorem eX1_payBack_75 : zD cX1_payBack 75 (.return_) 1 76 := ⟨by decide +kernel, rfl⟩
theorem eX1_letPass_0 : zD cX1_letPass 0 (.iload_n 1) 1 1 := ⟨by decide +kernel, rfl⟩
theorem eX1_letPass_1 : zD cX1_letPass 1 (.iconst 1) 1 2 := ⟨by decide +kernel, rfl⟩
theorem eX1_letPass_2 : zD cX1_letPass 2 (.sipush 1000) 3 5 := ⟨by decide +kernel, rfl⟩
theorem eX1_letPass_5 : zD cX1_letPass 5 (.invokestatic 127) 3 8 := ⟨by decide +kernel, rfl⟩
theorem eX1_letPass_8 : zJ cX1_letPass 8 (.ifCond .ne (6)) (6) 14 3 11 := ⟨by decide +kernel, rfl, by decide⟩
theorem eX1_letPass_11 : zD cX1_letPass 11 (.bipush (-2)) 2 13 := ⟨by decide +kernel, rfl⟩
theorem eX1_letPass_13 : zD cX1_letPass 13 (.ireturn) 1 14 := ⟨by decide +kernel, rfl⟩
theorem eX1_letPass_14 : zD cX1_letPass 14 (.iconst 0) 1 15 := ⟨by decide +kernel, rfl⟩
theorem eX1_letPass_15 : zD cX1_letPass 15 (.istore_n 2) 1 16 := ⟨by decide +kernel, rfl⟩
theorem eX1_letPass_16 : zD cX1_letPass 16 (.iload_n 2) 1 17 := ⟨by decide +kernel, rfl⟩
theorem eX1_letPass_17 : zD cX1_letPass 17 (.iload_n 1) 1 18 := ⟨by decide +kernel, rfl⟩
theorem eX1_letPass_18 : zJ cX1_letPass 18 (.if_icmp .ge (49)) (49) 67 3 21 := ⟨by decide +kernel, rfl, by decide⟩
theorem eX1_letPass_21 : zD cX1_letPass 21 (.aload_n 0) 1 22 := ⟨by decide +kernel, rfl⟩
theorem eX1_letPass_22 : zD cX1_letPass 22 (.dup) 1 23 := ⟨by decide +kernel, rfl⟩
theorem eX1_letPass_23 : zD cX1_letPass 23 (.getfield 23) 3 26 := ⟨by decide +kernel, rfl⟩
theorem eX1_letPass_26 : zD cX1_letPass 26 (.iconst 1) 1 27 := ⟨by decide +kernel, rfl⟩
theorem eX1_letPass_27 : zD cX1_letPass 27 (.iadd) 1 28 := ⟨by decide +kernel, rfl⟩
theorem eX1_letPass_28 : zD cX1_letPass 28 (.putfield 23) 3 31 := ⟨by decide +kernel, rfl⟩
theorem eX1_letPass_31 : zD cX1_letPass 31 (.aload_n 0) 1 32 := ⟨by decide +kernel, rfl⟩
theorem eX1_letPass_32 : zD cX1_letPass 32 (.getfield 23) 3 35 := ⟨by decide +kernel, rfl⟩
theorem eX1_letPass_35 : zD cX1_letPass 35 (.aload_n 0) 1 36 := ⟨by decide +kernel, rfl⟩
theorem eX1_letPass_36 : zD cX1_letPass 36 (.getfield 30) 3 39 := ⟨by decide +kernel, rfl⟩
theorem eX1_letPass_39 : zD cX1_letPass 39 (.isub) 1 40 := ⟨by decide +kernel, rfl⟩
theorem eX1_letPass_40 : zD cX1_letPass 40 (.aload_n 0) 1 41 := ⟨by decide +kernel, rfl⟩
theorem eX1_letPass_41 : zD cX1_letPass 41 (.getfield 18) 3 44 := ⟨by decide +kernel, rfl⟩
theorem eX1_letPass_44 : zD cX1_letPass 44 (.iconst 0) 1 45 := ⟨by decide +kernel, rfl⟩
theorem eX1_letPass_45 : zD cX1_letPass 45 (.iaload) 1 46 := ⟨by decide +kernel, rfl⟩
theorem eX1_letPass_46 : zJ cX1_letPass 46 (.if_icmp .lt (11)) (11) 57 3 49 := ⟨by decide +kernel, rfl, by decide⟩
theorem eX1_letPass_49 : zD cX1_letPass 49 (.aload_n 0) 1 50 := ⟨by decide +kernel, rfl⟩
theorem eX1_letPass_50 : zD cX1_letPass 50 (.invokevirtual 131) 3 53 := ⟨by decide +kernel, rfl⟩
theorem eX1_letPass_53 : zD cX1_letPass 53 (.aload_n 0) 1 54 := ⟨by decide +kernel, rfl⟩
theorem eX1_letPass_54 : zD cX1_letPass 54 (.invokevirtual 134) 3 57 := ⟨by decide +kernel, rfl⟩
theorem eX1_letPass_57 : zD cX1_letPass 57 (.aload_n 0) 1 58 := ⟨by decide +kernel, rfl⟩
theorem eX1_letPass_58 : zD cX1_letPass 58 (.invokevirtual 137) 3 61 := ⟨by decide +kernel, rfl⟩
theorem eX1_letPass_61 : zD cX1_letPass 61 (.iinc 2 1) 3 64 := ⟨by decide +kernel, rfl⟩
theorem eX1_letPass_64 : zJ cX1_letPass 64 (.goto (-48)) (-48) 16 3 67 := ⟨by decide +kernel, rfl, by decide⟩
theorem eX1_letPass_67 : zD cX1_letPass 67 (.aload_n 0) 1 68 := ⟨by decide +kernel, rfl⟩
theorem eX1_letPass_68 : zD cX1_letPass 68 (.getfield 23) 3 71 := ⟨by decide +kernel, rfl⟩
theorem eX1_letPass_71 : zD cX1_letPass 71 (.ireturn) 1 72 := ⟨by decide +kernel, rfl⟩
theorem eX1_beginWindow_0 : zD cX1_beginWindow 0 (.aload_n 0) 1 1 := ⟨by decide +kernel, rfl⟩
theorem eX1_beginWindow_1 : zD cX1_beginWindow 1 (.dup) 1 2 := ⟨by decide +kernel, rfl⟩
theorem eX1_beginWindow_2 : zD cX1_beginWindow 2 (.getfield 27) 3 5 := ⟨by decide +kernel, rfl⟩
theorem eX1_beginWindow_5 : zD cX1_beginWindow 5 (.iconst 1) 1 6 := ⟨by decide +kernel, rfl⟩
theorem eX1_beginWindow_6 : zD cX1_beginWindow 6 (.iadd) 1 7 := ⟨by decide +kernel, rfl⟩
theorem eX1_beginWindow_7 : zD cX1_beginWindow 7 (.putfield 27) 3 10 := ⟨by decide +kernel, rfl⟩
theorem eX1_beginWindow_10 : zD cX1_beginWindow 10 (.aload_n 0) 1 11 := ⟨by decide +kernel, rfl⟩
theorem eX1_beginWindow_11 : zD cX1_beginWindow 11 (.aload_n 0) 1 12 := ⟨by decide +kernel, rfl⟩
theorem eX1_beginWindow_12 : zD cX1_beginWindow 12 (.getfield 23) 3 15 := ⟨by decide +kernel, rfl⟩
theorem eX1_beginWindow_15 : zD cX1_beginWindow 15 (.putfield 30) 3 18 := ⟨by decide +kernel, rfl⟩
theorem eX1_beginWindow_18 : zD cX1_beginWindow 18 (.iconst 0) 1 19 := ⟨by decide +kernel, rfl⟩
theorem eX1_beginWindow_19 : zD cX1_beginWindow 19 (.istore_n 1) 1 20 := ⟨by decide +kernel, rfl⟩
theorem eX1_beginWindow_20 : zD cX1_beginWindow 20 (.iload_n 1) 1 21 := ⟨by decide +kernel, rfl⟩
theorem eX1_beginWindow_21 : zD cX1_beginWindow 21 (.aload_n 0) 1 22 := ⟨by decide +kernel, rfl⟩
theorem eX1_beginWindow_22 : zD cX1_beginWindow 22 (.getfield 33) 3 25 := ⟨by decide +kernel, rfl⟩
theorem eX1_beginWindow_25 : zJ cX1_beginWindow 25 (.if_icmp .ge (83)) (83) 108 3 28 := ⟨by decide +kernel, rfl, by decide⟩
theorem eX1_beginWindow_28 : zD cX1_beginWindow 28 (.lconst 0) 1 29 := ⟨by decide +kernel, rfl⟩
theorem eX1_beginWindow_29 : zD cX1_beginWindow 29 (.aload_n 0) 1 30 := ⟨by decide +kernel, rfl⟩
theorem eX1_beginWindow_30 : zD cX1_beginWindow 30 (.iload_n 1) 1 31 := ⟨by decide +kernel, rfl⟩
theorem eX1_beginWindow_31 : zD cX1_beginWindow 31 (.bipush 8) 2 33 := ⟨by decide +kernel, rfl⟩
theorem eX1_beginWindow_33 : zD cX1_beginWindow 33 (.invokevirtual 92) 3 36 := ⟨by decide +kernel, rfl⟩
theorem eX1_beginWindow_36 : zD cX1_beginWindow 36 (.invokestatic 140) 3 39 := ⟨by decide +kernel, rfl⟩
theorem eX1_beginWindow_39 : zD cX1_beginWindow 39 (.lstore_n 2) 1 40 := ⟨by decide +kernel, rfl⟩
theorem eX1_beginWindow_40 : zD cX1_beginWindow 40 (.lload_n 2) 1 41 := ⟨by decide +kernel, rfl⟩
theorem eX1_beginWindow_41 : zD cX1_beginWindow 41 (.aload_n 0) 1 42 := ⟨by decide +kernel, rfl⟩
theorem eX1_beginWindow_42 : zD cX1_beginWindow 42 (.getfield 39) 3 45 := ⟨by decide +kernel, rfl⟩
theorem eX1_beginWindow_45 : zD cX1_beginWindow 45 (.iload_n 1) 1 46 := ⟨by decide +kernel, rfl⟩
theorem eX1_beginWindow_46 : zD cX1_beginWindow 46 (.iaload) 1 47 := ⟨by decide +kernel, rfl⟩
theorem eX1_beginWindow_47 : zD cX1_beginWindow 47 (.i2l) 1 48 := ⟨by decide +kernel, rfl⟩
theorem eX1_beginWindow_48 : zD cX1_beginWindow 48 (.invokestatic 118) 3 51 := ⟨by decide +kernel, rfl⟩
theorem eX1_beginWindow_51 : zD cX1_beginWindow 51 (.aload_n 0) 1 52 := ⟨by decide +kernel, rfl⟩
theorem eX1_beginWindow_52 : zD cX1_beginWindow 52 (.getfield 18) 3 55 := ⟨by decide +kernel, rfl⟩
theorem eX1_beginWindow_55 : zD cX1_beginWindow 55 (.iconst 1) 1 56 := ⟨by decide +kernel, rfl⟩
theorem eX1_beginWindow_56 : zD cX1_beginWindow 56 (.iaload) 1 57 := ⟨by decide +kernel, rfl⟩
theorem eX1_beginWindow_57 : zD cX1_beginWindow 57 (.i2l) 1 58 := ⟨by decide +kernel, rfl⟩
theorem eX1_beginWindow_58 : zD cX1_beginWindow 58 (.lmul) 1 59 := ⟨by decide +kernel, rfl⟩
theorem eX1_beginWindow_59 : zD cX1_beginWindow 59 (.ldc2_w 143) 3 62 := ⟨by decide +kernel, rfl⟩
theorem eX1_beginWindow_62 : zD cX1_beginWindow 62 (.ldiv) 1 63 := ⟨by decide +kernel, rfl⟩
theorem eX1_beginWindow_63 : zD cX1_beginWindow 63 (.lstore 4) 2 65 := ⟨by decide +kernel, rfl⟩
theorem eX1_beginWindow_65 : zD cX1_beginWindow 65 (.aload_n 0) 1 66 := ⟨by decide +kernel, rfl⟩
theorem eX1_beginWindow_66 : zD cX1_beginWindow 66 (.iload_n 1) 1 67 := ⟨by decide +kernel, rfl⟩
theorem eX1_beginWindow_67 : zD cX1_beginWindow 67 (.bipush 7) 2 69 := ⟨by decide +kernel, rfl⟩
theorem eX1_beginWindow_69 : zD cX1_beginWindow 69 (.lload_n 2) 1 70 := ⟨by decide +kernel, rfl⟩
theorem eX1_beginWindow_70 : zD cX1_beginWindow 70 (.lload 4) 2 72 := ⟨by decide +kernel, rfl⟩
theorem eX1_beginWindow_72 : zD cX1_beginWindow 72 (.lsub) 1 73 := ⟨by decide +kernel, rfl⟩
theorem eX1_beginWindow_73 : zD cX1_beginWindow 73 (.invokevirtual 89) 3 76 := ⟨by decide +kernel, rfl⟩
theorem eX1_beginWindow_76 : zD cX1_beginWindow 76 (.aload_n 0) 1 77 := ⟨by decide +kernel, rfl⟩
theorem eX1_beginWindow_77 : zD cX1_beginWindow 77 (.iload_n 1) 1 78 := ⟨by decide +kernel, rfl⟩
theorem eX1_beginWindow_78 : zD cX1_beginWindow 78 (.iconst 0) 1 79 := ⟨by decide +kernel, rfl⟩
theorem eX1_beginWindow_79 : zD cX1_beginWindow 79 (.aload_n 0) 1 80 := ⟨by decide +kernel, rfl⟩
theorem eX1_beginWindow_80 : zD cX1_beginWindow 80 (.getfield 39) 3 83 := ⟨by decide +kernel, rfl⟩
theorem eX1_beginWindow_83 : zD cX1_beginWindow 83 (.iload_n 1) 1 84 := ⟨by decide +kernel, rfl⟩
theorem eX1_beginWindow_84 : zD cX1_beginWindow 84 (.iaload) 1 85 := ⟨by decide +kernel, rfl⟩
theorem eX1_beginWindow_85 : zD cX1_beginWindow 85 (.i2l) 1 86 := ⟨by decide +kernel, rfl⟩
theorem eX1_beginWindow_86 : zD cX1_beginWindow 86 (.invokevirtual 85) 3 89 := ⟨by decide +kernel, rfl⟩
theorem eX1_beginWindow_89 : zD cX1_beginWindow 89 (.aload_n 0) 1 90 := ⟨by decide +kernel, rfl⟩
theorem eX1_beginWindow_90 : zD cX1_beginWindow 90 (.getfield 42) 3 93 := ⟨by decide +kernel, rfl⟩
theorem eX1_beginWindow_93 : zD cX1_beginWindow 93 (.iload_n 1) 1 94 := ⟨by decide +kernel, rfl⟩
theorem eX1_beginWindow_94 : zD cX1_beginWindow 94 (.aload_n 0) 1 95 := ⟨by decide +kernel, rfl⟩
theorem eX1_beginWindow_95 : zD cX1_beginWindow 95 (.getfield 18) 3 98 := ⟨by decide +kernel, rfl⟩
theorem eX1_beginWindow_98 : zD cX1_beginWindow 98 (.bipush 7) 2 100 := ⟨by decide +kernel, rfl⟩
theorem eX1_beginWindow_100 : zD cX1_beginWindow 100 (.iaload) 1 101 := ⟨by decide +kernel, rfl⟩
theorem eX1_beginWindow_101 : zD cX1_beginWindow 101 (.iastore) 1 102 := ⟨by decide +kernel, rfl⟩
theorem eX1_beginWindow_102 : zD cX1_beginWindow 102 (.iinc 1 1) 3 105 := ⟨by decide +kernel, rfl⟩
theorem eX1_beginWindow_105 : zJ cX1_beginWindow 105 (.goto (-85)) (-85) 20 3 108 := ⟨by decide +kernel, rfl, by decide⟩
theorem eX1_beginWindow_108 : zD cX1_beginWindow 108 (.return_) 1 109 := ⟨by decide +kernel, rfl⟩
theorem eX1_payDueLoans_0 : zD cX1_payDueLoans 0 (.iconst 0) 1 1 := ⟨by decide +kernel, rfl⟩
theorem eX1_payDueLoans_1 : zD cX1_payDueLoans 1 (.istore_n 1) 1 2 := ⟨by decide +kernel, rfl⟩
theorem eX1_payDueLoans_2 : zD cX1_payDueLoans 2 (.iload_n 1) 1 3 := ⟨by decide +kernel, rfl⟩
theorem eX1_payDueLoans_3 : zD cX1_payDueLoans 3 (.aload_n 0) 1 4 := ⟨by decide +kernel, rfl⟩
theorem eX1_payDueLoans_4 : zD cX1_payDueLoans 4 (.getfield 61) 3 7 := ⟨by decide +kernel, rfl⟩
theorem eX1_payDueLoans_7 : zD cX1_payDueLoans 7 (.getfield 145) 3 10 := ⟨by decide +kernel, rfl⟩
theorem eX1_payDueLoans_10 : zJ cX1_payDueLoans 10 (.if_icmp .ge (82)) (82) 92 3 13 := ⟨by decide +kernel, rfl, by decide⟩
theorem eX1_payDueLoans_13 : zD cX1_payDueLoans 13 (.aload_n 0) 1 14 := ⟨by decide +kernel, rfl⟩
theorem eX1_payDueLoans_14 : zD cX1_payDueLoans 14 (.getfield 61) 3 17 := ⟨by decide +kernel, rfl⟩
theorem eX1_payDueLoans_17 : zD cX1_payDueLoans 17 (.getfield 148) 3 20 := ⟨by decide +kernel, rfl⟩
theorem eX1_payDueLoans_20 : zD cX1_payDueLoans 20 (.iload_n 1) 1 21 := ⟨by decide +kernel, rfl⟩
theorem eX1_payDueLoans_21 : zD cX1_payDueLoans 21 (.iaload) 1 22 := ⟨by decide +kernel, rfl⟩
theorem eX1_payDueLoans_22 : zD cX1_payDueLoans 22 (.aload_n 0) 1 23 := ⟨by decide +kernel, rfl⟩
theorem eX1_payDueLoans_23 : zD cX1_payDueLoans 23 (.getfield 27) 3 26 := ⟨by decide +kernel, rfl⟩
theorem eX1_payDueLoans_26 : zJ cX1_payDueLoans 26 (.if_icmp .gt (60)) (60) 86 3 29 := ⟨by decide +kernel, rfl, by decide⟩
theorem eX1_payDueLoans_29 : zD cX1_payDueLoans 29 (.aload_n 0) 1 30 := ⟨by decide +kernel, rfl⟩
theorem eX1_payDueLoans_30 : zD cX1_payDueLoans 30 (.iload_n 1) 1 31 := ⟨by decide +kernel, rfl⟩
theorem eX1_payDueLoans_31 : zD cX1_payDueLoans 31 (.invokevirtual 151) 3 34 := ⟨by decide +kernel, rfl⟩
theorem eX1_payDueLoans_34 : zD cX1_payDueLoans 34 (.aload_n 0) 1 35 := ⟨by decide +kernel, rfl⟩
theorem eX1_payDueLoans_35 : zD cX1_payDueLoans 35 (.getfield 61) 3 38 := ⟨by decide +kernel, rfl⟩
theorem eX1_payDueLoans_38 : zD cX1_payDueLoans 38 (.getfield 115) 3 41 := ⟨by decide +kernel, rfl⟩
theorem eX1_payDueLoans_41 : zD cX1_payDueLoans 41 (.iload_n 1) 1 42 := ⟨by decide +kernel, rfl⟩
theorem eX1_payDueLoans_42 : zD cX1_payDueLoans 42 (.iaload) 1 43 := ⟨by decide +kernel, rfl⟩
theorem eX1_payDueLoans_43 : zD cX1_payDueLoans 43 (.istore_n 2) 1 44 := ⟨by decide +kernel, rfl⟩
theorem eX1_payDueLoans_44 : zD cX1_payDueLoans 44 (.aload_n 0) 1 45 := ⟨by decide +kernel, rfl⟩
theorem eX1_payDueLoans_45 : zD cX1_payDueLoans 45 (.getfield 61) 3 48 := ⟨by decide +kernel, rfl⟩
theorem eX1_payDueLoans_48 : zD cX1_payDueLoans 48 (.getfield 115) 3 51 := ⟨by decide +kernel, rfl⟩
theorem eX1_payDueLoans_51 : zD cX1_payDueLoans 51 (.iload_n 1) 1 52 := ⟨by decide +kernel, rfl⟩
theorem eX1_payDueLoans_52 : zD cX1_payDueLoans 52 (.ldc 155) 2 54 := ⟨by decide +kernel, rfl⟩
theorem eX1_payDueLoans_54 : zD cX1_payDueLoans 54 (.iload_n 2) 1 55 := ⟨by decide +kernel, rfl⟩
theorem eX1_payDueLoans_55 : zD cX1_payDueLoans 55 (.iload_n 2) 1 56 := ⟨by decide +kernel, rfl⟩
theorem eX1_payDueLoans_56 : zD cX1_payDueLoans 56 (.aload_n 0) 1 57 := ⟨by decide +kernel, rfl⟩
theorem eX1_payDueLoans_57 : zD cX1_payDueLoans 57 (.getfield 18) 3 60 := ⟨by decide +kernel, rfl⟩
theorem eX1_payDueLoans_60 : zD cX1_payDueLoans 60 (.iconst 4) 1 61 := ⟨by decide +kernel, rfl⟩
theorem eX1_payDueLoans_61 : zD cX1_payDueLoans 61 (.iaload) 1 62 := ⟨by decide +kernel, rfl⟩
theorem eX1_payDueLoans_62 : zD cX1_payDueLoans 62 (.imul) 1 63 := ⟨by decide +kernel, rfl⟩
theorem eX1_payDueLoans_63 : zD cX1_payDueLoans 63 (.bipush 100) 2 65 := ⟨by decide +kernel, rfl⟩
theorem eX1_payDueLoans_65 : zD cX1_payDueLoans 65 (.idiv) 1 66 := ⟨by decide +kernel, rfl⟩
theorem eX1_payDueLoans_66 : zD cX1_payDueLoans 66 (.iadd) 1 67 := ⟨by decide +kernel, rfl⟩
theorem eX1_payDueLoans_67 : zD cX1_payDueLoans 67 (.invokestatic 156) 3 70 := ⟨by decide +kernel, rfl⟩
theorem eX1_payDueLoans_70 : zD cX1_payDueLoans 70 (.iastore) 1 71 := ⟨by decide +kernel, rfl⟩
theorem eX1_payDueLoans_71 : zD cX1_payDueLoans 71 (.aload_n 0) 1 72 := ⟨by decide +kernel, rfl⟩
theorem eX1_payDueLoans_72 : zD cX1_payDueLoans 72 (.getfield 61) 3 75 := ⟨by decide +kernel, rfl⟩
theorem eX1_payDueLoans_75 : zD cX1_payDueLoans 75 (.getfield 148) 3 78 := ⟨by decide +kernel, rfl⟩
theorem eX1_payDueLoans_78 : zD cX1_payDueLoans 78 (.iload_n 1) 1 79 := ⟨by decide +kernel, rfl⟩
theorem eX1_payDueLoans_79 : zD cX1_payDueLoans 79 (.aload_n 0) 1 80 := ⟨by decide +kernel, rfl⟩
theorem eX1_payDueLoans_80 : zD cX1_payDueLoans 80 (.getfield 27) 3 83 := ⟨by decide +kernel, rfl⟩
theorem eX1_payDueLoans_83 : zD cX1_payDueLoans 83 (.iconst 1) 1 84 := ⟨by decide +kernel, rfl⟩
theorem eX1_payDueLoans_84 : zD cX1_payDueLoans 84 (.iadd) 1 85 := ⟨by decide +kernel, rfl⟩
theorem eX1_payDueLoans_85 : zD cX1_payDueLoans 85 (.iastore) 1 86 := ⟨by decide +kernel, rfl⟩
theorem eX1_payDueLoans_86 : zD cX1_payDueLoans 86 (.iinc 1 1) 3 89 := ⟨by decide +kernel, rfl⟩
theorem eX1_payDueLoans_89 : zJ cX1_payDueLoans 89 (.goto (-87)) (-87) 2 3 92 := ⟨by decide +kernel, rfl, by decide⟩
theorem eX1_payDueLoans_92 : zD cX1_payDueLoans 92 (.aload_n 0) 1 93 := ⟨by decide +kernel, rfl⟩
theorem eX1_payDueLoans_93 : zD cX1_payDueLoans 93 (.getfield 61) 3 96 := ⟨by decide +kernel, rfl⟩
theorem eX1_payDueLoans_96 : zD cX1_payDueLoans 96 (.invokevirtual 159) 3 99 := ⟨by decide +kernel, rfl⟩
theorem eX1_payDueLoans_99 : zD cX1_payDueLoans 99 (.return_) 1 100 := ⟨by decide +kernel, rfl⟩
theorem eX1_takePlans_0 : zD cX1_takePlans 0 (.iconst 0) 1 1 := ⟨by decide +kernel, rfl⟩
theorem eX1_takePlans_1 : zD cX1_takePlans 1 (.istore_n 1) 1 2 := ⟨by decide +kernel, rfl⟩
theorem eX1_takePlans_2 : zD cX1_takePlans 2 (.iconst 0) 1 3 := ⟨by decide +kernel, rfl⟩
theorem eX1_takePlans_3 : zD cX1_takePlans 3 (.istore_n 2) 1 4 := ⟨by decide +kernel, rfl⟩
theorem eX1_takePlans_4 : zD cX1_takePlans 4 (.iload_n 2) 1 5 := ⟨by decide +kernel, rfl⟩
theorem eX1_takePlans_5 : zD cX1_takePlans 5 (.aload_n 0) 1 6 := ⟨by decide +kernel, rfl⟩
theorem eX1_takePlans_6 : zD cX1_takePlans 6 (.getfield 68) 3 9 := ⟨by decide +kernel, rfl⟩
theorem eX1_takePlans_9 : zD cX1_takePlans 9 (.getfield 162) 3 12 := ⟨by decide +kernel, rfl⟩
theorem eX1_takePlans_12 : zJ cX1_takePlans 12 (.if_icmp .ge (107)) (107) 119 3 15 := ⟨by decide +kernel, rfl, by decide⟩
theorem eX1_takePlans_15 : zD cX1_takePlans 15 (.aload_n 0) 1 16 := ⟨by decide +kernel, rfl⟩
theorem eX1_takePlans_16 : zD cX1_takePlans 16 (.getfield 68) 3 19 := ⟨by decide +kernel, rfl⟩
theorem eX1_takePlans_19 : zD cX1_takePlans 19 (.getfield 163) 3 22 := ⟨by decide +kernel, rfl⟩
theorem eX1_takePlans_22 : zD cX1_takePlans 22 (.iload_n 2) 1 23 := ⟨by decide +kernel, rfl⟩
theorem eX1_takePlans_23 : zD cX1_takePlans 23 (.iaload) 1 24 := ⟨by decide +kernel, rfl⟩
theorem eX1_takePlans_24 : zD cX1_takePlans 24 (.istore_n 3) 1 25 := ⟨by decide +kernel, rfl⟩
theorem eX1_takePlans_25 : zD cX1_takePlans 25 (.aload_n 0) 1 26 := ⟨by decide +kernel, rfl⟩
theorem eX1_takePlans_26 : zD cX1_takePlans 26 (.iload_n 3) 1 27 := ⟨by decide +kernel, rfl⟩
theorem eX1_takePlans_27 : zD cX1_takePlans 27 (.invokevirtual 166) 3 30 := ⟨by decide +kernel, rfl⟩
theorem eX1_takePlans_30 : zD cX1_takePlans 30 (.istore 4) 2 32 := ⟨by decide +kernel, rfl⟩
theorem eX1_takePlans_32 : zD cX1_takePlans 32 (.aload_n 0) 1 33 := ⟨by decide +kernel, rfl⟩
theorem eX1_takePlans_33 : zD cX1_takePlans 33 (.getfield 68) 3 36 := ⟨by decide +kernel, rfl⟩
theorem eX1_takePlans_36 : zD cX1_takePlans 36 (.getfield 169) 3 39 := ⟨by decide +kernel, rfl⟩
theorem eX1_takePlans_39 : zD cX1_takePlans 39 (.iload_n 3) 1 40 := ⟨by decide +kernel, rfl⟩
theorem eX1_takePlans_40 : zD cX1_takePlans 40 (.iload 4) 2 42 := ⟨by decide +kernel, rfl⟩
theorem eX1_takePlans_42 : zD cX1_takePlans 42 (.iastore) 1 43 := ⟨by decide +kernel, rfl⟩
theorem eX1_takePlans_43 : zD cX1_takePlans 43 (.iload 4) 2 45 := ⟨by decide +kernel, rfl⟩
theorem eX1_takePlans_45 : zD cX1_takePlans 45 (.iconst 1) 1 46 := ⟨by decide +kernel, rfl⟩
theorem eX1_takePlans_46 : zJ cX1_takePlans 46 (.if_icmp .ne (28)) (28) 74 3 49 := ⟨by decide +kernel, rfl, by decide⟩
theorem eX1_takePlans_49 : zD cX1_takePlans 49 (.aload_n 0) 1 50 := ⟨by decide +kernel, rfl⟩
theorem eX1_takePlans_50 : zD cX1_takePlans 50 (.aload_n 0) 1 51 := ⟨by decide +kernel, rfl⟩
theorem eX1_takePlans_51 : zD cX1_takePlans 51 (.getfield 68) 3 54 := ⟨by decide +kernel, rfl⟩
theorem eX1_takePlans_54 : zD cX1_takePlans 54 (.getfield 172) 3 57 := ⟨by decide +kernel, rfl⟩
theorem eX1_takePlans_57 : zD cX1_takePlans 57 (.iload_n 3) 1 58 := ⟨by decide +kernel, rfl⟩
theorem eX1_takePlans_58 : zD cX1_takePlans 58 (.iaload) 1 59 := ⟨by decide +kernel, rfl⟩
theorem eX1_takePlans_59 : zD cX1_takePlans 59 (.aload_n 0) 1 60 := ⟨by decide +kernel, rfl⟩
theorem eX1_takePlans_60 : zD cX1_takePlans 60 (.getfield 68) 3 63 := ⟨by decide +kernel, rfl⟩
theorem eX1_takePlans_63 : zD cX1_takePlans 63 (.getfield 175) 3 66 := ⟨by decide +kernel, rfl⟩
theorem eX1_takePlans_66 : zD cX1_takePlans 66 (.iload_n 3) 1 67 := ⟨by decide +kernel, rfl⟩
theorem eX1_takePlans_67 : zD cX1_takePlans 67 (.iaload) 1 68 := ⟨by decide +kernel, rfl⟩
theorem eX1_takePlans_68 : zD cX1_takePlans 68 (.invokevirtual 178) 3 71 := ⟨by decide +kernel, rfl⟩
theorem eX1_takePlans_71 : zJ cX1_takePlans 71 (.goto (27)) (27) 98 3 74 := ⟨by decide +kernel, rfl, by decide⟩
theorem eX1_takePlans_74 : zD cX1_takePlans 74 (.iload 4) 2 76 := ⟨by decide +kernel, rfl⟩
theorem eX1_takePlans_76 : zD cX1_takePlans 76 (.iconst 2) 1 77 := ⟨by decide +kernel, rfl⟩
theorem eX1_takePlans_77 : zJ cX1_takePlans 77 (.if_icmp .ne (21)) (21) 98 3 80 := ⟨by decide +kernel, rfl, by decide⟩
theorem eX1_takePlans_80 : zD cX1_takePlans 80 (.aload_n 0) 1 81 := ⟨by decide +kernel, rfl⟩
theorem eX1_takePlans_81 : zD cX1_takePlans 81 (.getfield 48) 3 84 := ⟨by decide +kernel, rfl⟩
theorem eX1_takePlans_84 : zD cX1_takePlans 84 (.aload_n 0) 1 85 := ⟨by decide +kernel, rfl⟩
theorem eX1_takePlans_85 : zD cX1_takePlans 85 (.getfield 68) 3 88 := ⟨by decide +kernel, rfl⟩
theorem eX1_takePlans_88 : zD cX1_takePlans 88 (.getfield 172) 3 91 := ⟨by decide +kernel, rfl⟩
theorem eX1_takePlans_91 : zD cX1_takePlans 91 (.iload_n 3) 1 92 := ⟨by decide +kernel, rfl⟩
theorem eX1_takePlans_92 : zD cX1_takePlans 92 (.iaload) 1 93 := ⟨by decide +kernel, rfl⟩
theorem eX1_takePlans_93 : zD cX1_takePlans 93 (.dup2) 1 94 := ⟨by decide +kernel, rfl⟩
theorem eX1_takePlans_94 : zD cX1_takePlans 94 (.iaload) 1 95 := ⟨by decide +kernel, rfl⟩
theorem eX1_takePlans_95 : zD cX1_takePlans 95 (.iconst 1) 1 96 := ⟨by decide +kernel, rfl⟩
theorem eX1_takePlans_96 : zD cX1_takePlans 96 (.iadd) 1 97 := ⟨by decide +kernel, rfl⟩
theorem eX1_takePlans_97 : zD cX1_takePlans 97 (.iastore) 1 98 := ⟨by decide +kernel, rfl⟩
theorem eX1_takePlans_98 : zD cX1_takePlans 98 (.iload_n 1) 1 99 := ⟨by decide +kernel, rfl⟩
theorem eX1_takePlans_99 : zJ cX1_takePlans 99 (.ifCond .ne (8)) (8) 107 3 102 := ⟨by decide +kernel, rfl, by decide⟩
theorem eX1_takePlans_102 : zD cX1_takePlans 102 (.iload 4) 2 104 := ⟨by decide +kernel, rfl⟩
theorem eX1_takePlans_104 : zJ cX1_takePlans 104 (.ifCond .eq (7)) (7) 111 3 107 := ⟨by decide +kernel, rfl, by decide⟩
theorem eX1_takePlans_107 : zD cX1_takePlans 107 (.iconst 1) 1 108 := ⟨by decide +kernel, rfl⟩
theorem eX1_takePlans_108 : zJ cX1_takePlans 108 (.goto (4)) (4) 112 3 111 := ⟨by decide +kernel, rfl, by decide⟩
theorem eX1_takePlans_111 : zD cX1_takePlans 111 (.iconst 0) 1 112 := ⟨by decide +kernel, rfl⟩
theorem eX1_takePlans_112 : zD cX1_takePlans 112 (.istore_n 1) 1 113 := ⟨by decide +kernel, rfl⟩
theorem eX1_takePlans_113 : zD cX1_takePlans 113 (.iinc 2 1) 3 116 := ⟨by decide +kernel, rfl⟩
theorem eX1_takePlans_116 : zJ cX1_takePlans 116 (.goto (-112)) (-112) 4 3 119 := ⟨by decide +kernel, rfl, by decide⟩
theorem eX1_takePlans_119 : zD cX1_takePlans 119 (.iload_n 1) 1 120 := ⟨by decide +kernel, rfl⟩
theorem eX1_takePlans_120 : zJ cX1_takePlans 120 (.ifCond .eq (10)) (10) 130 3 123 := ⟨by decide +kernel, rfl, by decide⟩
theorem eX1_takePlans_123 : zD cX1_takePlans 123 (.aload_n 0) 1 124 := ⟨by decide +kernel, rfl⟩
theorem eX1_takePlans_124 : zD cX1_takePlans 124 (.getfield 68) 3 127 := ⟨by decide +kernel, rfl⟩
theorem eX1_takePlans_127 : zD cX1_takePlans 127 (.invokevirtual 182) 3 130 := ⟨by decide +kernel, rfl⟩
theorem eX1_takePlans_130 : zD cX1_takePlans 130 (.return_) 1 131 := ⟨by decide +kernel, rfl⟩
theorem eX1_fateOf_0 : zD cX1_fateOf 0 (.aload_n 0) 1 1 := ⟨by decide +kernel, rfl⟩
theorem eX1_fateOf_1 : zD cX1_fateOf 1 (.getfield 23) 3 4 := ⟨by decide +kernel, rfl⟩
theorem eX1_fateOf_4 : zD cX1_fateOf 4 (.aload_n 0) 1 5 := ⟨by decide +kernel, rfl⟩
theorem eX1_fateOf_5 : zD cX1_fateOf 5 (.getfield 68) 3 8 := ⟨by decide +kernel, rfl⟩
theorem eX1_fateOf_8 : zD cX1_fateOf 8 (.getfield 185) 3 11 := ⟨by decide +kernel, rfl⟩
theorem eX1_fateOf_11 : zD cX1_fateOf 11 (.iload_n 1) 1 12 := ⟨by decide +kernel, rfl⟩
theorem eX1_fateOf_12 : zD cX1_fateOf 12 (.iaload) 1 13 := ⟨by decide +kernel, rfl⟩
theorem eX1_fateOf_13 : zD cX1_fateOf 13 (.isub) 1 14 := ⟨by decide +kernel, rfl⟩
theorem eX1_fateOf_14 : zD cX1_fateOf 14 (.istore_n 2) 1 15 := ⟨by decide +kernel, rfl⟩
theorem eX1_fateOf_15 : zD cX1_fateOf 15 (.iload_n 2) 1 16 := ⟨by decide +kernel, rfl⟩
theorem eX1_fateOf_16 : zJ cX1_fateOf 16 (.ifCond .ge (5)) (5) 21 3 19 := ⟨by decide +kernel, rfl, by decide⟩
theorem eX1_fateOf_19 : zD cX1_fateOf 19 (.iconst 0) 1 20 := ⟨by decide +kernel, rfl⟩
theorem eX1_fateOf_20 : zD cX1_fateOf 20 (.ireturn) 1 21 := ⟨by decide +kernel, rfl⟩
theorem eX1_fateOf_21 : zD cX1_fateOf 21 (.aload_n 0) 1 22 := ⟨by decide +kernel, rfl⟩
theorem eX1_fateOf_22 : zD cX1_fateOf 22 (.aload_n 0) 1 23 := ⟨by decide +kernel, rfl⟩
theorem eX1_fateOf_23 : zD cX1_fateOf 23 (.getfield 68) 3 26 := ⟨by decide +kernel, rfl⟩
theorem eX1_fateOf_26 : zD cX1_fateOf 26 (.getfield 172) 3 29 := ⟨by decide +kernel, rfl⟩
theorem eX1_fateOf_29 : zD cX1_fateOf 29 (.iload_n 1) 1 30 := ⟨by decide +kernel, rfl⟩
theorem eX1_fateOf_30 : zD cX1_fateOf 30 (.iaload) 1 31 := ⟨by decide +kernel, rfl⟩
theorem eX1_fateOf_31 : zD cX1_fateOf 31 (.invokevirtual 96) 3 34 := ⟨by decide +kernel, rfl⟩
theorem eX1_fateOf_34 : zJ cX1_fateOf 34 (.ifCond .ne (5)) (5) 39 3 37 := ⟨by decide +kernel, rfl, by decide⟩
theorem eX1_fateOf_37 : zD cX1_fateOf 37 (.iconst 1) 1 38 := ⟨by decide +kernel, rfl⟩
theorem eX1_fateOf_38 : zD cX1_fateOf 38 (.ireturn) 1 39 := ⟨by decide +kernel, rfl⟩
theorem eX1_fateOf_39 : zD cX1_fateOf 39 (.iload_n 2) 1 40 := ⟨by decide +kernel, rfl⟩
theorem eX1_fateOf_40 : zD cX1_fateOf 40 (.aload_n 0) 1 41 := ⟨by decide +kernel, rfl⟩
theorem eX1_fateOf_41 : zD cX1_fateOf 41 (.getfield 18) 3 44 := ⟨by decide +kernel, rfl⟩
theorem eX1_fateOf_44 : zD cX1_fateOf 44 (.iconst 5) 1 45 := ⟨by decide +kernel, rfl⟩
theorem eX1_fateOf_45 : zD cX1_fateOf 45 (.iaload) 1 46 := ⟨by decide +kernel, rfl⟩
theorem eX1_fateOf_46 : zJ cX1_fateOf 46 (.if_icmp .lt (7)) (7) 53 3 49 := ⟨by decide +kernel, rfl, by decide⟩
theorem eX1_fateOf_49 : zD cX1_fateOf 49 (.iconst 2) 1 50 := ⟨by decide +kernel, rfl⟩
theorem eX1_fateOf_50 : zJ cX1_fateOf 50 (.goto (4)) (4) 54 3 53 := ⟨by decide +kernel, rfl, by decide⟩
theorem eX1_fateOf_53 : zD cX1_fateOf 53 (.iconst 0) 1 54 := ⟨by decide +kernel, rfl⟩
theorem eX1_fateOf_54 : zD cX1_fateOf 54 (.ireturn) 1 55 := ⟨by decide +kernel, rfl⟩
end
section
theorem eX5_init_0 : zD cX5_init 0 (.aload_n 0) 1 1 := ⟨by decide +kernel, rfl⟩
theorem eX5_init_1 : zD cX5_init 1 (.invokespecial 3) 3 4 := ⟨by decide +kernel, rfl⟩
theorem eX5_init_4 : zD cX5_init 4 (.aload_n 0) 1 5 := ⟨by decide +kernel, rfl⟩
theorem eX5_init_5 : zD cX5_init 5 (.new 9) 3 8 := ⟨by decide +kernel, rfl⟩
theorem eX5_init_8 : zD cX5_init 8 (.dup) 1 9 := ⟨by decide +kernel, rfl⟩
theorem eX5_init_9 : zD cX5_init 9 (.invokespecial 11) 3 12 := ⟨by decide +kernel, rfl⟩
theorem eX5_init_12 : zD cX5_init 12 (.putfield 12) 3 15 := ⟨by decide +kernel, rfl⟩
theorem eX5_init_15 : zD cX5_init 15 (.aload_n 0) 1 16 := ⟨by decide +kernel, rfl⟩
theorem eX5_init_16 : zD cX5_init 16 (.new 9) 3 19 := ⟨by decide +kernel, rfl⟩
theorem eX5_init_19 : zD cX5_init 19 (.dup) 1 20 := ⟨by decide +kernel, rfl⟩
theorem eX5_init_20 : zD cX5_init 20 (.invokespecial 11) 3 23 := ⟨by decide +kernel, rfl⟩
theorem eX5_init_23 : zD cX5_init 23 (.putfield 16) 3 26 := ⟨by decide +kernel, rfl⟩
theorem eX5_init_26 : zD cX5_init 26 (.aload_n 0) 1 27 := ⟨by decide +kernel, rfl⟩
theorem eX5_init_27 : zD cX5_init 27 (.new 19) 3 30 := ⟨by decide +kernel, rfl⟩
theorem eX5_init_30 : zD cX5_init 30 (.dup) 1 31 := ⟨by decide +kernel, rfl⟩
theorem eX5_init_31 : zD cX5_init 31 (.invokespecial 21) 3 34 := ⟨by decide +kernel, rfl⟩
theorem eX5_init_34 : zD cX5_init 34 (.putfield 22) 3 37 := ⟨by decide +kernel, rfl⟩
theorem eX5_init_37 : zD cX5_init 37 (.aload_n 0) 1 38 := ⟨by decide +kernel, rfl⟩
theorem eX5_init_38 : zD cX5_init 38 (.iconst 2) 1 39 := ⟨by decide +kernel, rfl⟩
theorem eX5_init_39 : zD cX5_init 39 (.anewarray 9) 3 42 := ⟨by decide +kernel, rfl⟩
theorem eX5_init_42 : zD cX5_init 42 (.putfield 26) 3 45 := ⟨by decide +kernel, rfl⟩
theorem eX5_init_45 : zD cX5_init 45 (.aload_n 0) 1 46 := ⟨by decide +kernel, rfl⟩
theorem eX5_init_46 : zD cX5_init 46 (.iconst 2) 1 47 := ⟨by decide +kernel, rfl⟩
theorem eX5_init_47 : zD cX5_init 47 (.newarray .boolean) 2 49 := ⟨by decide +kernel, rfl⟩
theorem eX5_init_49 : zD cX5_init 49 (.putfield 30) 3 52 := ⟨by decide +kernel, rfl⟩
theorem eX5_init_52 : zD cX5_init 52 (.aload_n 0) 1 53 := ⟨by decide +kernel, rfl⟩
theorem eX5_init_53 : zD cX5_init 53 (.new 34) 3 56 := ⟨by decide +kernel, rfl⟩
theorem eX5_init_56 : zD cX5_init 56 (.dup) 1 57 := ⟨by decide +kernel, rfl⟩
theorem eX5_init_57 : zD cX5_init 57 (.invokespecial 36) 3 60 := ⟨by decide +kernel, rfl⟩
theorem eX5_init_60 : zD cX5_init 60 (.putfield 37) 3 63 := ⟨by decide +kernel, rfl⟩
theorem eX5_init_63 : zD cX5_init 63 (.aload_n 0) 1 64 := ⟨by decide +kernel, rfl⟩
theorem eX5_init_64 : zD cX5_init 64 (.iconst 0) 1 65 := ⟨by decide +kernel, rfl⟩
theorem eX5_init_65 : zD cX5_init 65 (.putfield 41) 3 68 := ⟨by decide +kernel, rfl⟩
theorem eX5_init_68 : zD cX5_init 68 (.iconst 0) 1 69 := ⟨by decide +kernel, rfl⟩
theorem eX5_init_69 : zD cX5_init 69 (.istore_n 1) 1 70 := ⟨by decide +kernel, rfl⟩
theorem eX5_init_70 : zD cX5_init 70 (.iload_n 1) 1 71 := ⟨by decide +kernel, rfl⟩
theorem eX5_init_71 : zD cX5_init 71 (.iconst 2) 1 72 := ⟨by decide +kernel, rfl⟩
theorem eX5_init_72 : zJ cX5_init 72 (.if_icmp .ge (22)) (22) 94 3 75 := ⟨by decide +kernel, rfl, by decide⟩
theorem eX5_init_75 : zD cX5_init 75 (.aload_n 0) 1 76 := ⟨by decide +kernel, rfl⟩
theorem eX5_init_76 : zD cX5_init 76 (.getfield 26) 3 79 := ⟨by decide +kernel, rfl⟩
theorem eX5_init_79 : zD cX5_init 79 (.iload_n 1) 1 80 := ⟨by decide +kernel, rfl⟩
theorem eX5_init_80 : zD cX5_init 80 (.new 9) 3 83 := ⟨by decide +kernel, rfl⟩
theorem eX5_init_83 : zD cX5_init 83 (.dup) 1 84 := ⟨by decide +kernel, rfl⟩
theorem eX5_init_84 : zD cX5_init 84 (.invokespecial 11) 3 87 := ⟨by decide +kernel, rfl⟩
theorem eX5_init_87 : zD cX5_init 87 (.aastore) 1 88 := ⟨by decide +kernel, rfl⟩
theorem eX5_init_88 : zD cX5_init 88 (.iinc 1 1) 3 91 := ⟨by decide +kernel, rfl⟩
theorem eX5_init_91 : zJ cX5_init 91 (.goto (-21)) (-21) 70 3 94 := ⟨by decide +kernel, rfl, by decide⟩
theorem eX5_init_94 : zD cX5_init 94 (.return_) 1 95 := ⟨by decide +kernel, rfl⟩
theorem eX5_set_0 : zD cX5_set 0 (.iload_n 1) 1 1 := ⟨by decide +kernel, rfl⟩
theorem eX5_set_1 : zJ cX5_set 1 (.ifCond .lt (26)) (26) 27 3 4 := ⟨by decide +kernel, rfl, by decide⟩
theorem eX5_set_4 : zD cX5_set 4 (.iload_n 1) 1 5 := ⟨by decide +kernel, rfl⟩
theorem eX5_set_5 : zD cX5_set 5 (.bipush 8) 2 7 := ⟨by decide +kernel, rfl⟩
theorem eX5_set_7 : zJ cX5_set 7 (.if_icmp .ge (20)) (20) 27 3 10 := ⟨by decide +kernel, rfl, by decide⟩
theorem eX5_set_10 : zD cX5_set 10 (.iload_n 2) 1 11 := ⟨by decide +kernel, rfl⟩
theorem eX5_set_11 : zD cX5_set 11 (.getstatic 45) 3 14 := ⟨by decide +kernel, rfl⟩
theorem eX5_set_14 : zD cX5_set 14 (.iload_n 1) 1 15 := ⟨by decide +kernel, rfl⟩
theorem eX5_set_15 : zD cX5_set 15 (.iaload) 1 16 := ⟨by decide +kernel, rfl⟩
theorem eX5_set_16 : zD cX5_set 16 (.getstatic 49) 3 19 := ⟨by decide +kernel, rfl⟩
theorem eX5_set_19 : zD cX5_set 19 (.iload_n 1) 1 20 := ⟨by decide +kernel, rfl⟩
theorem eX5_set_20 : zD cX5_set 20 (.iaload) 1 21 := ⟨by decide +kernel, rfl⟩
theorem eX5_set_21 : zD cX5_set 21 (.invokestatic 52) 3 24 := ⟨by decide +kernel, rfl⟩
theorem eX5_set_24 : zJ cX5_set 24 (.ifCond .ne (6)) (6) 30 3 27 := ⟨by decide +kernel, rfl, by decide⟩
theorem eX5_set_27 : zD cX5_set 27 (.bipush (-2)) 2 29 := ⟨by decide +kernel, rfl⟩
theorem eX5_set_29 : zD cX5_set 29 (.ireturn) 1 30 := ⟨by decide +kernel, rfl⟩
theorem eX5_set_30 : zD cX5_set 30 (.aload_n 0) 1 31 := ⟨by decide +kernel, rfl⟩
theorem eX5_set_31 : zD cX5_set 31 (.getfield 22) 3 34 := ⟨by decide +kernel, rfl⟩
theorem eX5_set_34 : zD cX5_set 34 (.aload_n 0) 1 35 := ⟨by decide +kernel, rfl⟩
theorem eX5_set_35 : zD cX5_set 35 (.getfield 12) 3 38 := ⟨by decide +kernel, rfl⟩
theorem eX5_set_38 : zD cX5_set 38 (.invokevirtual 56) 3 41 := ⟨by decide +kernel, rfl⟩
theorem eX5_set_41 : zD cX5_set 41 (.aload_n 0) 1 42 := ⟨by decide +kernel, rfl⟩
theorem eX5_set_42 : zD cX5_set 42 (.getfield 12) 3 45 := ⟨by decide +kernel, rfl⟩
theorem eX5_set_45 : zD cX5_set 45 (.getfield 60) 3 48 := ⟨by decide +kernel, rfl⟩
theorem eX5_set_48 : zD cX5_set 48 (.iload_n 1) 1 49 := ⟨by decide +kernel, rfl⟩
theorem eX5_set_49 : zD cX5_set 49 (.iaload) 1 50 := ⟨by decide +kernel, rfl⟩
theorem eX5_set_50 : zD cX5_set 50 (.istore_n 3) 1 51 := ⟨by decide +kernel, rfl⟩
theorem eX5_set_51 : zD cX5_set 51 (.aload_n 0) 1 52 := ⟨by decide +kernel, rfl⟩
theorem eX5_set_52 : zD cX5_set 52 (.getfield 12) 3 55 := ⟨by decide +kernel, rfl⟩
theorem eX5_set_55 : zD cX5_set 55 (.getfield 60) 3 58 := ⟨by decide +kernel, rfl⟩
theorem eX5_set_58 : zD cX5_set 58 (.iload_n 1) 1 59 := ⟨by decide +kernel, rfl⟩
theorem eX5_set_59 : zD cX5_set 59 (.iload_n 2) 1 60 := ⟨by decide +kernel, rfl⟩
theorem eX5_set_60 : zD cX5_set 60 (.iastore) 1 61 := ⟨by decide +kernel, rfl⟩
theorem eX5_set_61 : zD cX5_set 61 (.aload_n 0) 1 62 := ⟨by decide +kernel, rfl⟩
theorem eX5_set_62 : zD cX5_set 62 (.getfield 22) 3 65 := ⟨by decide +kernel, rfl⟩
theorem eX5_set_65 : zD cX5_set 65 (.iload_n 3) 1 66 := ⟨by decide +kernel, rfl⟩
theorem eX5_set_66 : zD cX5_set 66 (.invokevirtual 63) 3 69 := ⟨by decide +kernel, rfl⟩
theorem eX5_set_69 : zD cX5_set 69 (.ireturn) 1 70 := ⟨by decide +kernel, rfl⟩
theorem eX5_service_0 : zD cX5_service 0 (.iload_n 1) 1 1 := ⟨by decide +kernel, rfl⟩
theorem eX5_service_1 : zD cX5_service 1 (.bipush 10) 2 3 := ⟨by decide +kernel, rfl⟩
theorem eX5_service_3 : zD cX5_service 3 (.sipush 10000) 3 6 := ⟨by decide +kernel, rfl⟩
theorem eX5_service_6 : zD cX5_service 6 (.invokestatic 52) 3 9 := ⟨by decide +kernel, rfl⟩
theorem eX5_service_9 : zJ cX5_service 9 (.ifCond .ne (6)) (6) 15 3 12 := ⟨by decide +kernel, rfl, by decide⟩
theorem eX5_service_12 : zD cX5_service 12 (.bipush (-2)) 2 14 := ⟨by decide +kernel, rfl⟩
theorem eX5_service_14 : zD cX5_service 14 (.ireturn) 1 15 := ⟨by decide +kernel, rfl⟩
theorem eX5_service_15 : zD cX5_service 15 (.aload_n 0) 1 16 := ⟨by decide +kernel, rfl⟩
theorem eX5_service_16 : zD cX5_service 16 (.getfield 12) 3 19 := ⟨by decide +kernel, rfl⟩
theorem eX5_service_19 : zD cX5_service 19 (.getfield 67) 3 22 := ⟨by decide +kernel, rfl⟩
theorem eX5_service_22 : zD cX5_service 22 (.bipush 8) 2 24 := ⟨by decide +kernel, rfl⟩
theorem eX5_service_24 : zJ cX5_service 24 (.if_icmp .lt (6)) (6) 30 3 27 := ⟨by decide +kernel, rfl, by decide⟩
theorem eX5_service_27 : zD cX5_service 27 (.bipush (-4)) 2 29 := ⟨by decide +kernel, rfl⟩
theorem eX5_service_29 : zD cX5_service 29 (.ireturn) 1 30 := ⟨by decide +kernel, rfl⟩
theorem eX5_service_30 : zD cX5_service 30 (.aload_n 0) 1 31 := ⟨by decide +kernel, rfl⟩
theorem eX5_service_31 : zD cX5_service 31 (.getfield 22) 3 34 := ⟨by decide +kernel, rfl⟩
theorem eX5_service_34 : zD cX5_service 34 (.aload_n 0) 1 35 := ⟨by decide +kernel, rfl⟩
theorem eX5_service_35 : zD cX5_service 35 (.getfield 12) 3 38 := ⟨by decide +kernel, rfl⟩
theorem eX5_service_38 : zD cX5_service 38 (.invokevirtual 56) 3 41 := ⟨by decide +kernel, rfl⟩
theorem eX5_service_41 : zD cX5_service 41 (.aload_n 0) 1 42 := ⟨by decide +kernel, rfl⟩
theorem eX5_service_42 : zD cX5_service 42 (.getfield 22) 3 45 := ⟨by decide +kernel, rfl⟩
theorem eX5_service_45 : zD cX5_service 45 (.aload_n 0) 1 46 := ⟨by decide +kernel, rfl⟩
theorem eX5_service_46 : zD cX5_service 46 (.getfield 12) 3 49 := ⟨by decide +kernel, rfl⟩
theorem eX5_service_49 : zD cX5_service 49 (.iload_n 1) 1 50 := ⟨by decide +kernel, rfl⟩
theorem eX5_service_50 : zD cX5_service 50 (.invokevirtual 70) 3 53 := ⟨by decide +kernel, rfl⟩
theorem eX5_service_53 : zD cX5_service 53 (.invokevirtual 63) 3 56 := ⟨by decide +kernel, rfl⟩
theorem eX5_service_56 : zD cX5_service 56 (.ireturn) 1 57 := ⟨by decide +kernel, rfl⟩
theorem eX5_budget_0 : zD cX5_budget 0 (.aload_n 0) 1 1 := ⟨by decide +kernel, rfl⟩
theorem eX5_budget_1 : zD cX5_budget 1 (.getfield 12) 3 4 := ⟨by decide +kernel, rfl⟩
theorem eX5_budget_4 : zD cX5_budget 4 (.iload_n 1) 1 5 := ⟨by decide +kernel, rfl⟩
theorem eX5_budget_5 : zD cX5_budget 5 (.invokevirtual 73) 3 8 := ⟨by decide +kernel, rfl⟩
theorem eX5_budget_8 : zJ cX5_budget 8 (.ifCond .ne (5)) (5) 13 3 11 := ⟨by decide +kernel, rfl, by decide⟩
theorem eX5_budget_11 : zD cX5_budget 11 (.iconst (-1)) 1 12 := ⟨by decide +kernel, rfl⟩
theorem eX5_budget_12 : zD cX5_budget 12 (.ireturn) 1 13 := ⟨by decide +kernel, rfl⟩
theorem eX5_budget_13 : zD cX5_budget 13 (.iload_n 2) 1 14 := ⟨by decide +kernel, rfl⟩
theorem eX5_budget_14 : zD cX5_budget 14 (.bipush 10) 2 16 := ⟨by decide +kernel, rfl⟩
theorem eX5_budget_16 : zD cX5_budget 16 (.sipush 10000) 3 19 := ⟨by decide +kernel, rfl⟩
theorem eX5_budget_19 : zD cX5_budget 19 (.invokestatic 52) 3 22 := ⟨by decide +kernel, rfl⟩
theorem eX5_budget_22 : zJ cX5_budget 22 (.ifCond .ne (6)) (6) 28 3 25 := ⟨by decide +kernel, rfl, by decide⟩
theorem eX5_budget_25 : zD cX5_budget 25 (.bipush (-2)) 2 27 := ⟨by decide +kernel, rfl⟩
theorem eX5_budget_27 : zD cX5_budget 27 (.ireturn) 1 28 := ⟨by decide +kernel, rfl⟩
theorem eX5_budget_28 : zD cX5_budget 28 (.aload_n 0) 1 29 := ⟨by decide +kernel, rfl⟩
theorem eX5_budget_29 : zD cX5_budget 29 (.getfield 22) 3 32 := ⟨by decide +kernel, rfl⟩
theorem eX5_budget_32 : zD cX5_budget 32 (.aload_n 0) 1 33 := ⟨by decide +kernel, rfl⟩
theorem eX5_budget_33 : zD cX5_budget 33 (.getfield 12) 3 36 := ⟨by decide +kernel, rfl⟩
theorem eX5_budget_36 : zD cX5_budget 36 (.invokevirtual 56) 3 39 := ⟨by decide +kernel, rfl⟩
theorem eX5_budget_39 : zD cX5_budget 39 (.aload_n 0) 1 40 := ⟨by decide +kernel, rfl⟩
theorem eX5_budget_40 : zD cX5_budget 40 (.getfield 12) 3 43 := ⟨by decide +kernel, rfl⟩
theorem eX5_budget_43 : zD cX5_budget 43 (.getfield 77) 3 46 := ⟨by decide +kernel, rfl⟩
theorem eX5_budget_46 : zD cX5_budget 46 (.iload_n 1) 1 47 := ⟨by decide +kernel, rfl⟩
theorem eX5_budget_47 : zD cX5_budget 47 (.iaload) 1 48 := ⟨by decide +kernel, rfl⟩
theorem eX5_budget_48 : zD cX5_budget 48 (.istore_n 3) 1 49 := ⟨by decide +kernel, rfl⟩
theorem eX5_budget_49 : zD cX5_budget 49 (.aload_n 0) 1 50 := ⟨by decide +kernel, rfl⟩
theorem eX5_budget_50 : zD cX5_budget 50 (.getfield 12) 3 53 := ⟨by decide +kernel, rfl⟩
theorem eX5_budget_53 : zD cX5_budget 53 (.getfield 77) 3 56 := ⟨by decide +kernel, rfl⟩
theorem eX5_budget_56 : zD cX5_budget 56 (.iload_n 1) 1 57 := ⟨by decide +kernel, rfl⟩
theorem eX5_budget_57 : zD cX5_budget 57 (.iload_n 2) 1 58 := ⟨by decide +kernel, rfl⟩
theorem eX5_budget_58 : zD cX5_budget 58 (.iastore) 1 59 := ⟨by decide +kernel, rfl⟩
theorem eX5_budget_59 : zD cX5_budget 59 (.aload_n 0) 1 60 := ⟨by decide +kernel, rfl⟩
theorem eX5_budget_60 : zD cX5_budget 60 (.getfield 22) 3 63 := ⟨by decide +kernel, rfl⟩
theorem eX5_budget_63 : zD cX5_budget 63 (.iload_n 3) 1 64 := ⟨by decide +kernel, rfl⟩
theorem eX5_budget_64 : zD cX5_budget 64 (.invokevirtual 63) 3 67 := ⟨by decide +kernel, rfl⟩
theorem eX5_budget_67 : zD cX5_budget 67 (.ireturn) 1 68 := ⟨by decide +kernel, rfl⟩
theorem eX5_outage_0 : zD cX5_outage 0 (.aload_n 0) 1 1 := ⟨by decide +kernel, rfl⟩
theorem eX5_outage_1 : zD cX5_outage 1 (.getfield 22) 3 4 := ⟨by decide +kernel, rfl⟩
theorem eX5_outage_4 : zD cX5_outage 4 (.aload_n 0) 1 5 := ⟨by decide +kernel, rfl⟩
theorem eX5_outage_5 : zD cX5_outage 5 (.getfield 12) 3 8 := ⟨by decide +kernel, rfl⟩
theorem eX5_outage_8 : zD cX5_outage 8 (.invokevirtual 56) 3 11 := ⟨by decide +kernel, rfl⟩
theorem eX5_outage_11 : zD cX5_outage 11 (.aload_n 0) 1 12 := ⟨by decide +kernel, rfl⟩
theorem eX5_outage_12 : zD cX5_outage 12 (.getfield 22) 3 15 := ⟨by decide +kernel, rfl⟩
theorem eX5_outage_15 : zD cX5_outage 15 (.aload_n 0) 1 16 := ⟨by decide +kernel, rfl⟩
theorem eX5_outage_16 : zD cX5_outage 16 (.iload_n 1) 1 17 := ⟨by decide +kernel, rfl⟩
theorem eX5_outage_17 : zD cX5_outage 17 (.iload_n 2) 1 18 := ⟨by decide +kernel, rfl⟩
theorem eX5_outage_18 : zD cX5_outage 18 (.iload_n 3) 1 19 := ⟨by decide +kernel, rfl⟩
theorem eX5_outage_19 : zD cX5_outage 19 (.invokevirtual 80) 3 22 := ⟨by decide +kernel, rfl⟩
theorem eX5_outage_22 : zD cX5_outage 22 (.invokevirtual 63) 3 25 := ⟨by decide +kernel, rfl⟩
theorem eX5_outage_25 : zD cX5_outage 25 (.ireturn) 1 26 := ⟨by decide +kernel, rfl⟩
theorem eX5_release_0 : zD cX5_release 0 (.aload_n 0) 1 1 := ⟨by decide +kernel, rfl⟩
theorem eX5_release_1 : zD cX5_release 1 (.getfield 22) 3 4 := ⟨by decide +kernel, rfl⟩
theorem eX5_release_4 : zD cX5_release 4 (.aload_n 0) 1 5 := ⟨by decide +kernel, rfl⟩
theorem eX5_release_5 : zD cX5_release 5 (.getfield 12) 3 8 := ⟨by decide +kernel, rfl⟩
theorem eX5_release_8 : zD cX5_release 8 (.invokevirtual 56) 3 11 := ⟨by decide +kernel, rfl⟩
theorem eX5_release_11 : zD cX5_release 11 (.aload_n 0) 1 12 := ⟨by decide +kernel, rfl⟩
theorem eX5_release_12 : zD cX5_release 12 (.getfield 22) 3 15 := ⟨by decide +kernel, rfl⟩
theorem eX5_release_15 : zD cX5_release 15 (.aload_n 0) 1 16 := ⟨by decide +kernel, rfl⟩
theorem eX5_release_16 : zD cX5_release 16 (.iload_n 1) 1 17 := ⟨by decide +kernel, rfl⟩
theorem eX5_release_17 : zD cX5_release 17 (.iload_n 2) 1 18 := ⟨by decide +kernel, rfl⟩
theorem eX5_release_18 : zD cX5_release 18 (.iload_n 3) 1 19 := ⟨by decide +kernel, rfl⟩
theorem eX5_release_19 : zD cX5_release 19 (.invokevirtual 84) 3 22 := ⟨by decide +kernel, rfl⟩
theorem eX5_release_22 : zD cX5_release 22 (.invokevirtual 63) 3 25 := ⟨by decide +kernel, rfl⟩
theorem eX5_release_25 : zD cX5_release 25 (.ireturn) 1 26 := ⟨by decide +kernel, rfl⟩
theorem eX5_lend_0 : zD cX5_lend 0 (.aload_n 0) 1 1 := ⟨by decide +kernel, rfl⟩
theorem eX5_lend_1 : zD cX5_lend 1 (.getfield 22) 3 4 := ⟨by decide +kernel, rfl⟩
theorem eX5_lend_4 : zD cX5_lend 4 (.aload_n 0) 1 5 := ⟨by decide +kernel, rfl⟩
theorem eX5_lend_5 : zD cX5_lend 5 (.getfield 12) 3 8 := ⟨by decide +kernel, rfl⟩
theorem eX5_lend_8 : zD cX5_lend 8 (.invokevirtual 56) 3 11 := ⟨by decide +kernel, rfl⟩
theorem eX5_lend_11 : zD cX5_lend 11 (.aload_n 0) 1 12 := ⟨by decide +kernel, rfl⟩
theorem eX5_lend_12 : zD cX5_lend 12 (.getfield 22) 3 15 := ⟨by decide +kernel, rfl⟩
theorem eX5_lend_15 : zD cX5_lend 15 (.aload_n 0) 1 16 := ⟨by decide +kernel, rfl⟩
theorem eX5_lend_16 : zD cX5_lend 16 (.iload_n 1) 1 17 := ⟨by decide +kernel, rfl⟩
theorem eX5_lend_17 : zD cX5_lend 17 (.iload_n 2) 1 18 := ⟨by decide +kernel, rfl⟩
theorem eX5_lend_18 : zD cX5_lend 18 (.iload_n 3) 1 19 := ⟨by decide +kernel, rfl⟩
theorem eX5_lend_19 : zD cX5_lend 19 (.iload 4) 2 21 := ⟨by decide +kernel, rfl⟩
theorem eX5_lend_21 : zD cX5_lend 21 (.invokevirtual 87) 3 24 := ⟨by decide +kernel, rfl⟩
theorem eX5_lend_24 : zD cX5_lend 24 (.invokevirtual 63) 3 27 := ⟨by decide +kernel, rfl⟩
theorem eX5_lend_27 : zD cX5_lend 27 (.ireturn) 1 28 := ⟨by decide +kernel, rfl⟩
theorem eX5_repay_0 : zD cX5_repay 0 (.aload_n 0) 1 1 := ⟨by decide +kernel, rfl⟩
theorem eX5_repay_1 : zD cX5_repay 1 (.getfield 12) 3 4 := ⟨by decide +kernel, rfl⟩
theorem eX5_repay_4 : zD cX5_repay 4 (.getfield 91) 3 7 := ⟨by decide +kernel, rfl⟩
theorem eX5_repay_7 : zD cX5_repay 7 (.iload_n 1) 1 8 := ⟨by decide +kernel, rfl⟩
theorem eX5_repay_8 : zD cX5_repay 8 (.invokevirtual 95) 3 11 := ⟨by decide +kernel, rfl⟩
theorem eX5_repay_11 : zJ cX5_repay 11 (.ifCond .ne (5)) (5) 16 3 14 := ⟨by decide +kernel, rfl, by decide⟩
theorem eX5_repay_14 : zD cX5_repay 14 (.iconst (-1)) 1 15 := ⟨by decide +kernel, rfl⟩
theorem eX5_repay_15 : zD cX5_repay 15 (.ireturn) 1 16 := ⟨by decide +kernel, rfl⟩
theorem eX5_repay_16 : zD cX5_repay 16 (.aload_n 0) 1 17 := ⟨by decide +kernel, rfl⟩
theorem eX5_repay_17 : zD cX5_repay 17 (.getfield 22) 3 20 := ⟨by decide +kernel, rfl⟩
theorem eX5_repay_20 : zD cX5_repay 20 (.aload_n 0) 1 21 := ⟨by decide +kernel, rfl⟩
theorem eX5_repay_21 : zD cX5_repay 21 (.getfield 12) 3 24 := ⟨by decide +kernel, rfl⟩
theorem eX5_repay_24 : zD cX5_repay 24 (.invokevirtual 56) 3 27 := ⟨by decide +kernel, rfl⟩
theorem eX5_repay_27 : zD cX5_repay 27 (.aload_n 0) 1 28 := ⟨by decide +kernel, rfl⟩
theorem eX5_repay_28 : zD cX5_repay 28 (.getfield 12) 3 31 := ⟨by decide +kernel, rfl⟩
theorem eX5_repay_31 : zD cX5_repay 31 (.iload_n 1) 1 32 := ⟨by decide +kernel, rfl⟩
theorem eX5_repay_32 : zD cX5_repay 32 (.invokevirtual 100) 3 35 := ⟨by decide +kernel, rfl⟩
theorem eX5_repay_35 : zD cX5_repay 35 (.aload_n 0) 1 36 := ⟨by decide +kernel, rfl⟩
theorem eX5_repay_36 : zD cX5_repay 36 (.getfield 12) 3 39 := ⟨by decide +kernel, rfl⟩
theorem eX5_repay_39 : zD cX5_repay 39 (.getfield 91) 3 42 := ⟨by decide +kernel, rfl⟩
theorem eX5_repay_42 : zD cX5_repay 42 (.getfield 104) 3 45 := ⟨by decide +kernel, rfl⟩
theorem eX5_repay_45 : zD cX5_repay 45 (.iload_n 1) 1 46 := ⟨by decide +kernel, rfl⟩
theorem eX5_repay_46 : zD cX5_repay 46 (.iaload) 1 47 := ⟨by decide +kernel, rfl⟩
theorem eX5_repay_47 : zD cX5_repay 47 (.istore_n 2) 1 48 := ⟨by decide +kernel, rfl⟩
theorem eX5_repay_48 : zD cX5_repay 48 (.aload_n 0) 1 49 := ⟨by decide +kernel, rfl⟩
theorem eX5_repay_49 : zD cX5_repay 49 (.getfield 12) 3 52 := ⟨by decide +kernel, rfl⟩
theorem eX5_repay_52 : zD cX5_repay 52 (.getfield 91) 3 55 := ⟨by decide +kernel, rfl⟩
theorem eX5_repay_55 : zD cX5_repay 55 (.invokevirtual 107) 3 58 := ⟨by decide +kernel, rfl⟩
theorem eX5_repay_58 : zD cX5_repay 58 (.aload_n 0) 1 59 := ⟨by decide +kernel, rfl⟩
theorem eX5_repay_59 : zD cX5_repay 59 (.getfield 22) 3 62 := ⟨by decide +kernel, rfl⟩
theorem eX5_repay_62 : zD cX5_repay 62 (.iload_n 2) 1 63 := ⟨by decide +kernel, rfl⟩
theorem eX5_repay_63 : zD cX5_repay 63 (.invokevirtual 63) 3 66 := ⟨by decide +kernel, rfl⟩
theorem eX5_repay_66 : zD cX5_repay 66 (.ireturn) 1 67 := ⟨by decide +kernel, rfl⟩
theorem eX5_plan_0 : zD cX5_plan 0 (.aload_n 0) 1 1 := ⟨by decide +kernel, rfl⟩
theorem eX5_plan_1 : zD cX5_plan 1 (.getfield 22) 3 4 := ⟨by decide +kernel, rfl⟩
theorem eX5_plan_4 : zD cX5_plan 4 (.aload_n 0) 1 5 := ⟨by decide +kernel, rfl⟩
theorem eX5_plan_5 : zD cX5_plan 5 (.getfield 12) 3 8 := ⟨by decide +kernel, rfl⟩
theorem eX5_plan_8 : zD cX5_plan 8 (.invokevirtual 56) 3 11 := ⟨by decide +kernel, rfl⟩
theorem eX5_plan_11 : zD cX5_plan 11 (.aload_n 0) 1 12 := ⟨by decide +kernel, rfl⟩
theorem eX5_plan_12 : zD cX5_plan 12 (.getfield 22) 3 15 := ⟨by decide +kernel, rfl⟩
theorem eX5_plan_15 : zD cX5_plan 15 (.aload_n 0) 1 16 := ⟨by decide +kernel, rfl⟩
theorem eX5_plan_16 : zD cX5_plan 16 (.iload_n 1) 1 17 := ⟨by decide +kernel, rfl⟩
theorem eX5_plan_17 : zD cX5_plan 17 (.iload_n 2) 1 18 := ⟨by decide +kernel, rfl⟩
theorem eX5_plan_18 : zD cX5_plan 18 (.iload_n 3) 1 19 := ⟨by decide +kernel, rfl⟩
theorem eX5_plan_19 : zD cX5_plan 19 (.iload 4) 2 21 := ⟨by decide +kernel, rfl⟩
theorem eX5_plan_21 : zD cX5_plan 21 (.invokevirtual 110) 3 24 := ⟨by decide +kernel, rfl⟩
theorem eX5_plan_24 : zD cX5_plan 24 (.invokevirtual 63) 3 27 := ⟨by decide +kernel, rfl⟩
theorem eX5_plan_27 : zD cX5_plan 27 (.ireturn) 1 28 := ⟨by decide +kernel, rfl⟩
theorem eX5_drop_0 : zD cX5_drop 0 (.aload_n 0) 1 1 := ⟨by decide +kernel, rfl⟩
theorem eX5_drop_1 : zD cX5_drop 1 (.getfield 22) 3 4 := ⟨by decide +kernel, rfl⟩
theorem eX5_drop_4 : zD cX5_drop 4 (.aload_n 0) 1 5 := ⟨by decide +kernel, rfl⟩
theorem eX5_drop_5 : zD cX5_drop 5 (.getfield 12) 3 8 := ⟨by decide +kernel, rfl⟩
theorem eX5_drop_8 : zD cX5_drop 8 (.invokevirtual 56) 3 11 := ⟨by decide +kernel, rfl⟩
theorem eX5_drop_11 : zD cX5_drop 11 (.aload_n 0) 1 12 := ⟨by decide +kernel, rfl⟩
theorem eX5_drop_12 : zD cX5_drop 12 (.getfield 22) 3 15 := ⟨by decide +kernel, rfl⟩
theorem eX5_drop_15 : zD cX5_drop 15 (.aload_n 0) 1 16 := ⟨by decide +kernel, rfl⟩
theorem eX5_drop_16 : zD cX5_drop 16 (.iload_n 1) 1 17 := ⟨by decide +kernel, rfl⟩
theorem eX5_drop_17 : zD cX5_drop 17 (.invokevirtual 113) 3 20 := ⟨by decide +kernel, rfl⟩
theorem eX5_drop_20 : zD cX5_drop 20 (.invokevirtual 63) 3 23 := ⟨by decide +kernel, rfl⟩
theorem eX5_drop_23 : zD cX5_drop 23 (.ireturn) 1 24 := ⟨by decide +kernel, rfl⟩
theorem eX5_hours_0 : zD cX5_hours 0 (.aload_n 0) 1 1 := ⟨by decide +kernel, rfl⟩
theorem eX5_hours_1 : zD cX5_hours 1 (.getfield 22) 3 4 := ⟨by decide +kernel, rfl⟩
theorem eX5_hours_4 : zD cX5_hours 4 (.aload_n 0) 1 5 := ⟨by decide +kernel, rfl⟩
theorem eX5_hours_5 : zD cX5_hours 5 (.getfield 12) 3 8 := ⟨by decide +kernel, rfl⟩
theorem eX5_hours_8 : zD cX5_hours 8 (.invokevirtual 56) 3 11 := ⟨by decide +kernel, rfl⟩
theorem eX5_hours_11 : zD cX5_hours 11 (.aload_n 0) 1 12 := ⟨by decide +kernel, rfl⟩
theorem eX5_hours_12 : zD cX5_hours 12 (.getfield 22) 3 15 := ⟨by decide +kernel, rfl⟩
theorem eX5_hours_15 : zD cX5_hours 15 (.aload_n 0) 1 16 := ⟨by decide +kernel, rfl⟩
theorem eX5_hours_16 : zD cX5_hours 16 (.getfield 12) 3 19 := ⟨by decide +kernel, rfl⟩
theorem eX5_hours_19 : zD cX5_hours 19 (.iload_n 1) 1 20 := ⟨by decide +kernel, rfl⟩
theorem eX5_hours_20 : zD cX5_hours 20 (.invokevirtual 116) 3 23 := ⟨by decide +kernel, rfl⟩
theorem eX5_hours_23 : zD cX5_hours 23 (.invokevirtual 63) 3 26 := ⟨by decide +kernel, rfl⟩
theorem eX5_hours_26 : zD cX5_hours 26 (.ireturn) 1 27 := ⟨by decide +kernel, rfl⟩
theorem eX5_sufferOutage_0 : zD cX5_sufferOutage 0 (.aload_n 0) 1 1 := ⟨by decide +kernel, rfl⟩
theorem eX5_sufferOutage_1 : zD cX5_sufferOutage 1 (.getfield 12) 3 4 := ⟨by decide +kernel, rfl⟩
theorem eX5_sufferOutage_4 : zD cX5_sufferOutage 4 (.iload_n 1) 1 5 := ⟨by decide +kernel, rfl⟩
theorem eX5_sufferOutage_5 : zD cX5_sufferOutage 5 (.invokevirtual 73) 3 8 := ⟨by decide +kernel, rfl⟩
theorem eX5_sufferOutage_8 : zJ cX5_sufferOutage 8 (.ifCond .ne (5)) (5) 13 3 11 := ⟨by decide +kernel, rfl, by decide⟩
theorem eX5_sufferOutage_11 : zD cX5_sufferOutage 11 (.iconst (-1)) 1 12 := ⟨by decide +kernel, rfl⟩
theorem eX5_sufferOutage_12 : zD cX5_sufferOutage 12 (.ireturn) 1 13 := ⟨by decide +kernel, rfl⟩
theorem eX5_sufferOutage_13 : zD cX5_sufferOutage 13 (.iload_n 2) 1 14 := ⟨by decide +kernel, rfl⟩
theorem eX5_sufferOutage_14 : zD cX5_sufferOutage 14 (.iconst 1) 1 15 := ⟨by decide +kernel, rfl⟩
theorem eX5_sufferOutage_15 : zD cX5_sufferOutage 15 (.sipush 600) 3 18 := ⟨by decide +kernel, rfl⟩
theorem eX5_sufferOutage_18 : zD cX5_sufferOutage 18 (.invokestatic 52) 3 21 := ⟨by decide +kernel, rfl⟩
theorem eX5_sufferOutage_21 : zJ cX5_sufferOutage 21 (.ifCond .eq (13)) (13) 34 3 24 := ⟨by decide +kernel, rfl, by decide⟩
theorem eX5_sufferOutage_24 : zD cX5_sufferOutage 24 (.iload_n 3) 1 25 := ⟨by decide +kernel, rfl⟩
theorem eX5_sufferOutage_25 : zD cX5_sufferOutage 25 (.iconst 1) 1 26 := ⟨by decide +kernel, rfl⟩
theorem eX5_sufferOutage_26 : zD cX5_sufferOutage 26 (.bipush 100) 2 28 := ⟨by decide +kernel, rfl⟩
theorem eX5_sufferOutage_28 : zD cX5_sufferOutage 28 (.invokestatic 52) 3 31 := ⟨by decide +kernel, rfl⟩
theorem eX5_sufferOutage_31 : zJ cX5_sufferOutage 31 (.ifCond .ne (6)) (6) 37 3 34 := ⟨by decide +kernel, rfl, by decide⟩
theorem eX5_sufferOutage_34 : zD cX5_sufferOutage 34 (.bipush (-2)) 2 36 := ⟨by decide +kernel, rfl⟩
theorem eX5_sufferOutage_36 : zD cX5_sufferOutage 36 (.ireturn) 1 37 := ⟨by decide +kernel, rfl⟩
theorem eX5_sufferOutage_37 : zD cX5_sufferOutage 37 (.aload_n 0) 1 38 := ⟨by decide +kernel, rfl⟩
theorem eX5_sufferOutage_38 : zD cX5_sufferOutage 38 (.getfield 12) 3 41 := ⟨by decide +kernel, rfl⟩
theorem eX5_sufferOutage_41 : zD cX5_sufferOutage 41 (.iload_n 1) 1 42 := ⟨by decide +kernel, rfl⟩
theorem eX5_sufferOutage_42 : zD cX5_sufferOutage 42 (.iconst 3) 1 43 := ⟨by decide +kernel, rfl⟩
theorem eX5_sufferOutage_43 : zD cX5_sufferOutage 43 (.iload_n 2) 1 44 := ⟨by decide +kernel, rfl⟩
theorem eX5_sufferOutage_44 : zD cX5_sufferOutage 44 (.iload_n 3) 1 45 := ⟨by decide +kernel, rfl⟩
theorem eX5_sufferOutage_45 : zD cX5_sufferOutage 45 (.imul) 1 46 := ⟨by decide +kernel, rfl⟩
theorem eX5_sufferOutage_46 : zD cX5_sufferOutage 46 (.bipush 99) 2 48 := ⟨by decide +kernel, rfl⟩
theorem eX5_sufferOutage_48 : zD cX5_sufferOutage 48 (.iadd) 1 49 := ⟨by decide +kernel, rfl⟩
theorem eX5_sufferOutage_49 : zD cX5_sufferOutage 49 (.bipush 100) 2 51 := ⟨by decide +kernel, rfl⟩
theorem eX5_sufferOutage_51 : zD cX5_sufferOutage 51 (.idiv) 1 52 := ⟨by decide +kernel, rfl⟩
theorem eX5_sufferOutage_52 : zD cX5_sufferOutage 52 (.i2l) 1 53 := ⟨by decide +kernel, rfl⟩
theorem eX5_sufferOutage_53 : zD cX5_sufferOutage 53 (.invokevirtual 119) 3 56 := ⟨by decide +kernel, rfl⟩
theorem eX5_sufferOutage_56 : zD cX5_sufferOutage 56 (.aload_n 0) 1 57 := ⟨by decide +kernel, rfl⟩
theorem eX5_sufferOutage_57 : zD cX5_sufferOutage 57 (.getfield 12) 3 60 := ⟨by decide +kernel, rfl⟩
theorem eX5_sufferOutage_60 : zD cX5_sufferOutage 60 (.iload_n 1) 1 61 := ⟨by decide +kernel, rfl⟩
theorem eX5_sufferOutage_61 : zD cX5_sufferOutage 61 (.invokevirtual 123) 3 64 := ⟨by decide +kernel, rfl⟩
theorem eX5_sufferOutage_64 : zJ cX5_sufferOutage 64 (.ifCond .eq (7)) (7) 71 3 67 := ⟨by decide +kernel, rfl, by decide⟩
theorem eX5_sufferOutage_67 : zD cX5_sufferOutage 67 (.iconst 1) 1 68 := ⟨by decide +kernel, rfl⟩
theorem eX5_sufferOutage_68 : zJ cX5_sufferOutage 68 (.goto (4)) (4) 72 3 71 := ⟨by decide +kernel, rfl, by decide⟩
theorem eX5_sufferOutage_71 : zD cX5_sufferOutage 71 (.iconst 0) 1 72 := ⟨by decide +kernel, rfl⟩
theorem eX5_sufferOutage_72 : zD cX5_sufferOutage 72 (.ireturn) 1 73 := ⟨by decide +kernel, rfl⟩
theorem eX5_tryRelease_0 : zD cX5_tryRelease 0 (.aload_n 0) 1 1 := ⟨by decide +kernel, rfl⟩
theorem eX5_tryRelease_1 : zD cX5_tryRelease 1 (.getfield 12) 3 4 := ⟨by decide +kernel, rfl⟩
theorem eX5_tryRelease_4 : zD cX5_tryRelease 4 (.iload_n 1) 1 5 := ⟨by decide +kernel, rfl⟩
theorem eX5_tryRelease_5 : zD cX5_tryRelease 5 (.invokevirtual 73) 3 8 := ⟨by decide +kernel, rfl⟩
theorem eX5_tryRelease_8 : zJ cX5_tryRelease 8 (.ifCond .ne (5)) (5) 13 3 11 := ⟨by decide +kernel, rfl, by decide⟩
theorem eX5_tryRelease_11 : zD cX5_tryRelease 11 (.iconst (-1)) 1 12 := ⟨by decide +kernel, rfl⟩
theorem eX5_tryRelease_12 : zD cX5_tryRelease 12 (.ireturn) 1 13 := ⟨by decide +kernel, rfl⟩
theorem eX5_tryRelease_13 : zD cX5_tryRelease 13 (.iload_n 2) 1 14 := ⟨by decide +kernel, rfl⟩
theorem eX5_tryRelease_14 : zD cX5_tryRelease 14 (.iconst 1) 1 15 := ⟨by decide +kernel, rfl⟩
theorem eX5_tryRelease_15 : zD cX5_tryRelease 15 (.sipush 200) 3 18 := ⟨by decide +kernel, rfl⟩
theorem eX5_tryRelease_18 : zD cX5_tryRelease 18 (.invokestatic 52) 3 21 := ⟨by decide +kernel, rfl⟩
theorem eX5_tryRelease_21 : zJ cX5_tryRelease 21 (.ifCond .eq (12)) (12) 33 3 24 := ⟨by decide +kernel, rfl, by decide⟩
theorem eX5_tryRelease_24 : zD cX5_tryRelease 24 (.iload_n 3) 1 25 := ⟨by decide +kernel, rfl⟩
theorem eX5_tryRelease_25 : zD cX5_tryRelease 25 (.iconst 0) 1 26 := ⟨by decide +kernel, rfl⟩
theorem eX5_tryRelease_26 : zD cX5_tryRelease 26 (.iconst 1) 1 27 := ⟨by decide +kernel, rfl⟩
theorem eX5_tryRelease_27 : zD cX5_tryRelease 27 (.invokestatic 52) 3 30 := ⟨by decide +kernel, rfl⟩
theorem eX5_tryRelease_30 : zJ cX5_tryRelease 30 (.ifCond .ne (6)) (6) 36 3 33 := ⟨by decide +kernel, rfl, by decide⟩
theorem eX5_tryRelease_33 : zD cX5_tryRelease 33 (.bipush (-2)) 2 35 := ⟨by decide +kernel, rfl⟩
theorem eX5_tryRelease_35 : zD cX5_tryRelease 35 (.ireturn) 1 36 := ⟨by decide +kernel, rfl⟩
theorem eX5_tryRelease_36 : zD cX5_tryRelease 36 (.aload_n 0) 1 37 := ⟨by decide +kernel, rfl⟩
theorem eX5_tryRelease_37 : zD cX5_tryRelease 37 (.getfield 12) 3 40 := ⟨by decide +kernel, rfl⟩
theorem eX5_tryRelease_40 : zD cX5_tryRelease 40 (.iload_n 1) 1 41 := ⟨by decide +kernel, rfl⟩
theorem eX5_tryRelease_41 : zD cX5_tryRelease 41 (.invokevirtual 123) 3 44 := ⟨by decide +kernel, rfl⟩
theorem eX5_tryRelease_44 : zD cX5_tryRelease 44 (.istore 4) 2 46 := ⟨by decide +kernel, rfl⟩
theorem eX5_tryRelease_46 : zD cX5_tryRelease 46 (.iload 4) 2 48 := ⟨by decide +kernel, rfl⟩
theorem eX5_tryRelease_48 : zJ cX5_tryRelease 48 (.ifCond .eq (25)) (25) 73 3 51 := ⟨by decide +kernel, rfl, by decide⟩
theorem eX5_tryRelease_51 : zD cX5_tryRelease 51 (.iload_n 3) 1 52 := ⟨by decide +kernel, rfl⟩
theorem eX5_tryRelease_52 : zJ cX5_tryRelease 52 (.ifCond .eq (15)) (15) 67 3 55 := ⟨by decide +kernel, rfl, by decide⟩
theorem eX5_tryRelease_55 : zD cX5_tryRelease 55 (.aload_n 0) 1 56 := ⟨by decide +kernel, rfl⟩
theorem eX5_tryRelease_56 : zD cX5_tryRelease 56 (.getfield 12) 3 59 := ⟨by decide +kernel, rfl⟩
theorem eX5_tryRelease_59 : zD cX5_tryRelease 59 (.getfield 126) 3 62 := ⟨by decide +kernel, rfl⟩
theorem eX5_tryRelease_62 : zD cX5_tryRelease 62 (.iload_n 1) 1 63 := ⟨by decide +kernel, rfl⟩
theorem eX5_tryRelease_63 : zD cX5_tryRelease 63 (.iaload) 1 64 := ⟨by decide +kernel, rfl⟩
theorem eX5_tryRelease_64 : zJ cX5_tryRelease 64 (.ifCond .ne (9)) (9) 73 3 67 := ⟨by decide +kernel, rfl, by decide⟩
theorem eX5_tryRelease_67 : zD cX5_tryRelease 67 (.aload_n 0) 1 68 := ⟨by decide +kernel, rfl⟩
theorem eX5_tryRelease_68 : zD cX5_tryRelease 68 (.iconst 1) 1 69 := ⟨by decide +kernel, rfl⟩
theorem eX5_tryRelease_69 : zD cX5_tryRelease 69 (.invokevirtual 129) 3 72 := ⟨by decide +kernel, rfl⟩
theorem eX5_tryRelease_72 : zD cX5_tryRelease 72 (.ireturn) 1 73 := ⟨by decide +kernel, rfl⟩
theorem eX5_tryRelease_73 : zD cX5_tryRelease 73 (.iload 4) 2 75 := ⟨by decide +kernel, rfl⟩
theorem eX5_tryRelease_75 : zJ cX5_tryRelease 75 (.ifCond .eq (16)) (16) 91 3 78 := ⟨by decide +kernel, rfl, by decide⟩
theorem eX5_tryRelease_78 : zD cX5_tryRelease 78 (.aload_n 0) 1 79 := ⟨by decide +kernel, rfl⟩
theorem eX5_tryRelease_79 : zD cX5_tryRelease 79 (.getfield 12) 3 82 := ⟨by decide +kernel, rfl⟩
theorem eX5_tryRelease_82 : zD cX5_tryRelease 82 (.getfield 126) 3 85 := ⟨by decide +kernel, rfl⟩
theorem eX5_tryRelease_85 : zD cX5_tryRelease 85 (.iload_n 1) 1 86 := ⟨by decide +kernel, rfl⟩
theorem eX5_tryRelease_86 : zD cX5_tryRelease 86 (.dup2) 1 87 := ⟨by decide +kernel, rfl⟩
theorem eX5_tryRelease_87 : zD cX5_tryRelease 87 (.iaload) 1 88 := ⟨by decide +kernel, rfl⟩
theorem eX5_tryRelease_88 : zD cX5_tryRelease 88 (.iconst 1) 1 89 := ⟨by decide +kernel, rfl⟩
theorem eX5_tryRelease_89 : zD cX5_tryRelease 89 (.isub) 1 90 := ⟨by decide +kernel, rfl⟩
theorem eX5_tryRelease_90 : zD cX5_tryRelease 90 (.iastore) 1 91 := ⟨by decide +kernel, rfl⟩
theorem eX5_tryRelease_91 : zD cX5_tryRelease 91 (.aload_n 0) 1 92 := ⟨by decide +kernel, rfl⟩
theorem eX5_tryRelease_92 : zD cX5_tryRelease 92 (.getfield 12) 3 95 := ⟨by decide +kernel, rfl⟩
theorem eX5_tryRelease_95 : zD cX5_tryRelease 95 (.iload_n 1) 1 96 := ⟨by decide +kernel, rfl⟩
theorem eX5_tryRelease_96 : zD cX5_tryRelease 96 (.iload_n 2) 1 97 := ⟨by decide +kernel, rfl⟩
theorem eX5_tryRelease_97 : zD cX5_tryRelease 97 (.invokevirtual 132) 3 100 := ⟨by decide +kernel, rfl⟩
theorem eX5_tryRelease_100 : zD cX5_tryRelease 100 (.iload 4) 2 102 := ⟨by decide +kernel, rfl⟩
theorem eX5_tryRelease_102 : zJ cX5_tryRelease 102 (.ifCond .eq (7)) (7) 109 3 105 := ⟨by decide +kernel, rfl, by decide⟩
theorem eX5_tryRelease_105 : zD cX5_tryRelease 105 (.iconst 1) 1 106 := ⟨by decide +kernel, rfl⟩
theorem eX5_tryRelease_106 : zJ cX5_tryRelease 106 (.goto (4)) (4) 110 3 109 := ⟨by decide +kernel, rfl, by decide⟩
theorem eX5_tryRelease_109 : zD cX5_tryRelease 109 (.iconst 0) 1 110 := ⟨by decide +kernel, rfl⟩
theorem eX5_tryRelease_110 : zD cX5_tryRelease 110 (.ireturn) 1 111 := ⟨by decide +kernel, rfl⟩
theorem eX5_tryLoan_0 : zD cX5_tryLoan 0 (.aload_n 0) 1 1 := ⟨by decide +kernel, rfl⟩
theorem eX5_tryLoan_1 : zD cX5_tryLoan 1 (.getfield 12) 3 4 := ⟨by decide +kernel, rfl⟩
theorem eX5_tryLoan_4 : zD cX5_tryLoan 4 (.iload_n 1) 1 5 := ⟨by decide +kernel, rfl⟩
theorem eX5_tryLoan_5 : zD cX5_tryLoan 5 (.invokevirtual 73) 3 8 := ⟨by decide +kernel, rfl⟩
theorem eX5_tryLoan_8 : zJ cX5_tryLoan 8 (.ifCond .eq (19)) (19) 27 3 11 := ⟨by decide +kernel, rfl, by decide⟩
theorem eX5_tryLoan_11 : zD cX5_tryLoan 11 (.aload_n 0) 1 12 := ⟨by decide +kernel, rfl⟩
theorem eX5_tryLoan_12 : zD cX5_tryLoan 12 (.getfield 12) 3 15 := ⟨by decide +kernel, rfl⟩
theorem eX5_tryLoan_15 : zD cX5_tryLoan 15 (.iload_n 2) 1 16 := ⟨by decide +kernel, rfl⟩
theorem eX5_tryLoan_16 : zD cX5_tryLoan 16 (.invokevirtual 73) 3 19 := ⟨by decide +kernel, rfl⟩
theorem eX5_tryLoan_19 : zJ cX5_tryLoan 19 (.ifCond .eq (8)) (8) 27 3 22 := ⟨by decide +kernel, rfl, by decide⟩
theorem eX5_tryLoan_22 : zD cX5_tryLoan 22 (.iload_n 1) 1 23 := ⟨by decide +kernel, rfl⟩
theorem eX5_tryLoan_23 : zD cX5_tryLoan 23 (.iload_n 2) 1 24 := ⟨by decide +kernel, rfl⟩
theorem eX5_tryLoan_24 : zJ cX5_tryLoan 24 (.if_icmp .ne (5)) (5) 29 3 27 := ⟨by decide +kernel, rfl, by decide⟩
theorem eX5_tryLoan_27 : zD cX5_tryLoan 27 (.iconst (-1)) 1 28 := ⟨by decide +kernel, rfl⟩
theorem eX5_tryLoan_28 : zD cX5_tryLoan 28 (.ireturn) 1 29 := ⟨by decide +kernel, rfl⟩
theorem eX5_tryLoan_29 : zD cX5_tryLoan 29 (.iload_n 3) 1 30 := ⟨by decide +kernel, rfl⟩
theorem eX5_tryLoan_30 : zD cX5_tryLoan 30 (.iconst 1) 1 31 := ⟨by decide +kernel, rfl⟩
theorem eX5_tryLoan_31 : zD cX5_tryLoan 31 (.sipush 5000) 3 34 := ⟨by decide +kernel, rfl⟩
theorem eX5_tryLoan_34 : zD cX5_tryLoan 34 (.invokestatic 52) 3 37 := ⟨by decide +kernel, rfl⟩
theorem eX5_tryLoan_37 : zJ cX5_tryLoan 37 (.ifCond .eq (14)) (14) 51 3 40 := ⟨by decide +kernel, rfl, by decide⟩
theorem eX5_tryLoan_40 : zD cX5_tryLoan 40 (.iload 4) 2 42 := ⟨by decide +kernel, rfl⟩
theorem eX5_tryLoan_42 : zD cX5_tryLoan 42 (.iconst 1) 1 43 := ⟨by decide +kernel, rfl⟩
theorem eX5_tryLoan_43 : zD cX5_tryLoan 43 (.bipush 9) 2 45 := ⟨by decide +kernel, rfl⟩
theorem eX5_tryLoan_45 : zD cX5_tryLoan 45 (.invokestatic 52) 3 48 := ⟨by decide +kernel, rfl⟩
theorem eX5_tryLoan_48 : zJ cX5_tryLoan 48 (.ifCond .ne (6)) (6) 54 3 51 := ⟨by decide +kernel, rfl, by decide⟩
theorem eX5_tryLoan_51 : zD cX5_tryLoan 51 (.bipush (-2)) 2 53 := ⟨by decide +kernel, rfl⟩
theorem eX5_tryLoan_53 : zD cX5_tryLoan 53 (.ireturn) 1 54 := ⟨by decide +kernel, rfl⟩
theorem eX5_tryLoan_54 : zD cX5_tryLoan 54 (.aload_n 0) 1 55 := ⟨by decide +kernel, rfl⟩
theorem eX5_tryLoan_55 : zD cX5_tryLoan 55 (.getfield 12) 3 58 := ⟨by decide +kernel, rfl⟩
theorem eX5_tryLoan_58 : zD cX5_tryLoan 58 (.getfield 91) 3 61 := ⟨by decide +kernel, rfl⟩
theorem eX5_tryLoan_61 : zD cX5_tryLoan 61 (.getfield 136) 3 64 := ⟨by decide +kernel, rfl⟩
theorem eX5_tryLoan_64 : zD cX5_tryLoan 64 (.bipush 40) 2 66 := ⟨by decide +kernel, rfl⟩
theorem eX5_tryLoan_66 : zJ cX5_tryLoan 66 (.if_icmp .lt (6)) (6) 72 3 69 := ⟨by decide +kernel, rfl, by decide⟩
theorem eX5_tryLoan_69 : zD cX5_tryLoan 69 (.bipush (-4)) 2 71 := ⟨by decide +kernel, rfl⟩
theorem eX5_tryLoan_71 : zD cX5_tryLoan 71 (.ireturn) 1 72 := ⟨by decide +kernel, rfl⟩
theorem eX5_tryLoan_72 : zD cX5_tryLoan 72 (.aload_n 0) 1 73 := ⟨by decide +kernel, rfl⟩
theorem eX5_tryLoan_73 : zD cX5_tryLoan 73 (.getfield 12) 3 76 := ⟨by decide +kernel, rfl⟩
theorem eX5_tryLoan_76 : zD cX5_tryLoan 76 (.iload_n 1) 1 77 := ⟨by decide +kernel, rfl⟩
theorem eX5_tryLoan_77 : zD cX5_tryLoan 77 (.iload_n 2) 1 78 := ⟨by decide +kernel, rfl⟩
theorem eX5_tryLoan_78 : zD cX5_tryLoan 78 (.iload_n 3) 1 79 := ⟨by decide +kernel, rfl⟩
theorem eX5_tryLoan_79 : zD cX5_tryLoan 79 (.invokevirtual 139) 3 82 := ⟨by decide +kernel, rfl⟩
theorem eX5_tryLoan_82 : zD cX5_tryLoan 82 (.istore 5) 2 84 := ⟨by decide +kernel, rfl⟩
theorem eX5_tryLoan_84 : zD cX5_tryLoan 84 (.iload 5) 2 86 := ⟨by decide +kernel, rfl⟩
theorem eX5_tryLoan_86 : zJ cX5_tryLoan 86 (.ifCond .eq (10)) (10) 96 3 89 := ⟨by decide +kernel, rfl, by decide⟩
theorem eX5_tryLoan_89 : zD cX5_tryLoan 89 (.aload_n 0) 1 90 := ⟨by decide +kernel, rfl⟩
theorem eX5_tryLoan_90 : zD cX5_tryLoan 90 (.iload 5) 2 92 := ⟨by decide +kernel, rfl⟩
theorem eX5_tryLoan_92 : zD cX5_tryLoan 92 (.invokevirtual 129) 3 95 := ⟨by decide +kernel, rfl⟩
theorem eX5_tryLoan_95 : zD cX5_tryLoan 95 (.ireturn) 1 96 := ⟨by decide +kernel, rfl⟩
theorem eX5_tryLoan_96 : zD cX5_tryLoan 96 (.aload_n 0) 1 97 := ⟨by decide +kernel, rfl⟩
theorem eX5_tryLoan_97 : zD cX5_tryLoan 97 (.getfield 12) 3 100 := ⟨by decide +kernel, rfl⟩
theorem eX5_tryLoan_100 : zD cX5_tryLoan 100 (.iload_n 1) 1 101 := ⟨by decide +kernel, rfl⟩
theorem eX5_tryLoan_101 : zD cX5_tryLoan 101 (.iload_n 2) 1 102 := ⟨by decide +kernel, rfl⟩
theorem eX5_tryLoan_102 : zD cX5_tryLoan 102 (.iload_n 3) 1 103 := ⟨by decide +kernel, rfl⟩
theorem eX5_tryLoan_103 : zD cX5_tryLoan 103 (.iload 4) 2 105 := ⟨by decide +kernel, rfl⟩
theorem eX5_tryLoan_105 : zD cX5_tryLoan 105 (.invokevirtual 142) 3 108 := ⟨by decide +kernel, rfl⟩
theorem eX5_tryLoan_108 : zD cX5_tryLoan 108 (.ireturn) 1 109 := ⟨by decide +kernel, rfl⟩
theorem eX5_addPlan_0 : zD cX5_addPlan 0 (.aload_n 0) 1 1 := ⟨by decide +kernel, rfl⟩
theorem eX5_addPlan_1 : zD cX5_addPlan 1 (.getfield 12) 3 4 := ⟨by decide +kernel, rfl⟩
theorem eX5_addPlan_4 : zD cX5_addPlan 4 (.iload_n 1) 1 5 := ⟨by decide +kernel, rfl⟩
theorem eX5_addPlan_5 : zD cX5_addPlan 5 (.invokevirtual 73) 3 8 := ⟨by decide +kernel, rfl⟩
theorem eX5_addPlan_8 : zJ cX5_addPlan 8 (.ifCond .ne (5)) (5) 13 3 11 := ⟨by decide +kernel, rfl, by decide⟩
theorem eX5_addPlan_11 : zD cX5_addPlan 11 (.iconst (-1)) 1 12 := ⟨by decide +kernel, rfl⟩
theorem eX5_addPlan_12 : zD cX5_addPlan 12 (.ireturn) 1 13 := ⟨by decide +kernel, rfl⟩
theorem eX5_addPlan_13 : zD cX5_addPlan 13 (.iload_n 2) 1 14 := ⟨by decide +kernel, rfl⟩
theorem eX5_addPlan_14 : zD cX5_addPlan 14 (.aload_n 0) 1 15 := ⟨by decide +kernel, rfl⟩
theorem eX5_addPlan_15 : zD cX5_addPlan 15 (.getfield 12) 3 18 := ⟨by decide +kernel, rfl⟩
theorem eX5_addPlan_18 : zD cX5_addPlan 18 (.getfield 145) 3 21 := ⟨by decide +kernel, rfl⟩
theorem eX5_addPlan_21 : zD cX5_addPlan 21 (.iconst 1) 1 22 := ⟨by decide +kernel, rfl⟩
theorem eX5_addPlan_22 : zD cX5_addPlan 22 (.iadd) 1 23 := ⟨by decide +kernel, rfl⟩
theorem eX5_addPlan_23 : zD cX5_addPlan 23 (.aload_n 0) 1 24 := ⟨by decide +kernel, rfl⟩
theorem eX5_addPlan_24 : zD cX5_addPlan 24 (.getfield 12) 3 27 := ⟨by decide +kernel, rfl⟩
theorem eX5_addPlan_27 : zD cX5_addPlan 27 (.getfield 145) 3 30 := ⟨by decide +kernel, rfl⟩
theorem eX5_addPlan_30 : zD cX5_addPlan 30 (.sipush 2000) 3 33 := ⟨by decide +kernel, rfl⟩
theorem eX5_addPlan_33 : zD cX5_addPlan 33 (.iadd) 1 34 := ⟨by decide +kernel, rfl⟩
theorem eX5_addPlan_34 : zD cX5_addPlan 34 (.invokestatic 52) 3 37 := ⟨by decide +kernel, rfl⟩
theorem eX5_addPlan_37 : zJ cX5_addPlan 37 (.ifCond .eq (25)) (25) 62 3 40 := ⟨by decide +kernel, rfl, by decide⟩
theorem eX5_addPlan_40 : zD cX5_addPlan 40 (.iload_n 3) 1 41 := ⟨by decide +kernel, rfl⟩
theorem eX5_addPlan_41 : zD cX5_addPlan 41 (.iconst 1) 1 42 := ⟨by decide +kernel, rfl⟩
theorem eX5_addPlan_42 : zD cX5_addPlan 42 (.sipush 200) 3 45 := ⟨by decide +kernel, rfl⟩
theorem eX5_addPlan_45 : zD cX5_addPlan 45 (.invokestatic 52) 3 48 := ⟨by decide +kernel, rfl⟩
theorem eX5_addPlan_48 : zJ cX5_addPlan 48 (.ifCond .eq (14)) (14) 62 3 51 := ⟨by decide +kernel, rfl, by decide⟩
theorem eX5_addPlan_51 : zD cX5_addPlan 51 (.iload 4) 2 53 := ⟨by decide +kernel, rfl⟩
theorem eX5_addPlan_53 : zD cX5_addPlan 53 (.iconst 0) 1 54 := ⟨by decide +kernel, rfl⟩
theorem eX5_addPlan_54 : zD cX5_addPlan 54 (.bipush 9) 2 56 := ⟨by decide +kernel, rfl⟩
theorem eX5_addPlan_56 : zD cX5_addPlan 56 (.invokestatic 52) 3 59 := ⟨by decide +kernel, rfl⟩
theorem eX5_addPlan_59 : zJ cX5_addPlan 59 (.ifCond .ne (6)) (6) 65 3 62 := ⟨by decide +kernel, rfl, by decide⟩
theorem eX5_addPlan_62 : zD cX5_addPlan 62 (.bipush (-2)) 2 64 := ⟨by decide +kernel, rfl⟩
theorem eX5_addPlan_64 : zD cX5_addPlan 64 (.ireturn) 1 65 := ⟨by decide +kernel, rfl⟩
theorem eX5_addPlan_65 : zD cX5_addPlan 65 (.aload_n 0) 1 66 := ⟨by decide +kernel, rfl⟩
theorem eX5_addPlan_66 : zD cX5_addPlan 66 (.getfield 12) 3 69 := ⟨by decide +kernel, rfl⟩
theorem eX5_addPlan_69 : zD cX5_addPlan 69 (.getfield 148) 3 72 := ⟨by decide +kernel, rfl⟩
theorem eX5_addPlan_72 : zD cX5_addPlan 72 (.getfield 152) 3 75 := ⟨by decide +kernel, rfl⟩
theorem eX5_addPlan_75 : zD cX5_addPlan 75 (.bipush 30) 2 77 := ⟨by decide +kernel, rfl⟩
theorem eX5_addPlan_77 : zJ cX5_addPlan 77 (.if_icmp .lt (6)) (6) 83 3 80 := ⟨by decide +kernel, rfl, by decide⟩
theorem eX5_addPlan_80 : zD cX5_addPlan 80 (.bipush (-4)) 2 82 := ⟨by decide +kernel, rfl⟩
theorem eX5_addPlan_82 : zD cX5_addPlan 82 (.ireturn) 1 83 := ⟨by decide +kernel, rfl⟩
theorem eX5_addPlan_83 : zD cX5_addPlan 83 (.aload_n 0) 1 84 := ⟨by decide +kernel, rfl⟩
theorem eX5_addPlan_84 : zD cX5_addPlan 84 (.getfield 12) 3 87 := ⟨by decide +kernel, rfl⟩
theorem eX5_addPlan_87 : zD cX5_addPlan 87 (.getfield 148) 3 90 := ⟨by decide +kernel, rfl⟩
theorem eX5_addPlan_90 : zD cX5_addPlan 90 (.iload_n 1) 1 91 := ⟨by decide +kernel, rfl⟩
theorem eX5_addPlan_91 : zD cX5_addPlan 91 (.iload_n 2) 1 92 := ⟨by decide +kernel, rfl⟩
theorem eX5_addPlan_92 : zD cX5_addPlan 92 (.iload_n 3) 1 93 := ⟨by decide +kernel, rfl⟩
theorem eX5_addPlan_93 : zD cX5_addPlan 93 (.iload 4) 2 95 := ⟨by decide +kernel, rfl⟩
theorem eX5_addPlan_95 : zD cX5_addPlan 95 (.invokevirtual 155) 3 98 := ⟨by decide +kernel, rfl⟩
theorem eX5_addPlan_98 : zD cX5_addPlan 98 (.ireturn) 1 99 := ⟨by decide +kernel, rfl⟩
theorem eX5_removePlan_0 : zD cX5_removePlan 0 (.aload_n 0) 1 1 := ⟨by decide +kernel, rfl⟩
theorem eX5_removePlan_1 : zD cX5_removePlan 1 (.getfield 12) 3 4 := ⟨by decide +kernel, rfl⟩
theorem eX5_removePlan_4 : zD cX5_removePlan 4 (.getfield 148) 3 7 := ⟨by decide +kernel, rfl⟩
theorem eX5_removePlan_7 : zD cX5_removePlan 7 (.iload_n 1) 1 8 := ⟨by decide +kernel, rfl⟩
theorem eX5_removePlan_8 : zD cX5_removePlan 8 (.invokevirtual 158) 3 11 := ⟨by decide +kernel, rfl⟩
theorem eX5_removePlan_11 : zJ cX5_removePlan 11 (.ifCond .ne (5)) (5) 16 3 14 := ⟨by decide +kernel, rfl, by decide⟩
theorem eX5_removePlan_14 : zD cX5_removePlan 14 (.iconst (-1)) 1 15 := ⟨by decide +kernel, rfl⟩
theorem eX5_removePlan_15 : zD cX5_removePlan 15 (.ireturn) 1 16 := ⟨by decide +kernel, rfl⟩
theorem eX5_removePlan_16 : zD cX5_removePlan 16 (.aload_n 0) 1 17 := ⟨by decide +kernel, rfl⟩
theorem eX5_removePlan_17 : zD cX5_removePlan 17 (.getfield 12) 3 20 := ⟨by decide +kernel, rfl⟩
theorem eX5_removePlan_20 : zD cX5_removePlan 20 (.getfield 148) 3 23 := ⟨by decide +kernel, rfl⟩
theorem eX5_removePlan_23 : zD cX5_removePlan 23 (.getfield 159) 3 26 := ⟨by decide +kernel, rfl⟩
theorem eX5_removePlan_26 : zD cX5_removePlan 26 (.iload_n 1) 1 27 := ⟨by decide +kernel, rfl⟩
theorem eX5_removePlan_27 : zD cX5_removePlan 27 (.iconst 2) 1 28 := ⟨by decide +kernel, rfl⟩
theorem eX5_removePlan_28 : zD cX5_removePlan 28 (.iastore) 1 29 := ⟨by decide +kernel, rfl⟩
theorem eX5_removePlan_29 : zD cX5_removePlan 29 (.aload_n 0) 1 30 := ⟨by decide +kernel, rfl⟩
theorem eX5_removePlan_30 : zD cX5_removePlan 30 (.getfield 12) 3 33 := ⟨by decide +kernel, rfl⟩
theorem eX5_removePlan_33 : zD cX5_removePlan 33 (.getfield 148) 3 36 := ⟨by decide +kernel, rfl⟩
theorem eX5_removePlan_36 : zD cX5_removePlan 36 (.invokevirtual 162) 3 39 := ⟨by decide +kernel, rfl⟩
theorem eX5_removePlan_39 : zD cX5_removePlan 39 (.aload_n 0) 1 40 := ⟨by decide +kernel, rfl⟩
theorem eX5_removePlan_40 : zD cX5_removePlan 40 (.getfield 12) 3 43 := ⟨by decide +kernel, rfl⟩
theorem eX5_removePlan_43 : zD cX5_removePlan 43 (.getfield 148) 3 46 := ⟨by decide +kernel, rfl⟩
theorem eX5_removePlan_46 : zD cX5_removePlan 46 (.getfield 152) 3 49 := ⟨by decide +kernel, rfl⟩
theorem eX5_removePlan_49 : zD cX5_removePlan 49 (.ireturn) 1 50 := ⟨by decide +kernel, rfl⟩
theorem eX5_obey_0 : zD cX5_obey 0 (.aload_n 0) 1 1 := ⟨by decide +kernel, rfl⟩
theorem eX5_obey_1 : zD cX5_obey 1 (.getfield 37) 3 4 := ⟨by decide +kernel, rfl⟩
theorem eX5_obey_4 : zD cX5_obey 4 (.iload_n 1) 1 5 := ⟨by decide +kernel, rfl⟩
theorem eX5_obey_5 : zD cX5_obey 5 (.iconst 0) 1 6 := ⟨by decide +kernel, rfl⟩
theorem eX5_obey_6 : zD cX5_obey 6 (.invokevirtual 165) 3 9 := ⟨by decide +kernel, rfl⟩
theorem eX5_obey_9 : zD cX5_obey 9 (.istore_n 2) 1 10 := ⟨by decide +kernel, rfl⟩
theorem eX5_obey_10 : zD cX5_obey 10 (.aload_n 0) 1 11 := ⟨by decide +kernel, rfl⟩
theorem eX5_obey_11 : zD cX5_obey 11 (.getfield 37) 3 14 := ⟨by decide +kernel, rfl⟩
theorem eX5_obey_14 : zD cX5_obey 14 (.iload_n 1) 1 15 := ⟨by decide +kernel, rfl⟩
theorem eX5_obey_15 : zD cX5_obey 15 (.iconst 1) 1 16 := ⟨by decide +kernel, rfl⟩
theorem eX5_obey_16 : zD cX5_obey 16 (.invokevirtual 165) 3 19 := ⟨by decide +kernel, rfl⟩
theorem eX5_obey_19 : zD cX5_obey 19 (.istore_n 3) 1 20 := ⟨by decide +kernel, rfl⟩
theorem eX5_obey_20 : zD cX5_obey 20 (.aload_n 0) 1 21 := ⟨by decide +kernel, rfl⟩
theorem eX5_obey_21 : zD cX5_obey 21 (.getfield 37) 3 24 := ⟨by decide +kernel, rfl⟩
theorem eX5_obey_24 : zD cX5_obey 24 (.iload_n 1) 1 25 := ⟨by decide +kernel, rfl⟩
theorem eX5_obey_25 : zD cX5_obey 25 (.iconst 2) 1 26 := ⟨by decide +kernel, rfl⟩
theorem eX5_obey_26 : zD cX5_obey 26 (.invokevirtual 165) 3 29 := ⟨by decide +kernel, rfl⟩
theorem eX5_obey_29 : zD cX5_obey 29 (.istore 4) 2 31 := ⟨by decide +kernel, rfl⟩
theorem eX5_obey_31 : zD cX5_obey 31 (.aload_n 0) 1 32 := ⟨by decide +kernel, rfl⟩
theorem eX5_obey_32 : zD cX5_obey 32 (.getfield 37) 3 35 := ⟨by decide +kernel, rfl⟩
theorem eX5_obey_35 : zD cX5_obey 35 (.iload_n 1) 1 36 := ⟨by decide +kernel, rfl⟩
theorem eX5_obey_36 : zD cX5_obey 36 (.iconst 3) 1 37 := ⟨by decide +kernel, rfl⟩
theorem eX5_obey_37 : zD cX5_obey 37 (.invokevirtual 165) 3 40 := ⟨by decide +kernel, rfl⟩
theorem eX5_obey_40 : zD cX5_obey 40 (.istore 5) 2 42 := ⟨by decide +kernel, rfl⟩
theorem eX5_obey_42 : zD cX5_obey 42 (.aload_n 0) 1 43 := ⟨by decide +kernel, rfl⟩
theorem eX5_obey_43 : zD cX5_obey 43 (.getfield 37) 3 46 := ⟨by decide +kernel, rfl⟩
theorem eX5_obey_46 : zD cX5_obey 46 (.iload_n 1) 1 47 := ⟨by decide +kernel, rfl⟩
theorem eX5_obey_47 : zD cX5_obey 47 (.invokevirtual 169) 3 50 := ⟨by decide +kernel, rfl⟩
theorem eX5_obey_50 : zD cX5_obey 50 (.tableswitch 145 104 120 #[136, 145, 145, 145, 100, 145, 145, 82, 111, 145, 91, 145, 145, 145, 145, 145, 130]) 82 132 := ⟨by decide +kernel, rfl⟩
theorem eX5_obey_132 : zD cX5_obey 132 (.aload_n 0) 1 133 := ⟨by decide +kernel, rfl⟩
theorem eX5_obey_133 : zD cX5_obey 133 (.iload_n 2) 1 134 := ⟨by decide +kernel, rfl⟩
theorem eX5_obey_134 : zD cX5_obey 134 (.iload_n 3) 1 135 := ⟨by decide +kernel, rfl⟩
theorem eX5_obey_135 : zD cX5_obey 135 (.iload 4) 2 137 := ⟨by decide +kernel, rfl⟩
theorem eX5_obey_137 : zD cX5_obey 137 (.invokevirtual 80) 3 140 := ⟨by decide +kernel, rfl⟩
theorem eX5_obey_140 : zD cX5_obey 140 (.ireturn) 1 141 := ⟨by decide +kernel, rfl⟩
theorem eX5_obey_141 : zD cX5_obey 141 (.aload_n 0) 1 142 := ⟨by decide +kernel, rfl⟩
theorem eX5_obey_142 : zD cX5_obey 142 (.iload_n 2) 1 143 := ⟨by decide +kernel, rfl⟩
theorem eX5_obey_143 : zD cX5_obey 143 (.iload_n 3) 1 144 := ⟨by decide +kernel, rfl⟩
theorem eX5_obey_144 : zD cX5_obey 144 (.iload 4) 2 146 := ⟨by decide +kernel, rfl⟩
theorem eX5_obey_146 : zD cX5_obey 146 (.invokevirtual 84) 3 149 := ⟨by decide +kernel, rfl⟩
theorem eX5_obey_149 : zD cX5_obey 149 (.ireturn) 1 150 := ⟨by decide +kernel, rfl⟩
theorem eX5_obey_150 : zD cX5_obey 150 (.aload_n 0) 1 151 := ⟨by decide +kernel, rfl⟩
theorem eX5_obey_151 : zD cX5_obey 151 (.iload_n 2) 1 152 := ⟨by decide +kernel, rfl⟩
theorem eX5_obey_152 : zD cX5_obey 152 (.iload_n 3) 1 153 := ⟨by decide +kernel, rfl⟩
theorem eX5_obey_153 : zD cX5_obey 153 (.iload 4) 2 155 := ⟨by decide +kernel, rfl⟩
theorem eX5_obey_155 : zD cX5_obey 155 (.iload 5) 2 157 := ⟨by decide +kernel, rfl⟩
theorem eX5_obey_157 : zD cX5_obey 157 (.invokevirtual 87) 3 160 := ⟨by decide +kernel, rfl⟩
theorem eX5_obey_160 : zD cX5_obey 160 (.ireturn) 1 161 := ⟨by decide +kernel, rfl⟩
theorem eX5_obey_161 : zD cX5_obey 161 (.aload_n 0) 1 162 := ⟨by decide +kernel, rfl⟩
theorem eX5_obey_162 : zD cX5_obey 162 (.iload_n 2) 1 163 := ⟨by decide +kernel, rfl⟩
theorem eX5_obey_163 : zD cX5_obey 163 (.aload_n 0) 1 164 := ⟨by decide +kernel, rfl⟩
theorem eX5_obey_164 : zD cX5_obey 164 (.getfield 12) 3 167 := ⟨by decide +kernel, rfl⟩
theorem eX5_obey_167 : zD cX5_obey 167 (.getfield 145) 3 170 := ⟨by decide +kernel, rfl⟩
theorem eX5_obey_170 : zD cX5_obey 170 (.iload_n 3) 1 171 := ⟨by decide +kernel, rfl⟩
theorem eX5_obey_171 : zD cX5_obey 171 (.iadd) 1 172 := ⟨by decide +kernel, rfl⟩
theorem eX5_obey_172 : zD cX5_obey 172 (.iload 4) 2 174 := ⟨by decide +kernel, rfl⟩
theorem eX5_obey_174 : zD cX5_obey 174 (.iload 5) 2 176 := ⟨by decide +kernel, rfl⟩
theorem eX5_obey_176 : zD cX5_obey 176 (.invokevirtual 110) 3 179 := ⟨by decide +kernel, rfl⟩
theorem eX5_obey_179 : zD cX5_obey 179 (.ireturn) 1 180 := ⟨by decide +kernel, rfl⟩
theorem eX5_obey_180 : zD cX5_obey 180 (.aload_n 0) 1 181 := ⟨by decide +kernel, rfl⟩
theorem eX5_obey_181 : zD cX5_obey 181 (.iload_n 2) 1 182 := ⟨by decide +kernel, rfl⟩
theorem eX5_obey_182 : zD cX5_obey 182 (.invokevirtual 113) 3 185 := ⟨by decide +kernel, rfl⟩
theorem eX5_obey_185 : zD cX5_obey 185 (.ireturn) 1 186 := ⟨by decide +kernel, rfl⟩
theorem eX5_obey_186 : zD cX5_obey 186 (.aload_n 0) 1 187 := ⟨by decide +kernel, rfl⟩
theorem eX5_obey_187 : zD cX5_obey 187 (.getfield 12) 3 190 := ⟨by decide +kernel, rfl⟩
theorem eX5_obey_190 : zD cX5_obey 190 (.iload_n 2) 1 191 := ⟨by decide +kernel, rfl⟩
theorem eX5_obey_191 : zD cX5_obey 191 (.invokevirtual 116) 3 194 := ⟨by decide +kernel, rfl⟩
theorem eX5_obey_194 : zD cX5_obey 194 (.ireturn) 1 195 := ⟨by decide +kernel, rfl⟩
theorem eX5_obey_195 : zD cX5_obey 195 (.bipush (-3)) 2 197 := ⟨by decide +kernel, rfl⟩
theorem eX5_obey_197 : zD cX5_obey 197 (.ireturn) 1 198 := ⟨by decide +kernel, rfl⟩
theorem eX5_refuse_0 : zD cX5_refuse 0 (.aload_n 0) 1 1 := ⟨by decide +kernel, rfl⟩
theorem eX5_refuse_1 : zD cX5_refuse 1 (.iload_n 1) 1 2 := ⟨by decide +kernel, rfl⟩
theorem eX5_refuse_2 : zD cX5_refuse 2 (.putfield 41) 3 5 := ⟨by decide +kernel, rfl⟩
theorem eX5_refuse_5 : zD cX5_refuse 5 (.bipush (-5)) 2 7 := ⟨by decide +kernel, rfl⟩
theorem eX5_refuse_7 : zD cX5_refuse 7 (.ireturn) 1 8 := ⟨by decide +kernel, rfl⟩
theorem eX5_isWithin_0 : zD cX5_isWithin 0 (.iload_n 0) 1 1 := ⟨by decide +kernel, rfl⟩
theorem eX5_isWithin_1 : zD cX5_isWithin 1 (.iload_n 1) 1 2 := ⟨by decide +kernel, rfl⟩
theorem eX5_isWithin_2 : zJ cX5_isWithin 2 (.if_icmp .lt (12)) (12) 14 3 5 := ⟨by decide +kernel, rfl, by decide⟩
theorem eX5_isWithin_5 : zD cX5_isWithin 5 (.iload_n 0) 1 6 := ⟨by decide +kernel, rfl⟩
theorem eX5_isWithin_6 : zD cX5_isWithin 6 (.iload_n 2) 1 7 := ⟨by decide +kernel, rfl⟩
theorem eX5_isWithin_7 : zJ cX5_isWithin 7 (.if_icmp .gt (7)) (7) 14 3 10 := ⟨by decide +kernel, rfl, by decide⟩
theorem eX5_isWithin_10 : zD cX5_isWithin 10 (.iconst 1) 1 11 := ⟨by decide +kernel, rfl⟩
theorem eX5_isWithin_11 : zJ cX5_isWithin 11 (.goto (4)) (4) 15 3 14 := ⟨by decide +kernel, rfl, by decide⟩
theorem eX5_isWithin_14 : zD cX5_isWithin 14 (.iconst 0) 1 15 := ⟨by decide +kernel, rfl⟩
theorem eX5_isWithin_15 : zD cX5_isWithin 15 (.ireturn) 1 16 := ⟨by decide +kernel, rfl⟩
theorem eX5_ofService_0 : zD cX5_ofService 0 (.aload_n 0) 1 1 := ⟨by decide +kernel, rfl⟩
theorem eX5_ofService_1 : zD cX5_ofService 1 (.getfield 12) 3 4 := ⟨by decide +kernel, rfl⟩
theorem eX5_ofService_4 : zD cX5_ofService 4 (.iload_n 1) 1 5 := ⟨by decide +kernel, rfl⟩
theorem eX5_ofService_5 : zD cX5_ofService 5 (.invokevirtual 73) 3 8 := ⟨by decide +kernel, rfl⟩
theorem eX5_ofService_8 : zJ cX5_ofService 8 (.ifCond .ne (5)) (5) 13 3 11 := ⟨by decide +kernel, rfl, by decide⟩
theorem eX5_ofService_11 : zD cX5_ofService 11 (.iconst (-1)) 1 12 := ⟨by decide +kernel, rfl⟩
theorem eX5_ofService_12 : zD cX5_ofService 12 (.ireturn) 1 13 := ⟨by decide +kernel, rfl⟩
theorem eX5_ofService_13 : zD cX5_ofService 13 (.aload_n 0) 1 14 := ⟨by decide +kernel, rfl⟩
theorem eX5_ofService_14 : zD cX5_ofService 14 (.getfield 12) 3 17 := ⟨by decide +kernel, rfl⟩
theorem eX5_ofService_17 : zD cX5_ofService 17 (.getfield 91) 3 20 := ⟨by decide +kernel, rfl⟩
theorem eX5_ofService_20 : zD cX5_ofService 20 (.astore_n 3) 1 21 := ⟨by decide +kernel, rfl⟩
theorem eX5_ofService_21 : zD cX5_ofService 21 (.iload_n 2) 1 22 := ⟨by decide +kernel, rfl⟩
theorem eX5_ofService_22 : zD cX5_ofService 22 (.tableswitch 177 0 10 #[58, 68, 85, 95, 105, 115, 125, 135, 147, 157, 167]) 58 80 := ⟨by decide +kernel, rfl⟩
theorem eX5_ofService_80 : zD cX5_ofService 80 (.aload_n 0) 1 81 := ⟨by decide +kernel, rfl⟩
theorem eX5_ofService_81 : zD cX5_ofService 81 (.getfield 12) 3 84 := ⟨by decide +kernel, rfl⟩
theorem eX5_ofService_84 : zD cX5_ofService 84 (.getfield 77) 3 87 := ⟨by decide +kernel, rfl⟩
theorem eX5_ofService_87 : zD cX5_ofService 87 (.iload_n 1) 1 88 := ⟨by decide +kernel, rfl⟩
theorem eX5_ofService_88 : zD cX5_ofService 88 (.iaload) 1 89 := ⟨by decide +kernel, rfl⟩
theorem eX5_ofService_89 : zD cX5_ofService 89 (.ireturn) 1 90 := ⟨by decide +kernel, rfl⟩
theorem eX5_ofService_90 : zD cX5_ofService 90 (.aload_n 0) 1 91 := ⟨by decide +kernel, rfl⟩
theorem eX5_ofService_91 : zD cX5_ofService 91 (.getfield 12) 3 94 := ⟨by decide +kernel, rfl⟩
theorem eX5_ofService_94 : zD cX5_ofService 94 (.iload_n 1) 1 95 := ⟨by decide +kernel, rfl⟩
theorem eX5_ofService_95 : zD cX5_ofService 95 (.invokevirtual 123) 3 98 := ⟨by decide +kernel, rfl⟩
theorem eX5_ofService_98 : zJ cX5_ofService 98 (.ifCond .eq (7)) (7) 105 3 101 := ⟨by decide +kernel, rfl, by decide⟩
theorem eX5_ofService_101 : zD cX5_ofService 101 (.iconst 1) 1 102 := ⟨by decide +kernel, rfl⟩
theorem eX5_ofService_102 : zJ cX5_ofService 102 (.goto (4)) (4) 106 3 105 := ⟨by decide +kernel, rfl, by decide⟩
theorem eX5_ofService_105 : zD cX5_ofService 105 (.iconst 0) 1 106 := ⟨by decide +kernel, rfl⟩
theorem eX5_ofService_106 : zD cX5_ofService 106 (.ireturn) 1 107 := ⟨by decide +kernel, rfl⟩
theorem eX5_ofService_107 : zD cX5_ofService 107 (.aload_n 0) 1 108 := ⟨by decide +kernel, rfl⟩
theorem eX5_ofService_108 : zD cX5_ofService 108 (.getfield 12) 3 111 := ⟨by decide +kernel, rfl⟩
theorem eX5_ofService_111 : zD cX5_ofService 111 (.getfield 126) 3 114 := ⟨by decide +kernel, rfl⟩
theorem eX5_ofService_114 : zD cX5_ofService 114 (.iload_n 1) 1 115 := ⟨by decide +kernel, rfl⟩
theorem eX5_ofService_115 : zD cX5_ofService 115 (.iaload) 1 116 := ⟨by decide +kernel, rfl⟩
theorem eX5_ofService_116 : zD cX5_ofService 116 (.ireturn) 1 117 := ⟨by decide +kernel, rfl⟩
theorem eX5_ofService_117 : zD cX5_ofService 117 (.aload_n 3) 1 118 := ⟨by decide +kernel, rfl⟩
theorem eX5_ofService_118 : zD cX5_ofService 118 (.aload_n 3) 1 119 := ⟨by decide +kernel, rfl⟩
theorem eX5_ofService_119 : zD cX5_ofService 119 (.getfield 173) 3 122 := ⟨by decide +kernel, rfl⟩
theorem eX5_ofService_122 : zD cX5_ofService 122 (.iload_n 1) 1 123 := ⟨by decide +kernel, rfl⟩
theorem eX5_ofService_123 : zD cX5_ofService 123 (.invokevirtual 176) 3 126 := ⟨by decide +kernel, rfl⟩
theorem eX5_ofService_126 : zD cX5_ofService 126 (.ireturn) 1 127 := ⟨by decide +kernel, rfl⟩
theorem eX5_ofService_127 : zD cX5_ofService 127 (.aload_n 3) 1 128 := ⟨by decide +kernel, rfl⟩
theorem eX5_ofService_128 : zD cX5_ofService 128 (.aload_n 3) 1 129 := ⟨by decide +kernel, rfl⟩
theorem eX5_ofService_129 : zD cX5_ofService 129 (.getfield 180) 3 132 := ⟨by decide +kernel, rfl⟩
theorem eX5_ofService_132 : zD cX5_ofService 132 (.iload_n 1) 1 133 := ⟨by decide +kernel, rfl⟩
theorem eX5_ofService_133 : zD cX5_ofService 133 (.invokevirtual 176) 3 136 := ⟨by decide +kernel, rfl⟩
theorem eX5_ofService_136 : zD cX5_ofService 136 (.ireturn) 1 137 := ⟨by decide +kernel, rfl⟩
theorem eX5_ofService_137 : zD cX5_ofService 137 (.aload_n 3) 1 138 := ⟨by decide +kernel, rfl⟩
theorem eX5_ofService_138 : zD cX5_ofService 138 (.aload_n 3) 1 139 := ⟨by decide +kernel, rfl⟩
theorem eX5_ofService_139 : zD cX5_ofService 139 (.getfield 173) 3 142 := ⟨by decide +kernel, rfl⟩
theorem eX5_ofService_142 : zD cX5_ofService 142 (.iload_n 1) 1 143 := ⟨by decide +kernel, rfl⟩
theorem eX5_ofService_143 : zD cX5_ofService 143 (.invokevirtual 183) 3 146 := ⟨by decide +kernel, rfl⟩
theorem eX5_ofService_146 : zD cX5_ofService 146 (.ireturn) 1 147 := ⟨by decide +kernel, rfl⟩
theorem eX5_ofService_147 : zD cX5_ofService 147 (.aload_n 3) 1 148 := ⟨by decide +kernel, rfl⟩
theorem eX5_ofService_148 : zD cX5_ofService 148 (.aload_n 3) 1 149 := ⟨by decide +kernel, rfl⟩
theorem eX5_ofService_149 : zD cX5_ofService 149 (.getfield 180) 3 152 := ⟨by decide +kernel, rfl⟩
theorem eX5_ofService_152 : zD cX5_ofService 152 (.iload_n 1) 1 153 := ⟨by decide +kernel, rfl⟩
theorem eX5_ofService_153 : zD cX5_ofService 153 (.invokevirtual 183) 3 156 := ⟨by decide +kernel, rfl⟩
theorem eX5_ofService_156 : zD cX5_ofService 156 (.ireturn) 1 157 := ⟨by decide +kernel, rfl⟩
theorem eX5_ofService_157 : zD cX5_ofService 157 (.aload_n 0) 1 158 := ⟨by decide +kernel, rfl⟩
theorem eX5_ofService_158 : zD cX5_ofService 158 (.getfield 12) 3 161 := ⟨by decide +kernel, rfl⟩
theorem eX5_ofService_161 : zD cX5_ofService 161 (.getfield 148) 3 164 := ⟨by decide +kernel, rfl⟩
theorem eX5_ofService_164 : zD cX5_ofService 164 (.iload_n 1) 1 165 := ⟨by decide +kernel, rfl⟩
theorem eX5_ofService_165 : zD cX5_ofService 165 (.invokevirtual 186) 3 168 := ⟨by decide +kernel, rfl⟩
theorem eX5_ofService_168 : zD cX5_ofService 168 (.ireturn) 1 169 := ⟨by decide +kernel, rfl⟩
theorem eX5_ofService_169 : zD cX5_ofService 169 (.aload_n 0) 1 170 := ⟨by decide +kernel, rfl⟩
theorem eX5_ofService_170 : zD cX5_ofService 170 (.getfield 12) 3 173 := ⟨by decide +kernel, rfl⟩
theorem eX5_ofService_173 : zD cX5_ofService 173 (.getfield 188) 3 176 := ⟨by decide +kernel, rfl⟩
theorem eX5_ofService_176 : zD cX5_ofService 176 (.iload_n 1) 1 177 := ⟨by decide +kernel, rfl⟩
theorem eX5_ofService_177 : zD cX5_ofService 177 (.iaload) 1 178 := ⟨by decide +kernel, rfl⟩
theorem eX5_ofService_178 : zD cX5_ofService 178 (.ireturn) 1 179 := ⟨by decide +kernel, rfl⟩
theorem eX5_ofService_179 : zD cX5_ofService 179 (.aload_n 0) 1 180 := ⟨by decide +kernel, rfl⟩
theorem eX5_ofService_180 : zD cX5_ofService 180 (.getfield 12) 3 183 := ⟨by decide +kernel, rfl⟩
theorem eX5_ofService_183 : zD cX5_ofService 183 (.getfield 191) 3 186 := ⟨by decide +kernel, rfl⟩
theorem eX5_ofService_186 : zD cX5_ofService 186 (.iload_n 1) 1 187 := ⟨by decide +kernel, rfl⟩
theorem eX5_ofService_187 : zD cX5_ofService 187 (.iaload) 1 188 := ⟨by decide +kernel, rfl⟩
theorem eX5_ofService_188 : zD cX5_ofService 188 (.ireturn) 1 189 := ⟨by decide +kernel, rfl⟩
theorem eX5_ofService_189 : zD cX5_ofService 189 (.aload_n 0) 1 190 := ⟨by decide +kernel, rfl⟩
theorem eX5_ofService_190 : zD cX5_ofService 190 (.getfield 12) 3 193 := ⟨by decide +kernel, rfl⟩
theorem eX5_ofService_193 : zD cX5_ofService 193 (.getfield 194) 3 196 := ⟨by decide +kernel, rfl⟩
theorem eX5_ofService_196 : zD cX5_ofService 196 (.iload_n 1) 1 197 := ⟨by decide +kernel, rfl⟩
theorem eX5_ofService_197 : zD cX5_ofService 197 (.iaload) 1 198 := ⟨by decide +kernel, rfl⟩
theorem eX5_ofService_198 : zD cX5_ofService 198 (.ireturn) 1 199 := ⟨by decide +kernel, rfl⟩
theorem eX5_ofService_199 : zD cX5_ofService 199 (.bipush (-2)) 2 201 := ⟨by decide +kernel, rfl⟩
theorem eX5_ofService_201 : zD cX5_ofService 201 (.ireturn) 1 202 := ⟨by decide +kernel, rfl⟩
theorem eX5_account_0 : zD cX5_account 0 (.aload_n 0) 1 1 := ⟨by decide +kernel, rfl⟩
theorem eX5_account_1 : zD cX5_account 1 (.getfield 12) 3 4 := ⟨by decide +kernel, rfl⟩
theorem eX5_account_4 : zD cX5_account 4 (.iload_n 1) 1 5 := ⟨by decide +kernel, rfl⟩
theorem eX5_account_5 : zD cX5_account 5 (.invokevirtual 73) 3 8 := ⟨by decide +kernel, rfl⟩
theorem eX5_account_8 : zJ cX5_account 8 (.ifCond .ne (7)) (7) 15 3 11 := ⟨by decide +kernel, rfl, by decide⟩
theorem eX5_account_11 : zD cX5_account 11 (.ldc2_w 197) 3 14 := ⟨by decide +kernel, rfl⟩
theorem eX5_account_14 : zD cX5_account 14 (.lreturn) 1 15 := ⟨by decide +kernel, rfl⟩
theorem eX5_account_15 : zD cX5_account 15 (.iload_n 2) 1 16 := ⟨by decide +kernel, rfl⟩
theorem eX5_account_16 : zJ cX5_account 16 (.ifCond .lt (9)) (9) 25 3 19 := ⟨by decide +kernel, rfl, by decide⟩
theorem eX5_account_19 : zD cX5_account 19 (.iload_n 2) 1 20 := ⟨by decide +kernel, rfl⟩
theorem eX5_account_20 : zD cX5_account 20 (.bipush 9) 2 22 := ⟨by decide +kernel, rfl⟩
theorem eX5_account_22 : zJ cX5_account 22 (.if_icmp .lt (7)) (7) 29 3 25 := ⟨by decide +kernel, rfl, by decide⟩
theorem eX5_account_25 : zD cX5_account 25 (.ldc2_w 199) 3 28 := ⟨by decide +kernel, rfl⟩
theorem eX5_account_28 : zD cX5_account 28 (.lreturn) 1 29 := ⟨by decide +kernel, rfl⟩
theorem eX5_account_29 : zD cX5_account 29 (.aload_n 0) 1 30 := ⟨by decide +kernel, rfl⟩
theorem eX5_account_30 : zD cX5_account 30 (.getfield 12) 3 33 := ⟨by decide +kernel, rfl⟩
theorem eX5_account_33 : zD cX5_account 33 (.iload_n 1) 1 34 := ⟨by decide +kernel, rfl⟩
theorem eX5_account_34 : zD cX5_account 34 (.iload_n 2) 1 35 := ⟨by decide +kernel, rfl⟩
theorem eX5_account_35 : zD cX5_account 35 (.invokevirtual 201) 3 38 := ⟨by decide +kernel, rfl⟩
theorem eX5_account_38 : zD cX5_account 38 (.lreturn) 1 39 := ⟨by decide +kernel, rfl⟩
theorem eX5_ofLoan_0 : zD cX5_ofLoan 0 (.aload_n 0) 1 1 := ⟨by decide +kernel, rfl⟩
theorem eX5_ofLoan_1 : zD cX5_ofLoan 1 (.getfield 12) 3 4 := ⟨by decide +kernel, rfl⟩
theorem eX5_ofLoan_4 : zD cX5_ofLoan 4 (.getfield 91) 3 7 := ⟨by decide +kernel, rfl⟩
theorem eX5_ofLoan_7 : zD cX5_ofLoan 7 (.astore_n 3) 1 8 := ⟨by decide +kernel, rfl⟩
theorem eX5_ofLoan_8 : zD cX5_ofLoan 8 (.aload_n 3) 1 9 := ⟨by decide +kernel, rfl⟩
theorem eX5_ofLoan_9 : zD cX5_ofLoan 9 (.iload_n 1) 1 10 := ⟨by decide +kernel, rfl⟩
theorem eX5_ofLoan_10 : zD cX5_ofLoan 10 (.invokevirtual 95) 3 13 := ⟨by decide +kernel, rfl⟩
theorem eX5_ofLoan_13 : zJ cX5_ofLoan 13 (.ifCond .ne (5)) (5) 18 3 16 := ⟨by decide +kernel, rfl, by decide⟩
theorem eX5_ofLoan_16 : zD cX5_ofLoan 16 (.iconst (-1)) 1 17 := ⟨by decide +kernel, rfl⟩
theorem eX5_ofLoan_17 : zD cX5_ofLoan 17 (.ireturn) 1 18 := ⟨by decide +kernel, rfl⟩
theorem eX5_ofLoan_18 : zD cX5_ofLoan 18 (.iload_n 2) 1 19 := ⟨by decide +kernel, rfl⟩
theorem eX5_ofLoan_19 : zD cX5_ofLoan 19 (.tableswitch 68 0 4 #[33, 40, 47, 54, 61]) 33 52 := ⟨by decide +kernel, rfl⟩
theorem eX5_ofLoan_52 : zD cX5_ofLoan 52 (.aload_n 3) 1 53 := ⟨by decide +kernel, rfl⟩
theorem eX5_ofLoan_53 : zD cX5_ofLoan 53 (.getfield 180) 3 56 := ⟨by decide +kernel, rfl⟩
theorem eX5_ofLoan_56 : zD cX5_ofLoan 56 (.iload_n 1) 1 57 := ⟨by decide +kernel, rfl⟩
theorem eX5_ofLoan_57 : zD cX5_ofLoan 57 (.iaload) 1 58 := ⟨by decide +kernel, rfl⟩
theorem eX5_ofLoan_58 : zD cX5_ofLoan 58 (.ireturn) 1 59 := ⟨by decide +kernel, rfl⟩
theorem eX5_ofLoan_59 : zD cX5_ofLoan 59 (.aload_n 3) 1 60 := ⟨by decide +kernel, rfl⟩
theorem eX5_ofLoan_60 : zD cX5_ofLoan 60 (.getfield 173) 3 63 := ⟨by decide +kernel, rfl⟩
theorem eX5_ofLoan_63 : zD cX5_ofLoan 63 (.iload_n 1) 1 64 := ⟨by decide +kernel, rfl⟩
theorem eX5_ofLoan_64 : zD cX5_ofLoan 64 (.iaload) 1 65 := ⟨by decide +kernel, rfl⟩
theorem eX5_ofLoan_65 : zD cX5_ofLoan 65 (.ireturn) 1 66 := ⟨by decide +kernel, rfl⟩
theorem eX5_ofLoan_66 : zD cX5_ofLoan 66 (.aload_n 3) 1 67 := ⟨by decide +kernel, rfl⟩
theorem eX5_ofLoan_67 : zD cX5_ofLoan 67 (.getfield 205) 3 70 := ⟨by decide +kernel, rfl⟩
theorem eX5_ofLoan_70 : zD cX5_ofLoan 70 (.iload_n 1) 1 71 := ⟨by decide +kernel, rfl⟩
theorem eX5_ofLoan_71 : zD cX5_ofLoan 71 (.iaload) 1 72 := ⟨by decide +kernel, rfl⟩
theorem eX5_ofLoan_72 : zD cX5_ofLoan 72 (.ireturn) 1 73 := ⟨by decide +kernel, rfl⟩
theorem eX5_ofLoan_73 : zD cX5_ofLoan 73 (.aload_n 3) 1 74 := ⟨by decide +kernel, rfl⟩
theorem eX5_ofLoan_74 : zD cX5_ofLoan 74 (.getfield 104) 3 77 := ⟨by decide +kernel, rfl⟩
theorem eX5_ofLoan_77 : zD cX5_ofLoan 77 (.iload_n 1) 1 78 := ⟨by decide +kernel, rfl⟩
theorem eX5_ofLoan_78 : zD cX5_ofLoan 78 (.iaload) 1 79 := ⟨by decide +kernel, rfl⟩
theorem eX5_ofLoan_79 : zD cX5_ofLoan 79 (.ireturn) 1 80 := ⟨by decide +kernel, rfl⟩
theorem eX5_ofLoan_80 : zD cX5_ofLoan 80 (.aload_n 3) 1 81 := ⟨by decide +kernel, rfl⟩
theorem eX5_ofLoan_81 : zD cX5_ofLoan 81 (.getfield 208) 3 84 := ⟨by decide +kernel, rfl⟩
theorem eX5_ofLoan_84 : zD cX5_ofLoan 84 (.iload_n 1) 1 85 := ⟨by decide +kernel, rfl⟩
theorem eX5_ofLoan_85 : zD cX5_ofLoan 85 (.iaload) 1 86 := ⟨by decide +kernel, rfl⟩
theorem eX5_ofLoan_86 : zD cX5_ofLoan 86 (.ireturn) 1 87 := ⟨by decide +kernel, rfl⟩
theorem eX5_ofLoan_87 : zD cX5_ofLoan 87 (.bipush (-2)) 2 89 := ⟨by decide +kernel, rfl⟩
theorem eX5_ofLoan_89 : zD cX5_ofLoan 89 (.ireturn) 1 90 := ⟨by decide +kernel, rfl⟩
theorem eX5_ofPlan_0 : zD cX5_ofPlan 0 (.aload_n 0) 1 1 := ⟨by decide +kernel, rfl⟩
theorem eX5_ofPlan_1 : zD cX5_ofPlan 1 (.getfield 12) 3 4 := ⟨by decide +kernel, rfl⟩
theorem eX5_ofPlan_4 : zD cX5_ofPlan 4 (.getfield 148) 3 7 := ⟨by decide +kernel, rfl⟩
theorem eX5_ofPlan_7 : zD cX5_ofPlan 7 (.astore_n 3) 1 8 := ⟨by decide +kernel, rfl⟩
theorem eX5_ofPlan_8 : zD cX5_ofPlan 8 (.aload_n 3) 1 9 := ⟨by decide +kernel, rfl⟩
theorem eX5_ofPlan_9 : zD cX5_ofPlan 9 (.iload_n 1) 1 10 := ⟨by decide +kernel, rfl⟩
theorem eX5_ofPlan_10 : zD cX5_ofPlan 10 (.invokevirtual 158) 3 13 := ⟨by decide +kernel, rfl⟩
theorem eX5_ofPlan_13 : zJ cX5_ofPlan 13 (.ifCond .ne (5)) (5) 18 3 16 := ⟨by decide +kernel, rfl, by decide⟩
theorem eX5_ofPlan_16 : zD cX5_ofPlan 16 (.iconst (-1)) 1 17 := ⟨by decide +kernel, rfl⟩
theorem eX5_ofPlan_17 : zD cX5_ofPlan 17 (.ireturn) 1 18 := ⟨by decide +kernel, rfl⟩
theorem eX5_ofPlan_18 : zD cX5_ofPlan 18 (.iload_n 2) 1 19 := ⟨by decide +kernel, rfl⟩
theorem eX5_ofPlan_19 : zD cX5_ofPlan 19 (.tableswitch 57 0 3 #[29, 36, 43, 50]) 29 48 := ⟨by decide +kernel, rfl⟩
theorem eX5_ofPlan_48 : zD cX5_ofPlan 48 (.aload_n 3) 1 49 := ⟨by decide +kernel, rfl⟩
theorem eX5_ofPlan_49 : zD cX5_ofPlan 49 (.getfield 211) 3 52 := ⟨by decide +kernel, rfl⟩
theorem eX5_ofPlan_52 : zD cX5_ofPlan 52 (.iload_n 1) 1 53 := ⟨by decide +kernel, rfl⟩
theorem eX5_ofPlan_53 : zD cX5_ofPlan 53 (.iaload) 1 54 := ⟨by decide +kernel, rfl⟩
theorem eX5_ofPlan_54 : zD cX5_ofPlan 54 (.ireturn) 1 55 := ⟨by decide +kernel, rfl⟩
theorem eX5_ofPlan_55 : zD cX5_ofPlan 55 (.aload_n 3) 1 56 := ⟨by decide +kernel, rfl⟩
theorem eX5_ofPlan_56 : zD cX5_ofPlan 56 (.getfield 214) 3 59 := ⟨by decide +kernel, rfl⟩
theorem eX5_ofPlan_59 : zD cX5_ofPlan 59 (.iload_n 1) 1 60 := ⟨by decide +kernel, rfl⟩
theorem eX5_ofPlan_60 : zD cX5_ofPlan 60 (.iaload) 1 61 := ⟨by decide +kernel, rfl⟩
theorem eX5_ofPlan_61 : zD cX5_ofPlan 61 (.ireturn) 1 62 := ⟨by decide +kernel, rfl⟩
theorem eX5_ofPlan_62 : zD cX5_ofPlan 62 (.aload_n 3) 1 63 := ⟨by decide +kernel, rfl⟩
theorem eX5_ofPlan_63 : zD cX5_ofPlan 63 (.getfield 216) 3 66 := ⟨by decide +kernel, rfl⟩
theorem eX5_ofPlan_66 : zD cX5_ofPlan 66 (.iload_n 1) 1 67 := ⟨by decide +kernel, rfl⟩
theorem eX5_ofPlan_67 : zD cX5_ofPlan 67 (.iaload) 1 68 := ⟨by decide +kernel, rfl⟩
theorem eX5_ofPlan_68 : zD cX5_ofPlan 68 (.ireturn) 1 69 := ⟨by decide +kernel, rfl⟩
theorem eX5_ofPlan_69 : zD cX5_ofPlan 69 (.aload_n 3) 1 70 := ⟨by decide +kernel, rfl⟩
theorem eX5_ofPlan_70 : zD cX5_ofPlan 70 (.getfield 219) 3 73 := ⟨by decide +kernel, rfl⟩
theorem eX5_ofPlan_73 : zD cX5_ofPlan 73 (.iload_n 1) 1 74 := ⟨by decide +kernel, rfl⟩
theorem eX5_ofPlan_74 : zD cX5_ofPlan 74 (.iaload) 1 75 := ⟨by decide +kernel, rfl⟩
theorem eX5_ofPlan_75 : zD cX5_ofPlan 75 (.ireturn) 1 76 := ⟨by decide +kernel, rfl⟩
theorem eX5_ofPlan_76 : zD cX5_ofPlan 76 (.bipush (-2)) 2 78 := ⟨by decide +kernel, rfl⟩
theorem eX5_ofPlan_78 : zD cX5_ofPlan 78 (.ireturn) 1 79 := ⟨by decide +kernel, rfl⟩
theorem eX5_count_0 : zD cX5_count 0 (.iload_n 1) 1 1 := ⟨by decide +kernel, rfl⟩
theorem eX5_count_1 : zD cX5_count 1 (.tableswitch 138 0 9 #[55, 63, 71, 79, 87, 95, 106, 117, 122, 130]) 55 56 := ⟨by decide +kernel, rfl⟩
theorem eX5_count_56 : zD cX5_count 56 (.aload_n 0) 1 57 := ⟨by decide +kernel, rfl⟩
theorem eX5_count_57 : zD cX5_count 57 (.getfield 12) 3 60 := ⟨by decide +kernel, rfl⟩
theorem eX5_count_60 : zD cX5_count 60 (.getfield 145) 3 63 := ⟨by decide +kernel, rfl⟩
theorem eX5_count_63 : zD cX5_count 63 (.ireturn) 1 64 := ⟨by decide +kernel, rfl⟩
theorem eX5_count_64 : zD cX5_count 64 (.aload_n 0) 1 65 := ⟨by decide +kernel, rfl⟩
theorem eX5_count_65 : zD cX5_count 65 (.getfield 12) 3 68 := ⟨by decide +kernel, rfl⟩
theorem eX5_count_68 : zD cX5_count 68 (.getfield 222) 3 71 := ⟨by decide +kernel, rfl⟩
theorem eX5_count_71 : zD cX5_count 71 (.ireturn) 1 72 := ⟨by decide +kernel, rfl⟩
theorem eX5_count_72 : zD cX5_count 72 (.aload_n 0) 1 73 := ⟨by decide +kernel, rfl⟩
theorem eX5_count_73 : zD cX5_count 73 (.getfield 12) 3 76 := ⟨by decide +kernel, rfl⟩
theorem eX5_count_76 : zD cX5_count 76 (.getfield 225) 3 79 := ⟨by decide +kernel, rfl⟩
theorem eX5_count_79 : zD cX5_count 79 (.ireturn) 1 80 := ⟨by decide +kernel, rfl⟩
theorem eX5_count_80 : zD cX5_count 80 (.aload_n 0) 1 81 := ⟨by decide +kernel, rfl⟩
theorem eX5_count_81 : zD cX5_count 81 (.getfield 12) 3 84 := ⟨by decide +kernel, rfl⟩
theorem eX5_count_84 : zD cX5_count 84 (.getfield 67) 3 87 := ⟨by decide +kernel, rfl⟩
theorem eX5_count_87 : zD cX5_count 87 (.ireturn) 1 88 := ⟨by decide +kernel, rfl⟩
theorem eX5_count_88 : zD cX5_count 88 (.aload_n 0) 1 89 := ⟨by decide +kernel, rfl⟩
theorem eX5_count_89 : zD cX5_count 89 (.getfield 12) 3 92 := ⟨by decide +kernel, rfl⟩
theorem eX5_count_92 : zD cX5_count 92 (.getfield 228) 3 95 := ⟨by decide +kernel, rfl⟩
theorem eX5_count_95 : zD cX5_count 95 (.ireturn) 1 96 := ⟨by decide +kernel, rfl⟩
theorem eX5_count_96 : zD cX5_count 96 (.aload_n 0) 1 97 := ⟨by decide +kernel, rfl⟩
theorem eX5_count_97 : zD cX5_count 97 (.getfield 12) 3 100 := ⟨by decide +kernel, rfl⟩
theorem eX5_count_100 : zD cX5_count 100 (.getfield 91) 3 103 := ⟨by decide +kernel, rfl⟩
theorem eX5_count_103 : zD cX5_count 103 (.getfield 136) 3 106 := ⟨by decide +kernel, rfl⟩
theorem eX5_count_106 : zD cX5_count 106 (.ireturn) 1 107 := ⟨by decide +kernel, rfl⟩
theorem eX5_count_107 : zD cX5_count 107 (.aload_n 0) 1 108 := ⟨by decide +kernel, rfl⟩
theorem eX5_count_108 : zD cX5_count 108 (.getfield 12) 3 111 := ⟨by decide +kernel, rfl⟩
theorem eX5_count_111 : zD cX5_count 111 (.getfield 148) 3 114 := ⟨by decide +kernel, rfl⟩
theorem eX5_count_114 : zD cX5_count 114 (.getfield 152) 3 117 := ⟨by decide +kernel, rfl⟩
theorem eX5_count_117 : zD cX5_count 117 (.ireturn) 1 118 := ⟨by decide +kernel, rfl⟩
theorem eX5_count_118 : zD cX5_count 118 (.aload_n 0) 1 119 := ⟨by decide +kernel, rfl⟩
theorem eX5_count_119 : zD cX5_count 119 (.getfield 41) 3 122 := ⟨by decide +kernel, rfl⟩
theorem eX5_count_122 : zD cX5_count 122 (.ireturn) 1 123 := ⟨by decide +kernel, rfl⟩
theorem eX5_count_123 : zD cX5_count 123 (.aload_n 0) 1 124 := ⟨by decide +kernel, rfl⟩
theorem eX5_count_124 : zD cX5_count 124 (.getfield 37) 3 127 := ⟨by decide +kernel, rfl⟩
theorem eX5_count_127 : zD cX5_count 127 (.getfield 231) 3 130 := ⟨by decide +kernel, rfl⟩
theorem eX5_count_130 : zD cX5_count 130 (.ireturn) 1 131 := ⟨by decide +kernel, rfl⟩
theorem eX5_count_131 : zD cX5_count 131 (.aload_n 0) 1 132 := ⟨by decide +kernel, rfl⟩
theorem eX5_count_132 : zD cX5_count 132 (.getfield 22) 3 135 := ⟨by decide +kernel, rfl⟩
theorem eX5_count_135 : zD cX5_count 135 (.getfield 234) 3 138 := ⟨by decide +kernel, rfl⟩
theorem eX5_count_138 : zD cX5_count 138 (.ireturn) 1 139 := ⟨by decide +kernel, rfl⟩
theorem eX5_count_139 : zD cX5_count 139 (.iload_n 1) 1 140 := ⟨by decide +kernel, rfl⟩
theorem eX5_count_140 : zD cX5_count 140 (.bipush 10) 2 142 := ⟨by decide +kernel, rfl⟩
theorem eX5_count_142 : zD cX5_count 142 (.isub) 1 143 := ⟨by decide +kernel, rfl⟩
theorem eX5_count_143 : zD cX5_count 143 (.istore_n 2) 1 144 := ⟨by decide +kernel, rfl⟩
theorem eX5_count_144 : zD cX5_count 144 (.iload_n 1) 1 145 := ⟨by decide +kernel, rfl⟩
theorem eX5_count_145 : zD cX5_count 145 (.bipush 10) 2 147 := ⟨by decide +kernel, rfl⟩
theorem eX5_count_147 : zJ cX5_count 147 (.if_icmp .lt (9)) (9) 156 3 150 := ⟨by decide +kernel, rfl, by decide⟩
theorem eX5_count_150 : zD cX5_count 150 (.iload_n 2) 1 151 := ⟨by decide +kernel, rfl⟩
theorem eX5_count_151 : zD cX5_count 151 (.bipush 8) 2 153 := ⟨by decide +kernel, rfl⟩
theorem eX5_count_153 : zJ cX5_count 153 (.if_icmp .lt (6)) (6) 159 3 156 := ⟨by decide +kernel, rfl, by decide⟩
theorem eX5_count_156 : zD cX5_count 156 (.bipush (-2)) 2 158 := ⟨by decide +kernel, rfl⟩
theorem eX5_count_158 : zD cX5_count 158 (.ireturn) 1 159 := ⟨by decide +kernel, rfl⟩
theorem eX5_count_159 : zD cX5_count 159 (.aload_n 0) 1 160 := ⟨by decide +kernel, rfl⟩
theorem eX5_count_160 : zD cX5_count 160 (.getfield 12) 3 163 := ⟨by decide +kernel, rfl⟩
theorem eX5_count_163 : zD cX5_count 163 (.getfield 60) 3 166 := ⟨by decide +kernel, rfl⟩
theorem eX5_count_166 : zD cX5_count 166 (.iload_n 2) 1 167 := ⟨by decide +kernel, rfl⟩
theorem eX5_count_167 : zD cX5_count 167 (.iaload) 1 168 := ⟨by decide +kernel, rfl⟩
theorem eX5_count_168 : zD cX5_count 168 (.ireturn) 1 169 := ⟨by decide +kernel, rfl⟩
theorem eX5_leftIn_0 : zD cX5_leftIn 0 (.aload_n 0) 1 1 := ⟨by decide +kernel, rfl⟩
theorem eX5_leftIn_1 : zD cX5_leftIn 1 (.getfield 12) 3 4 := ⟨by decide +kernel, rfl⟩
theorem eX5_leftIn_4 : zD cX5_leftIn 4 (.iload_n 1) 1 5 := ⟨by decide +kernel, rfl⟩
theorem eX5_leftIn_5 : zD cX5_leftIn 5 (.invokevirtual 73) 3 8 := ⟨by decide +kernel, rfl⟩
theorem eX5_leftIn_8 : zJ cX5_leftIn 8 (.ifCond .ne (7)) (7) 15 3 11 := ⟨by decide +kernel, rfl, by decide⟩
theorem eX5_leftIn_11 : zD cX5_leftIn 11 (.ldc2_w 197) 3 14 := ⟨by decide +kernel, rfl⟩
theorem eX5_leftIn_14 : zD cX5_leftIn 14 (.lreturn) 1 15 := ⟨by decide +kernel, rfl⟩
theorem eX5_leftIn_15 : zD cX5_leftIn 15 (.aload_n 0) 1 16 := ⟨by decide +kernel, rfl⟩
theorem eX5_leftIn_16 : zD cX5_leftIn 16 (.getfield 16) 3 19 := ⟨by decide +kernel, rfl⟩
theorem eX5_leftIn_19 : zD cX5_leftIn 19 (.aload_n 0) 1 20 := ⟨by decide +kernel, rfl⟩
theorem eX5_leftIn_20 : zD cX5_leftIn 20 (.getfield 12) 3 23 := ⟨by decide +kernel, rfl⟩
theorem eX5_leftIn_23 : zD cX5_leftIn 23 (.invokevirtual 237) 3 26 := ⟨by decide +kernel, rfl⟩
theorem eX5_leftIn_26 : zD cX5_leftIn 26 (.aload_n 0) 1 27 := ⟨by decide +kernel, rfl⟩
theorem eX5_leftIn_27 : zD cX5_leftIn 27 (.getfield 16) 3 30 := ⟨by decide +kernel, rfl⟩
theorem eX5_leftIn_30 : zD cX5_leftIn 30 (.iload_n 2) 1 31 := ⟨by decide +kernel, rfl⟩
theorem eX5_leftIn_31 : zD cX5_leftIn 31 (.invokevirtual 116) 3 34 := ⟨by decide +kernel, rfl⟩
theorem eX5_leftIn_34 : zD cX5_leftIn 34 (.bipush (-2)) 2 36 := ⟨by decide +kernel, rfl⟩
theorem eX5_leftIn_36 : zJ cX5_leftIn 36 (.if_icmp .ne (9)) (9) 45 3 39 := ⟨by decide +kernel, rfl, by decide⟩
theorem eX5_leftIn_39 : zD cX5_leftIn 39 (.ldc2_w 199) 3 42 := ⟨by decide +kernel, rfl⟩
theorem eX5_leftIn_42 : zJ cX5_leftIn 42 (.goto (13)) (13) 55 3 45 := ⟨by decide +kernel, rfl, by decide⟩
theorem eX5_leftIn_45 : zD cX5_leftIn 45 (.aload_n 0) 1 46 := ⟨by decide +kernel, rfl⟩
theorem eX5_leftIn_46 : zD cX5_leftIn 46 (.getfield 16) 3 49 := ⟨by decide +kernel, rfl⟩
theorem eX5_leftIn_49 : zD cX5_leftIn 49 (.iload_n 1) 1 50 := ⟨by decide +kernel, rfl⟩
theorem eX5_leftIn_50 : zD cX5_leftIn 50 (.bipush 8) 2 52 := ⟨by decide +kernel, rfl⟩
theorem eX5_leftIn_52 : zD cX5_leftIn 52 (.invokevirtual 201) 3 55 := ⟨by decide +kernel, rfl⟩
theorem eX5_leftIn_55 : zD cX5_leftIn 55 (.lreturn) 1 56 := ⟨by decide +kernel, rfl⟩
theorem eX5_frozenIn_0 : zD cX5_frozenIn 0 (.aload_n 0) 1 1 := ⟨by decide +kernel, rfl⟩
theorem eX5_frozenIn_1 : zD cX5_frozenIn 1 (.getfield 12) 3 4 := ⟨by decide +kernel, rfl⟩
theorem eX5_frozenIn_4 : zD cX5_frozenIn 4 (.iload_n 1) 1 5 := ⟨by decide +kernel, rfl⟩
theorem eX5_frozenIn_5 : zD cX5_frozenIn 5 (.invokevirtual 73) 3 8 := ⟨by decide +kernel, rfl⟩
theorem eX5_frozenIn_8 : zJ cX5_frozenIn 8 (.ifCond .eq (12)) (12) 20 3 11 := ⟨by decide +kernel, rfl, by decide⟩
theorem eX5_frozenIn_11 : zD cX5_frozenIn 11 (.aload_n 0) 1 12 := ⟨by decide +kernel, rfl⟩
theorem eX5_frozenIn_12 : zD cX5_frozenIn 12 (.iload_n 1) 1 13 := ⟨by decide +kernel, rfl⟩
theorem eX5_frozenIn_13 : zD cX5_frozenIn 13 (.iconst 1) 1 14 := ⟨by decide +kernel, rfl⟩
theorem eX5_frozenIn_14 : zD cX5_frozenIn 14 (.invokevirtual 240) 3 17 := ⟨by decide +kernel, rfl⟩
theorem eX5_frozenIn_17 : zJ cX5_frozenIn 17 (.goto (4)) (4) 21 3 20 := ⟨by decide +kernel, rfl, by decide⟩
theorem eX5_frozenIn_20 : zD cX5_frozenIn 20 (.iconst (-1)) 1 21 := ⟨by decide +kernel, rfl⟩
theorem eX5_frozenIn_21 : zD cX5_frozenIn 21 (.ireturn) 1 22 := ⟨by decide +kernel, rfl⟩
theorem eX5_thawsIn_0 : zD cX5_thawsIn 0 (.aload_n 0) 1 1 := ⟨by decide +kernel, rfl⟩
theorem eX5_thawsIn_1 : zD cX5_thawsIn 1 (.getfield 12) 3 4 := ⟨by decide +kernel, rfl⟩
theorem eX5_thawsIn_4 : zD cX5_thawsIn 4 (.iload_n 1) 1 5 := ⟨by decide +kernel, rfl⟩
theorem eX5_thawsIn_5 : zD cX5_thawsIn 5 (.invokevirtual 73) 3 8 := ⟨by decide +kernel, rfl⟩
theorem eX5_thawsIn_8 : zJ cX5_thawsIn 8 (.ifCond .eq (12)) (12) 20 3 11 := ⟨by decide +kernel, rfl, by decide⟩
theorem eX5_thawsIn_11 : zD cX5_thawsIn 11 (.aload_n 0) 1 12 := ⟨by decide +kernel, rfl⟩
theorem eX5_thawsIn_12 : zD cX5_thawsIn 12 (.iload_n 1) 1 13 := ⟨by decide +kernel, rfl⟩
theorem eX5_thawsIn_13 : zD cX5_thawsIn 13 (.iconst 0) 1 14 := ⟨by decide +kernel, rfl⟩
theorem eX5_thawsIn_14 : zD cX5_thawsIn 14 (.invokevirtual 240) 3 17 := ⟨by decide +kernel, rfl⟩
theorem eX5_thawsIn_17 : zJ cX5_thawsIn 17 (.goto (4)) (4) 21 3 20 := ⟨by decide +kernel, rfl, by decide⟩
theorem eX5_thawsIn_20 : zD cX5_thawsIn 20 (.iconst (-1)) 1 21 := ⟨by decide +kernel, rfl⟩
theorem eX5_thawsIn_21 : zD cX5_thawsIn 21 (.ireturn) 1 22 := ⟨by decide +kernel, rfl⟩
theorem eX5_hoursUntil_0 : zD cX5_hoursUntil 0 (.aload_n 0) 1 1 := ⟨by decide +kernel, rfl⟩
theorem eX5_hoursUntil_1 : zD cX5_hoursUntil 1 (.getfield 12) 3 4 := ⟨by decide +kernel, rfl⟩
theorem eX5_hoursUntil_4 : zD cX5_hoursUntil 4 (.iload_n 1) 1 5 := ⟨by decide +kernel, rfl⟩
theorem eX5_hoursUntil_5 : zD cX5_hoursUntil 5 (.invokevirtual 123) 3 8 := ⟨by decide +kernel, rfl⟩
theorem eX5_hoursUntil_8 : zD cX5_hoursUntil 8 (.iload_n 2) 1 9 := ⟨by decide +kernel, rfl⟩
theorem eX5_hoursUntil_9 : zJ cX5_hoursUntil 9 (.if_icmp .ne (5)) (5) 14 3 12 := ⟨by decide +kernel, rfl, by decide⟩
theorem eX5_hoursUntil_12 : zD cX5_hoursUntil 12 (.iconst 0) 1 13 := ⟨by decide +kernel, rfl⟩
theorem eX5_hoursUntil_13 : zD cX5_hoursUntil 13 (.ireturn) 1 14 := ⟨by decide +kernel, rfl⟩
theorem eX5_hoursUntil_14 : zD cX5_hoursUntil 14 (.aload_n 0) 1 15 := ⟨by decide +kernel, rfl⟩
theorem eX5_hoursUntil_15 : zD cX5_hoursUntil 15 (.getfield 16) 3 18 := ⟨by decide +kernel, rfl⟩
theorem eX5_hoursUntil_18 : zD cX5_hoursUntil 18 (.aload_n 0) 1 19 := ⟨by decide +kernel, rfl⟩
theorem eX5_hoursUntil_19 : zD cX5_hoursUntil 19 (.getfield 12) 3 22 := ⟨by decide +kernel, rfl⟩
theorem eX5_hoursUntil_22 : zD cX5_hoursUntil 22 (.invokevirtual 237) 3 25 := ⟨by decide +kernel, rfl⟩
theorem eX5_hoursUntil_25 : zD cX5_hoursUntil 25 (.iconst 1) 1 26 := ⟨by decide +kernel, rfl⟩
theorem eX5_hoursUntil_26 : zD cX5_hoursUntil 26 (.istore_n 3) 1 27 := ⟨by decide +kernel, rfl⟩
theorem eX5_hoursUntil_27 : zD cX5_hoursUntil 27 (.iload_n 3) 1 28 := ⟨by decide +kernel, rfl⟩
theorem eX5_hoursUntil_28 : zD cX5_hoursUntil 28 (.sipush 1000) 3 31 := ⟨by decide +kernel, rfl⟩
theorem eX5_hoursUntil_31 : zJ cX5_hoursUntil 31 (.if_icmp .gt (32)) (32) 63 3 34 := ⟨by decide +kernel, rfl, by decide⟩
theorem eX5_hoursUntil_34 : zD cX5_hoursUntil 34 (.aload_n 0) 1 35 := ⟨by decide +kernel, rfl⟩
theorem eX5_hoursUntil_35 : zD cX5_hoursUntil 35 (.getfield 16) 3 38 := ⟨by decide +kernel, rfl⟩
theorem eX5_hoursUntil_38 : zD cX5_hoursUntil 38 (.iconst 1) 1 39 := ⟨by decide +kernel, rfl⟩
theorem eX5_hoursUntil_39 : zD cX5_hoursUntil 39 (.invokevirtual 116) 3 42 := ⟨by decide +kernel, rfl⟩
theorem eX5_hoursUntil_42 : zD cX5_hoursUntil 42 (.pop) 1 43 := ⟨by decide +kernel, rfl⟩
theorem eX5_hoursUntil_43 : zD cX5_hoursUntil 43 (.aload_n 0) 1 44 := ⟨by decide +kernel, rfl⟩
theorem eX5_hoursUntil_44 : zD cX5_hoursUntil 44 (.getfield 16) 3 47 := ⟨by decide +kernel, rfl⟩
theorem eX5_hoursUntil_47 : zD cX5_hoursUntil 47 (.iload_n 1) 1 48 := ⟨by decide +kernel, rfl⟩
theorem eX5_hoursUntil_48 : zD cX5_hoursUntil 48 (.invokevirtual 123) 3 51 := ⟨by decide +kernel, rfl⟩
theorem eX5_hoursUntil_51 : zD cX5_hoursUntil 51 (.iload_n 2) 1 52 := ⟨by decide +kernel, rfl⟩
theorem eX5_hoursUntil_52 : zJ cX5_hoursUntil 52 (.if_icmp .ne (5)) (5) 57 3 55 := ⟨by decide +kernel, rfl, by decide⟩
theorem eX5_hoursUntil_55 : zD cX5_hoursUntil 55 (.iload_n 3) 1 56 := ⟨by decide +kernel, rfl⟩
theorem eX5_hoursUntil_56 : zD cX5_hoursUntil 56 (.ireturn) 1 57 := ⟨by decide +kernel, rfl⟩
theorem eX5_hoursUntil_57 : zD cX5_hoursUntil 57 (.iinc 3 1) 3 60 := ⟨by decide +kernel, rfl⟩
theorem eX5_hoursUntil_60 : zJ cX5_hoursUntil 60 (.goto (-33)) (-33) 27 3 63 := ⟨by decide +kernel, rfl, by decide⟩
theorem eX5_hoursUntil_63 : zD cX5_hoursUntil 63 (.bipush (-6)) 2 65 := ⟨by decide +kernel, rfl⟩
theorem eX5_hoursUntil_65 : zD cX5_hoursUntil 65 (.ireturn) 1 66 := ⟨by decide +kernel, rfl⟩
theorem eX5_doneAt_0 : zD cX5_doneAt 0 (.aload_n 0) 1 1 := ⟨by decide +kernel, rfl⟩
theorem eX5_doneAt_1 : zD cX5_doneAt 1 (.getfield 12) 3 4 := ⟨by decide +kernel, rfl⟩
theorem eX5_doneAt_4 : zD cX5_doneAt 4 (.getfield 148) 3 7 := ⟨by decide +kernel, rfl⟩
theorem eX5_doneAt_7 : zD cX5_doneAt 7 (.iload_n 1) 1 8 := ⟨by decide +kernel, rfl⟩
theorem eX5_doneAt_8 : zD cX5_doneAt 8 (.invokevirtual 158) 3 11 := ⟨by decide +kernel, rfl⟩
theorem eX5_doneAt_11 : zJ cX5_doneAt 11 (.ifCond .ne (5)) (5) 16 3 14 := ⟨by decide +kernel, rfl, by decide⟩
theorem eX5_doneAt_14 : zD cX5_doneAt 14 (.iconst (-1)) 1 15 := ⟨by decide +kernel, rfl⟩
theorem eX5_doneAt_15 : zD cX5_doneAt 15 (.ireturn) 1 16 := ⟨by decide +kernel, rfl⟩
theorem eX5_doneAt_16 : zD cX5_doneAt 16 (.aload_n 0) 1 17 := ⟨by decide +kernel, rfl⟩
theorem eX5_doneAt_17 : zD cX5_doneAt 17 (.getfield 16) 3 20 := ⟨by decide +kernel, rfl⟩
theorem eX5_doneAt_20 : zD cX5_doneAt 20 (.aload_n 0) 1 21 := ⟨by decide +kernel, rfl⟩
theorem eX5_doneAt_21 : zD cX5_doneAt 21 (.getfield 12) 3 24 := ⟨by decide +kernel, rfl⟩
theorem eX5_doneAt_24 : zD cX5_doneAt 24 (.invokevirtual 237) 3 27 := ⟨by decide +kernel, rfl⟩
theorem eX5_doneAt_27 : zD cX5_doneAt 27 (.aload_n 0) 1 28 := ⟨by decide +kernel, rfl⟩
theorem eX5_doneAt_28 : zD cX5_doneAt 28 (.getfield 16) 3 31 := ⟨by decide +kernel, rfl⟩
theorem eX5_doneAt_31 : zD cX5_doneAt 31 (.getfield 148) 3 34 := ⟨by decide +kernel, rfl⟩
theorem eX5_doneAt_34 : zD cX5_doneAt 34 (.iload_n 1) 1 35 := ⟨by decide +kernel, rfl⟩
theorem eX5_doneAt_35 : zD cX5_doneAt 35 (.invokevirtual 244) 3 38 := ⟨by decide +kernel, rfl⟩
theorem eX5_doneAt_38 : zD cX5_doneAt 38 (.iconst 0) 1 39 := ⟨by decide +kernel, rfl⟩
theorem eX5_doneAt_39 : zD cX5_doneAt 39 (.istore_n 2) 1 40 := ⟨by decide +kernel, rfl⟩
theorem eX5_doneAt_40 : zD cX5_doneAt 40 (.iload_n 2) 1 41 := ⟨by decide +kernel, rfl⟩
theorem eX5_doneAt_41 : zD cX5_doneAt 41 (.sipush 1000) 3 44 := ⟨by decide +kernel, rfl⟩
theorem eX5_doneAt_44 : zJ cX5_doneAt 44 (.if_icmp .ge (57)) (57) 101 3 47 := ⟨by decide +kernel, rfl, by decide⟩
theorem eX5_doneAt_47 : zD cX5_doneAt 47 (.aload_n 0) 1 48 := ⟨by decide +kernel, rfl⟩
theorem eX5_doneAt_48 : zD cX5_doneAt 48 (.getfield 16) 3 51 := ⟨by decide +kernel, rfl⟩
theorem eX5_doneAt_51 : zD cX5_doneAt 51 (.iconst 1) 1 52 := ⟨by decide +kernel, rfl⟩
theorem eX5_doneAt_52 : zD cX5_doneAt 52 (.invokevirtual 116) 3 55 := ⟨by decide +kernel, rfl⟩
theorem eX5_doneAt_55 : zD cX5_doneAt 55 (.pop) 1 56 := ⟨by decide +kernel, rfl⟩
theorem eX5_doneAt_56 : zD cX5_doneAt 56 (.aload_n 0) 1 57 := ⟨by decide +kernel, rfl⟩
theorem eX5_doneAt_57 : zD cX5_doneAt 57 (.getfield 16) 3 60 := ⟨by decide +kernel, rfl⟩
theorem eX5_doneAt_60 : zD cX5_doneAt 60 (.getfield 148) 3 63 := ⟨by decide +kernel, rfl⟩
theorem eX5_doneAt_63 : zD cX5_doneAt 63 (.getfield 247) 3 66 := ⟨by decide +kernel, rfl⟩
theorem eX5_doneAt_66 : zD cX5_doneAt 66 (.iconst 1) 1 67 := ⟨by decide +kernel, rfl⟩
theorem eX5_doneAt_67 : zJ cX5_doneAt 67 (.if_icmp .ne (11)) (11) 78 3 70 := ⟨by decide +kernel, rfl, by decide⟩
theorem eX5_doneAt_70 : zD cX5_doneAt 70 (.aload_n 0) 1 71 := ⟨by decide +kernel, rfl⟩
theorem eX5_doneAt_71 : zD cX5_doneAt 71 (.getfield 16) 3 74 := ⟨by decide +kernel, rfl⟩
theorem eX5_doneAt_74 : zD cX5_doneAt 74 (.getfield 145) 3 77 := ⟨by decide +kernel, rfl⟩
theorem eX5_doneAt_77 : zD cX5_doneAt 77 (.ireturn) 1 78 := ⟨by decide +kernel, rfl⟩
theorem eX5_doneAt_78 : zD cX5_doneAt 78 (.aload_n 0) 1 79 := ⟨by decide +kernel, rfl⟩
theorem eX5_doneAt_79 : zD cX5_doneAt 79 (.getfield 16) 3 82 := ⟨by decide +kernel, rfl⟩
theorem eX5_doneAt_82 : zD cX5_doneAt 82 (.getfield 148) 3 85 := ⟨by decide +kernel, rfl⟩
theorem eX5_doneAt_85 : zD cX5_doneAt 85 (.getfield 247) 3 88 := ⟨by decide +kernel, rfl⟩
theorem eX5_doneAt_88 : zD cX5_doneAt 88 (.iconst 2) 1 89 := ⟨by decide +kernel, rfl⟩
theorem eX5_doneAt_89 : zJ cX5_doneAt 89 (.if_icmp .ne (6)) (6) 95 3 92 := ⟨by decide +kernel, rfl, by decide⟩
theorem eX5_doneAt_92 : zD cX5_doneAt 92 (.bipush (-6)) 2 94 := ⟨by decide +kernel, rfl⟩
theorem eX5_doneAt_94 : zD cX5_doneAt 94 (.ireturn) 1 95 := ⟨by decide +kernel, rfl⟩
theorem eX5_doneAt_95 : zD cX5_doneAt 95 (.iinc 2 1) 3 98 := ⟨by decide +kernel, rfl⟩
theorem eX5_doneAt_98 : zJ cX5_doneAt 98 (.goto (-58)) (-58) 40 3 101 := ⟨by decide +kernel, rfl, by decide⟩
theorem eX5_doneAt_101 : zD cX5_doneAt 101 (.bipush (-6)) 2 103 := ⟨by decide +kernel, rfl⟩
theorem eX5_doneAt_103 : zD cX5_doneAt 103 (.ireturn) 1 104 := ⟨by decide +kernel, rfl⟩
theorem eX5_bestLender_0 : zD cX5_bestLender 0 (.aload_n 0) 1 1 := ⟨by decide +kernel, rfl⟩
theorem eX5_bestLender_1 : zD cX5_bestLender 1 (.getfield 12) 3 4 := ⟨by decide +kernel, rfl⟩
theorem eX5_bestLender_4 : zD cX5_bestLender 4 (.iload_n 1) 1 5 := ⟨by decide +kernel, rfl⟩
theorem eX5_bestLender_5 : zD cX5_bestLender 5 (.invokevirtual 73) 3 8 := ⟨by decide +kernel, rfl⟩
theorem eX5_bestLender_8 : zJ cX5_bestLender 8 (.ifCond .ne (5)) (5) 13 3 11 := ⟨by decide +kernel, rfl, by decide⟩
theorem eX5_bestLender_11 : zD cX5_bestLender 11 (.iconst (-1)) 1 12 := ⟨by decide +kernel, rfl⟩
theorem eX5_bestLender_12 : zD cX5_bestLender 12 (.ireturn) 1 13 := ⟨by decide +kernel, rfl⟩
theorem eX5_bestLender_13 : zD cX5_bestLender 13 (.iload_n 2) 1 14 := ⟨by decide +kernel, rfl⟩
theorem eX5_bestLender_14 : zD cX5_bestLender 14 (.iconst 1) 1 15 := ⟨by decide +kernel, rfl⟩
theorem eX5_bestLender_15 : zD cX5_bestLender 15 (.sipush 5000) 3 18 := ⟨by decide +kernel, rfl⟩
theorem eX5_bestLender_18 : zD cX5_bestLender 18 (.invokestatic 52) 3 21 := ⟨by decide +kernel, rfl⟩
theorem eX5_bestLender_21 : zJ cX5_bestLender 21 (.ifCond .ne (6)) (6) 27 3 24 := ⟨by decide +kernel, rfl, by decide⟩
theorem eX5_bestLender_24 : zD cX5_bestLender 24 (.bipush (-2)) 2 26 := ⟨by decide +kernel, rfl⟩
theorem eX5_bestLender_26 : zD cX5_bestLender 26 (.ireturn) 1 27 := ⟨by decide +kernel, rfl⟩
theorem eX5_bestLender_27 : zD cX5_bestLender 27 (.aload_n 0) 1 28 := ⟨by decide +kernel, rfl⟩
theorem eX5_bestLender_28 : zD cX5_bestLender 28 (.getfield 12) 3 31 := ⟨by decide +kernel, rfl⟩
theorem eX5_bestLender_31 : zD cX5_bestLender 31 (.getfield 91) 3 34 := ⟨by decide +kernel, rfl⟩
theorem eX5_bestLender_34 : zD cX5_bestLender 34 (.getfield 136) 3 37 := ⟨by decide +kernel, rfl⟩
theorem eX5_bestLender_37 : zD cX5_bestLender 37 (.bipush 40) 2 39 := ⟨by decide +kernel, rfl⟩
theorem eX5_bestLender_39 : zJ cX5_bestLender 39 (.if_icmp .lt (6)) (6) 45 3 42 := ⟨by decide +kernel, rfl, by decide⟩
theorem eX5_bestLender_42 : zD cX5_bestLender 42 (.bipush (-6)) 2 44 := ⟨by decide +kernel, rfl⟩
theorem eX5_bestLender_44 : zD cX5_bestLender 44 (.ireturn) 1 45 := ⟨by decide +kernel, rfl⟩
theorem eX5_bestLender_45 : zD cX5_bestLender 45 (.bipush (-6)) 2 47 := ⟨by decide +kernel, rfl⟩
theorem eX5_bestLender_47 : zD cX5_bestLender 47 (.istore_n 3) 1 48 := ⟨by decide +kernel, rfl⟩
theorem eX5_bestLender_48 : zD cX5_bestLender 48 (.lconst 0) 1 49 := ⟨by decide +kernel, rfl⟩
theorem eX5_bestLender_49 : zD cX5_bestLender 49 (.lstore 4) 2 51 := ⟨by decide +kernel, rfl⟩
theorem eX5_bestLender_51 : zD cX5_bestLender 51 (.iconst 0) 1 52 := ⟨by decide +kernel, rfl⟩
theorem eX5_bestLender_52 : zD cX5_bestLender 52 (.istore 6) 2 54 := ⟨by decide +kernel, rfl⟩
theorem eX5_bestLender_54 : zD cX5_bestLender 54 (.iload 6) 2 56 := ⟨by decide +kernel, rfl⟩
theorem eX5_bestLender_56 : zD cX5_bestLender 56 (.aload_n 0) 1 57 := ⟨by decide +kernel, rfl⟩
theorem eX5_bestLender_57 : zD cX5_bestLender 57 (.getfield 12) 3 60 := ⟨by decide +kernel, rfl⟩
theorem eX5_bestLender_60 : zD cX5_bestLender 60 (.getfield 67) 3 63 := ⟨by decide +kernel, rfl⟩
theorem eX5_bestLender_63 : zJ cX5_bestLender 63 (.if_icmp .ge (75)) (75) 138 3 66 := ⟨by decide +kernel, rfl, by decide⟩
theorem eX5_bestLender_66 : zD cX5_bestLender 66 (.aload_n 0) 1 67 := ⟨by decide +kernel, rfl⟩
theorem eX5_bestLender_67 : zD cX5_bestLender 67 (.getfield 12) 3 70 := ⟨by decide +kernel, rfl⟩
theorem eX5_bestLender_70 : zD cX5_bestLender 70 (.iload 6) 2 72 := ⟨by decide +kernel, rfl⟩
theorem eX5_bestLender_72 : zD cX5_bestLender 72 (.bipush 8) 2 74 := ⟨by decide +kernel, rfl⟩
theorem eX5_bestLender_74 : zD cX5_bestLender 74 (.invokevirtual 201) 3 77 := ⟨by decide +kernel, rfl⟩
theorem eX5_bestLender_77 : zD cX5_bestLender 77 (.lstore 7) 2 79 := ⟨by decide +kernel, rfl⟩
theorem eX5_bestLender_79 : zD cX5_bestLender 79 (.iload 6) 2 81 := ⟨by decide +kernel, rfl⟩
theorem eX5_bestLender_81 : zD cX5_bestLender 81 (.iload_n 1) 1 82 := ⟨by decide +kernel, rfl⟩
theorem eX5_bestLender_82 : zJ cX5_bestLender 82 (.if_icmp .eq (21)) (21) 103 3 85 := ⟨by decide +kernel, rfl, by decide⟩
theorem eX5_bestLender_85 : zD cX5_bestLender 85 (.aload_n 0) 1 86 := ⟨by decide +kernel, rfl⟩
theorem eX5_bestLender_86 : zD cX5_bestLender 86 (.getfield 12) 3 89 := ⟨by decide +kernel, rfl⟩
theorem eX5_bestLender_89 : zD cX5_bestLender 89 (.iload 6) 2 91 := ⟨by decide +kernel, rfl⟩
theorem eX5_bestLender_91 : zD cX5_bestLender 91 (.iload_n 1) 1 92 := ⟨by decide +kernel, rfl⟩
theorem eX5_bestLender_92 : zD cX5_bestLender 92 (.iload_n 2) 1 93 := ⟨by decide +kernel, rfl⟩
theorem eX5_bestLender_93 : zD cX5_bestLender 93 (.invokevirtual 139) 3 96 := ⟨by decide +kernel, rfl⟩
theorem eX5_bestLender_96 : zJ cX5_bestLender 96 (.ifCond .ne (7)) (7) 103 3 99 := ⟨by decide +kernel, rfl, by decide⟩
theorem eX5_bestLender_99 : zD cX5_bestLender 99 (.iconst 1) 1 100 := ⟨by decide +kernel, rfl⟩
theorem eX5_bestLender_100 : zJ cX5_bestLender 100 (.goto (4)) (4) 104 3 103 := ⟨by decide +kernel, rfl, by decide⟩
theorem eX5_bestLender_103 : zD cX5_bestLender 103 (.iconst 0) 1 104 := ⟨by decide +kernel, rfl⟩
theorem eX5_bestLender_104 : zD cX5_bestLender 104 (.istore 9) 2 106 := ⟨by decide +kernel, rfl⟩
theorem eX5_bestLender_106 : zD cX5_bestLender 106 (.iload 9) 2 108 := ⟨by decide +kernel, rfl⟩
theorem eX5_bestLender_108 : zJ cX5_bestLender 108 (.ifCond .eq (24)) (24) 132 3 111 := ⟨by decide +kernel, rfl, by decide⟩
theorem eX5_bestLender_111 : zD cX5_bestLender 111 (.iload_n 3) 1 112 := ⟨by decide +kernel, rfl⟩
theorem eX5_bestLender_112 : zD cX5_bestLender 112 (.bipush (-6)) 2 114 := ⟨by decide +kernel, rfl⟩
theorem eX5_bestLender_114 : zJ cX5_bestLender 114 (.if_icmp .eq (11)) (11) 125 3 117 := ⟨by decide +kernel, rfl, by decide⟩
theorem eX5_bestLender_117 : zD cX5_bestLender 117 (.lload 7) 2 119 := ⟨by decide +kernel, rfl⟩
theorem eX5_bestLender_119 : zD cX5_bestLender 119 (.lload 4) 2 121 := ⟨by decide +kernel, rfl⟩
theorem eX5_bestLender_121 : zD cX5_bestLender 121 (.lcmp) 1 122 := ⟨by decide +kernel, rfl⟩
theorem eX5_bestLender_122 : zJ cX5_bestLender 122 (.ifCond .le (10)) (10) 132 3 125 := ⟨by decide +kernel, rfl, by decide⟩
theorem eX5_bestLender_125 : zD cX5_bestLender 125 (.iload 6) 2 127 := ⟨by decide +kernel, rfl⟩
theorem eX5_bestLender_127 : zD cX5_bestLender 127 (.istore_n 3) 1 128 := ⟨by decide +kernel, rfl⟩
theorem eX5_bestLender_128 : zD cX5_bestLender 128 (.lload 7) 2 130 := ⟨by decide +kernel, rfl⟩
theorem eX5_bestLender_130 : zD cX5_bestLender 130 (.lstore 4) 2 132 := ⟨by decide +kernel, rfl⟩
theorem eX5_bestLender_132 : zD cX5_bestLender 132 (.iinc 6 1) 3 135 := ⟨by decide +kernel, rfl⟩
theorem eX5_bestLender_135 : zJ cX5_bestLender 135 (.goto (-81)) (-81) 54 3 138 := ⟨by decide +kernel, rfl, by decide⟩
theorem eX5_bestLender_138 : zD cX5_bestLender 138 (.iload_n 3) 1 139 := ⟨by decide +kernel, rfl⟩
theorem eX5_bestLender_139 : zD cX5_bestLender 139 (.ireturn) 1 140 := ⟨by decide +kernel, rfl⟩
theorem eX5_leastLoan_0 : zD cX5_leastLoan 0 (.aload_n 0) 1 1 := ⟨by decide +kernel, rfl⟩
theorem eX5_leastLoan_1 : zD cX5_leastLoan 1 (.getfield 12) 3 4 := ⟨by decide +kernel, rfl⟩
theorem eX5_leastLoan_4 : zD cX5_leastLoan 4 (.iload_n 1) 1 5 := ⟨by decide +kernel, rfl⟩
theorem eX5_leastLoan_5 : zD cX5_leastLoan 5 (.invokevirtual 73) 3 8 := ⟨by decide +kernel, rfl⟩
theorem eX5_leastLoan_8 : zJ cX5_leastLoan 8 (.ifCond .ne (7)) (7) 15 3 11 := ⟨by decide +kernel, rfl, by decide⟩
theorem eX5_leastLoan_11 : zD cX5_leastLoan 11 (.ldc2_w 197) 3 14 := ⟨by decide +kernel, rfl⟩
theorem eX5_leastLoan_14 : zD cX5_leastLoan 14 (.lreturn) 1 15 := ⟨by decide +kernel, rfl⟩
theorem eX5_leastLoan_15 : zD cX5_leastLoan 15 (.aload_n 0) 1 16 := ⟨by decide +kernel, rfl⟩
theorem eX5_leastLoan_16 : zD cX5_leastLoan 16 (.getfield 12) 3 19 := ⟨by decide +kernel, rfl⟩
theorem eX5_leastLoan_19 : zD cX5_leastLoan 19 (.iload_n 1) 1 20 := ⟨by decide +kernel, rfl⟩
theorem eX5_leastLoan_20 : zD cX5_leastLoan 20 (.invokevirtual 123) 3 23 := ⟨by decide +kernel, rfl⟩
theorem eX5_leastLoan_23 : zJ cX5_leastLoan 23 (.ifCond .ne (5)) (5) 28 3 26 := ⟨by decide +kernel, rfl, by decide⟩
theorem eX5_leastLoan_26 : zD cX5_leastLoan 26 (.lconst 0) 1 27 := ⟨by decide +kernel, rfl⟩
theorem eX5_leastLoan_27 : zD cX5_leastLoan 27 (.lreturn) 1 28 := ⟨by decide +kernel, rfl⟩
theorem eX5_leastLoan_28 : zD cX5_leastLoan 28 (.lconst 1) 1 29 := ⟨by decide +kernel, rfl⟩
theorem eX5_leastLoan_29 : zD cX5_leastLoan 29 (.aload_n 0) 1 30 := ⟨by decide +kernel, rfl⟩
theorem eX5_leastLoan_30 : zD cX5_leastLoan 30 (.getfield 12) 3 33 := ⟨by decide +kernel, rfl⟩
theorem eX5_leastLoan_33 : zD cX5_leastLoan 33 (.iload_n 1) 1 34 := ⟨by decide +kernel, rfl⟩
theorem eX5_leastLoan_34 : zD cX5_leastLoan 34 (.invokevirtual 250) 3 37 := ⟨by decide +kernel, rfl⟩
theorem eX5_leastLoan_37 : zD cX5_leastLoan 37 (.iconst 1) 1 38 := ⟨by decide +kernel, rfl⟩
theorem eX5_leastLoan_38 : zD cX5_leastLoan 38 (.iadd) 1 39 := ⟨by decide +kernel, rfl⟩
theorem eX5_leastLoan_39 : zD cX5_leastLoan 39 (.i2l) 1 40 := ⟨by decide +kernel, rfl⟩
theorem eX5_leastLoan_40 : zD cX5_leastLoan 40 (.aload_n 0) 1 41 := ⟨by decide +kernel, rfl⟩
theorem eX5_leastLoan_41 : zD cX5_leastLoan 41 (.getfield 12) 3 44 := ⟨by decide +kernel, rfl⟩
theorem eX5_leastLoan_44 : zD cX5_leastLoan 44 (.iload_n 1) 1 45 := ⟨by decide +kernel, rfl⟩
theorem eX5_leastLoan_45 : zD cX5_leastLoan 45 (.bipush 8) 2 47 := ⟨by decide +kernel, rfl⟩
theorem eX5_leastLoan_47 : zD cX5_leastLoan 47 (.invokevirtual 201) 3 50 := ⟨by decide +kernel, rfl⟩
theorem eX5_leastLoan_50 : zD cX5_leastLoan 50 (.lsub) 1 51 := ⟨by decide +kernel, rfl⟩
theorem eX5_leastLoan_51 : zD cX5_leastLoan 51 (.invokestatic 253) 3 54 := ⟨by decide +kernel, rfl⟩
theorem eX5_leastLoan_54 : zD cX5_leastLoan 54 (.lreturn) 1 55 := ⟨by decide +kernel, rfl⟩
theorem eX5_safeSize_0 : zD cX5_safeSize 0 (.aload_n 0) 1 1 := ⟨by decide +kernel, rfl⟩
theorem eX5_safeSize_1 : zD cX5_safeSize 1 (.getfield 12) 3 4 := ⟨by decide +kernel, rfl⟩
theorem eX5_safeSize_4 : zD cX5_safeSize 4 (.iload_n 1) 1 5 := ⟨by decide +kernel, rfl⟩
theorem eX5_safeSize_5 : zD cX5_safeSize 5 (.invokevirtual 73) 3 8 := ⟨by decide +kernel, rfl⟩
theorem eX5_safeSize_8 : zJ cX5_safeSize 8 (.ifCond .ne (5)) (5) 13 3 11 := ⟨by decide +kernel, rfl, by decide⟩
theorem eX5_safeSize_11 : zD cX5_safeSize 11 (.iconst (-1)) 1 12 := ⟨by decide +kernel, rfl⟩
theorem eX5_safeSize_12 : zD cX5_safeSize 12 (.ireturn) 1 13 := ⟨by decide +kernel, rfl⟩
theorem eX5_safeSize_13 : zD cX5_safeSize 13 (.aload_n 0) 1 14 := ⟨by decide +kernel, rfl⟩
theorem eX5_safeSize_14 : zD cX5_safeSize 14 (.getfield 12) 3 17 := ⟨by decide +kernel, rfl⟩
theorem eX5_safeSize_17 : zD cX5_safeSize 17 (.iload_n 1) 1 18 := ⟨by decide +kernel, rfl⟩
theorem eX5_safeSize_18 : zD cX5_safeSize 18 (.bipush 8) 2 20 := ⟨by decide +kernel, rfl⟩
theorem eX5_safeSize_20 : zD cX5_safeSize 20 (.invokevirtual 201) 3 23 := ⟨by decide +kernel, rfl⟩
theorem eX5_safeSize_23 : zD cX5_safeSize 23 (.lconst 1) 1 24 := ⟨by decide +kernel, rfl⟩
theorem eX5_safeSize_24 : zD cX5_safeSize 24 (.lsub) 1 25 := ⟨by decide +kernel, rfl⟩
theorem eX5_safeSize_25 : zD cX5_safeSize 25 (.lstore_n 2) 1 26 := ⟨by decide +kernel, rfl⟩
theorem eX5_safeSize_26 : zD cX5_safeSize 26 (.aload_n 0) 1 27 := ⟨by decide +kernel, rfl⟩
theorem eX5_safeSize_27 : zD cX5_safeSize 27 (.getfield 12) 3 30 := ⟨by decide +kernel, rfl⟩
theorem eX5_safeSize_30 : zD cX5_safeSize 30 (.iload_n 1) 1 31 := ⟨by decide +kernel, rfl⟩
theorem eX5_safeSize_31 : zD cX5_safeSize 31 (.invokevirtual 123) 3 34 := ⟨by decide +kernel, rfl⟩
theorem eX5_safeSize_34 : zJ cX5_safeSize 34 (.ifCond .ne (9)) (9) 43 3 37 := ⟨by decide +kernel, rfl, by decide⟩
theorem eX5_safeSize_37 : zD cX5_safeSize 37 (.lload_n 2) 1 38 := ⟨by decide +kernel, rfl⟩
theorem eX5_safeSize_38 : zD cX5_safeSize 38 (.lconst 1) 1 39 := ⟨by decide +kernel, rfl⟩
theorem eX5_safeSize_39 : zD cX5_safeSize 39 (.lcmp) 1 40 := ⟨by decide +kernel, rfl⟩
theorem eX5_safeSize_40 : zJ cX5_safeSize 40 (.ifCond .ge (6)) (6) 46 3 43 := ⟨by decide +kernel, rfl, by decide⟩
theorem eX5_safeSize_43 : zD cX5_safeSize 43 (.bipush (-6)) 2 45 := ⟨by decide +kernel, rfl⟩
theorem eX5_safeSize_45 : zD cX5_safeSize 45 (.ireturn) 1 46 := ⟨by decide +kernel, rfl⟩
theorem eX5_safeSize_46 : zD cX5_safeSize 46 (.lload_n 2) 1 47 := ⟨by decide +kernel, rfl⟩
theorem eX5_safeSize_47 : zD cX5_safeSize 47 (.ldc2_w 259) 3 50 := ⟨by decide +kernel, rfl⟩
theorem eX5_safeSize_50 : zD cX5_safeSize 50 (.invokestatic 261) 3 53 := ⟨by decide +kernel, rfl⟩
theorem eX5_safeSize_53 : zD cX5_safeSize 53 (.l2i) 1 54 := ⟨by decide +kernel, rfl⟩
theorem eX5_safeSize_54 : zD cX5_safeSize 54 (.ireturn) 1 55 := ⟨by decide +kernel, rfl⟩
theorem eX5_put_0 : zD cX5_put 0 (.lload_n 1) 1 1 := ⟨by decide +kernel, rfl⟩
theorem eX5_put_1 : zD cX5_put 1 (.invokestatic 264) 3 4 := ⟨by decide +kernel, rfl⟩
theorem eX5_put_4 : zD cX5_put 4 (.istore_n 3) 1 5 := ⟨by decide +kernel, rfl⟩
theorem eX5_put_5 : zD cX5_put 5 (.iload_n 3) 1 6 := ⟨by decide +kernel, rfl⟩
theorem eX5_put_6 : zD cX5_put 6 (.iconst 1) 1 7 := ⟨by decide +kernel, rfl⟩
theorem eX5_put_7 : zJ cX5_put 7 (.if_icmp .ge (6)) (6) 13 3 10 := ⟨by decide +kernel, rfl, by decide⟩
theorem eX5_put_10 : zD cX5_put 10 (.bipush (-2)) 2 12 := ⟨by decide +kernel, rfl⟩
theorem eX5_put_12 : zD cX5_put 12 (.ireturn) 1 13 := ⟨by decide +kernel, rfl⟩
theorem eX5_put_13 : zD cX5_put 13 (.aload_n 0) 1 14 := ⟨by decide +kernel, rfl⟩
theorem eX5_put_14 : zD cX5_put 14 (.getfield 37) 3 17 := ⟨by decide +kernel, rfl⟩
theorem eX5_put_17 : zD cX5_put 17 (.getfield 231) 3 20 := ⟨by decide +kernel, rfl⟩
theorem eX5_put_20 : zD cX5_put 20 (.iload_n 3) 1 21 := ⟨by decide +kernel, rfl⟩
theorem eX5_put_21 : zD cX5_put 21 (.iadd) 1 22 := ⟨by decide +kernel, rfl⟩
theorem eX5_put_22 : zD cX5_put 22 (.bipush 80) 2 24 := ⟨by decide +kernel, rfl⟩
theorem eX5_put_24 : zJ cX5_put 24 (.if_icmp .le (6)) (6) 30 3 27 := ⟨by decide +kernel, rfl, by decide⟩
theorem eX5_put_27 : zD cX5_put 27 (.bipush (-4)) 2 29 := ⟨by decide +kernel, rfl⟩
theorem eX5_put_29 : zD cX5_put 29 (.ireturn) 1 30 := ⟨by decide +kernel, rfl⟩
theorem eX5_put_30 : zD cX5_put 30 (.iload_n 3) 1 31 := ⟨by decide +kernel, rfl⟩
theorem eX5_put_31 : zD cX5_put 31 (.iconst 1) 1 32 := ⟨by decide +kernel, rfl⟩
theorem eX5_put_32 : zD cX5_put 32 (.isub) 1 33 := ⟨by decide +kernel, rfl⟩
theorem eX5_put_33 : zD cX5_put 33 (.istore 4) 2 35 := ⟨by decide +kernel, rfl⟩
theorem eX5_put_35 : zD cX5_put 35 (.iload 4) 2 37 := ⟨by decide +kernel, rfl⟩
theorem eX5_put_37 : zJ cX5_put 37 (.ifCond .lt (22)) (22) 59 3 40 := ⟨by decide +kernel, rfl, by decide⟩
theorem eX5_put_40 : zD cX5_put 40 (.aload_n 0) 1 41 := ⟨by decide +kernel, rfl⟩
theorem eX5_put_41 : zD cX5_put 41 (.getfield 37) 3 44 := ⟨by decide +kernel, rfl⟩
theorem eX5_put_44 : zD cX5_put 44 (.lload_n 1) 1 45 := ⟨by decide +kernel, rfl⟩
theorem eX5_put_45 : zD cX5_put 45 (.iload 4) 2 47 := ⟨by decide +kernel, rfl⟩
theorem eX5_put_47 : zD cX5_put 47 (.invokestatic 268) 3 50 := ⟨by decide +kernel, rfl⟩
theorem eX5_put_50 : zD cX5_put 50 (.invokevirtual 272) 3 53 := ⟨by decide +kernel, rfl⟩
theorem eX5_put_53 : zD cX5_put 53 (.iinc 4 (-1)) 3 56 := ⟨by decide +kernel, rfl⟩
theorem eX5_put_56 : zJ cX5_put 56 (.goto (-21)) (-21) 35 3 59 := ⟨by decide +kernel, rfl, by decide⟩
theorem eX5_put_59 : zD cX5_put 59 (.aload_n 0) 1 60 := ⟨by decide +kernel, rfl⟩
theorem eX5_put_60 : zD cX5_put 60 (.getfield 37) 3 63 := ⟨by decide +kernel, rfl⟩
theorem eX5_put_63 : zD cX5_put 63 (.getfield 231) 3 66 := ⟨by decide +kernel, rfl⟩
theorem eX5_put_66 : zD cX5_put 66 (.ireturn) 1 67 := ⟨by decide +kernel, rfl⟩
theorem eX5_charactersIn_0 : zD cX5_charactersIn 0 (.iconst 0) 1 1 := ⟨by decide +kernel, rfl⟩
theorem eX5_charactersIn_1 : zD cX5_charactersIn 1 (.istore_n 2) 1 2 := ⟨by decide +kernel, rfl⟩
theorem eX5_charactersIn_2 : zD cX5_charactersIn 2 (.iload_n 2) 1 3 := ⟨by decide +kernel, rfl⟩
theorem eX5_charactersIn_3 : zD cX5_charactersIn 3 (.bipush 8) 2 5 := ⟨by decide +kernel, rfl⟩
theorem eX5_charactersIn_5 : zJ cX5_charactersIn 5 (.if_icmp .ge (51)) (51) 56 3 8 := ⟨by decide +kernel, rfl, by decide⟩
theorem eX5_charactersIn_8 : zD cX5_charactersIn 8 (.lload_n 0) 1 9 := ⟨by decide +kernel, rfl⟩
theorem eX5_charactersIn_9 : zD cX5_charactersIn 9 (.iload_n 2) 1 10 := ⟨by decide +kernel, rfl⟩
theorem eX5_charactersIn_10 : zD cX5_charactersIn 10 (.invokestatic 268) 3 13 := ⟨by decide +kernel, rfl⟩
theorem eX5_charactersIn_13 : zJ cX5_charactersIn 13 (.ifCond .ne (20)) (20) 33 3 16 := ⟨by decide +kernel, rfl, by decide⟩
theorem eX5_charactersIn_16 : zD cX5_charactersIn 16 (.lload_n 0) 1 17 := ⟨by decide +kernel, rfl⟩
theorem eX5_charactersIn_17 : zD cX5_charactersIn 17 (.bipush 8) 2 19 := ⟨by decide +kernel, rfl⟩
theorem eX5_charactersIn_19 : zD cX5_charactersIn 19 (.iload_n 2) 1 20 := ⟨by decide +kernel, rfl⟩
theorem eX5_charactersIn_20 : zD cX5_charactersIn 20 (.imul) 1 21 := ⟨by decide +kernel, rfl⟩
theorem eX5_charactersIn_21 : zD cX5_charactersIn 21 (.lushr) 1 22 := ⟨by decide +kernel, rfl⟩
theorem eX5_charactersIn_22 : zD cX5_charactersIn 22 (.lconst 0) 1 23 := ⟨by decide +kernel, rfl⟩
theorem eX5_charactersIn_23 : zD cX5_charactersIn 23 (.lcmp) 1 24 := ⟨by decide +kernel, rfl⟩
theorem eX5_charactersIn_24 : zJ cX5_charactersIn 24 (.ifCond .ne (7)) (7) 31 3 27 := ⟨by decide +kernel, rfl, by decide⟩
theorem eX5_charactersIn_27 : zD cX5_charactersIn 27 (.iload_n 2) 1 28 := ⟨by decide +kernel, rfl⟩
theorem eX5_charactersIn_28 : zJ cX5_charactersIn 28 (.goto (4)) (4) 32 3 31 := ⟨by decide +kernel, rfl, by decide⟩
theorem eX5_charactersIn_31 : zD cX5_charactersIn 31 (.iconst (-1)) 1 32 := ⟨by decide +kernel, rfl⟩
theorem eX5_charactersIn_32 : zD cX5_charactersIn 32 (.ireturn) 1 33 := ⟨by decide +kernel, rfl⟩
theorem eX5_charactersIn_33 : zD cX5_charactersIn 33 (.lload_n 0) 1 34 := ⟨by decide +kernel, rfl⟩
theorem eX5_charactersIn_34 : zD cX5_charactersIn 34 (.iload_n 2) 1 35 := ⟨by decide +kernel, rfl⟩
theorem eX5_charactersIn_35 : zD cX5_charactersIn 35 (.invokestatic 268) 3 38 := ⟨by decide +kernel, rfl⟩
theorem eX5_charactersIn_38 : zD cX5_charactersIn 38 (.bipush 33) 2 40 := ⟨by decide +kernel, rfl⟩
theorem eX5_charactersIn_40 : zD cX5_charactersIn 40 (.bipush 126) 2 42 := ⟨by decide +kernel, rfl⟩
theorem eX5_charactersIn_42 : zD cX5_charactersIn 42 (.invokestatic 52) 3 45 := ⟨by decide +kernel, rfl⟩
theorem eX5_charactersIn_45 : zJ cX5_charactersIn 45 (.ifCond .ne (5)) (5) 50 3 48 := ⟨by decide +kernel, rfl, by decide⟩
theorem eX5_charactersIn_48 : zD cX5_charactersIn 48 (.iconst (-1)) 1 49 := ⟨by decide +kernel, rfl⟩
theorem eX5_charactersIn_49 : zD cX5_charactersIn 49 (.ireturn) 1 50 := ⟨by decide +kernel, rfl⟩
theorem eX5_charactersIn_50 : zD cX5_charactersIn 50 (.iinc 2 1) 3 53 := ⟨by decide +kernel, rfl⟩
theorem eX5_charactersIn_53 : zJ cX5_charactersIn 53 (.goto (-51)) (-51) 2 3 56 := ⟨by decide +kernel, rfl, by decide⟩
theorem eX5_charactersIn_56 : zD cX5_charactersIn 56 (.bipush 8) 2 58 := ⟨by decide +kernel, rfl⟩
theorem eX5_charactersIn_58 : zD cX5_charactersIn 58 (.ireturn) 1 59 := ⟨by decide +kernel, rfl⟩
theorem eX5_codeAt_0 : zD cX5_codeAt 0 (.lload_n 0) 1 1 := ⟨by decide +kernel, rfl⟩
theorem eX5_codeAt_1 : zD cX5_codeAt 1 (.bipush 8) 2 3 := ⟨by decide +kernel, rfl⟩
theorem eX5_codeAt_3 : zD cX5_codeAt 3 (.iload_n 2) 1 4 := ⟨by decide +kernel, rfl⟩
theorem eX5_codeAt_4 : zD cX5_codeAt 4 (.imul) 1 5 := ⟨by decide +kernel, rfl⟩
theorem eX5_codeAt_5 : zD cX5_codeAt 5 (.lushr) 1 6 := ⟨by decide +kernel, rfl⟩
theorem eX5_codeAt_6 : zD cX5_codeAt 6 (.l2i) 1 7 := ⟨by decide +kernel, rfl⟩
theorem eX5_codeAt_7 : zD cX5_codeAt 7 (.sipush 255) 3 10 := ⟨by decide +kernel, rfl⟩
theorem eX5_codeAt_10 : zD cX5_codeAt 10 (.iand) 1 11 := ⟨by decide +kernel, rfl⟩
theorem eX5_codeAt_11 : zD cX5_codeAt 11 (.ireturn) 1 12 := ⟨by decide +kernel, rfl⟩
theorem eX5_wipe_0 : zD cX5_wipe 0 (.aload_n 0) 1 1 := ⟨by decide +kernel, rfl⟩
theorem eX5_wipe_1 : zD cX5_wipe 1 (.getfield 37) 3 4 := ⟨by decide +kernel, rfl⟩
theorem eX5_wipe_4 : zD cX5_wipe 4 (.getfield 231) 3 7 := ⟨by decide +kernel, rfl⟩
theorem eX5_wipe_7 : zD cX5_wipe 7 (.istore_n 1) 1 8 := ⟨by decide +kernel, rfl⟩
theorem eX5_wipe_8 : zD cX5_wipe 8 (.aload_n 0) 1 9 := ⟨by decide +kernel, rfl⟩
theorem eX5_wipe_9 : zD cX5_wipe 9 (.getfield 37) 3 12 := ⟨by decide +kernel, rfl⟩
theorem eX5_wipe_12 : zD cX5_wipe 12 (.iconst 0) 1 13 := ⟨by decide +kernel, rfl⟩
theorem eX5_wipe_13 : zD cX5_wipe 13 (.putfield 231) 3 16 := ⟨by decide +kernel, rfl⟩
theorem eX5_wipe_16 : zD cX5_wipe 16 (.iload_n 1) 1 17 := ⟨by decide +kernel, rfl⟩
theorem eX5_wipe_17 : zD cX5_wipe 17 (.ireturn) 1 18 := ⟨by decide +kernel, rfl⟩
theorem eX5_fault_0 : zD cX5_fault 0 (.aload_n 0) 1 1 := ⟨by decide +kernel, rfl⟩
theorem eX5_fault_1 : zD cX5_fault 1 (.getfield 37) 3 4 := ⟨by decide +kernel, rfl⟩
theorem eX5_fault_4 : zD cX5_fault 4 (.invokevirtual 275) 3 7 := ⟨by decide +kernel, rfl⟩
theorem eX5_fault_7 : zD cX5_fault 7 (.ireturn) 1 8 := ⟨by decide +kernel, rfl⟩
theorem eX5_carryOut_0 : zD cX5_carryOut 0 (.aload_n 0) 1 1 := ⟨by decide +kernel, rfl⟩
theorem eX5_carryOut_1 : zD cX5_carryOut 1 (.getfield 37) 3 4 := ⟨by decide +kernel, rfl⟩
theorem eX5_carryOut_4 : zD cX5_carryOut 4 (.invokevirtual 275) 3 7 := ⟨by decide +kernel, rfl⟩
theorem eX5_carryOut_7 : zD cX5_carryOut 7 (.bipush (-6)) 2 9 := ⟨by decide +kernel, rfl⟩
theorem eX5_carryOut_9 : zJ cX5_carryOut 9 (.if_icmp .eq (6)) (6) 15 3 12 := ⟨by decide +kernel, rfl, by decide⟩
theorem eX5_carryOut_12 : zD cX5_carryOut 12 (.bipush (-3)) 2 14 := ⟨by decide +kernel, rfl⟩
theorem eX5_carryOut_14 : zD cX5_carryOut 14 (.ireturn) 1 15 := ⟨by decide +kernel, rfl⟩
theorem eX5_carryOut_15 : zD cX5_carryOut 15 (.aload_n 0) 1 16 := ⟨by decide +kernel, rfl⟩
theorem eX5_carryOut_16 : zD cX5_carryOut 16 (.getfield 22) 3 19 := ⟨by decide +kernel, rfl⟩
theorem eX5_carryOut_19 : zD cX5_carryOut 19 (.aload_n 0) 1 20 := ⟨by decide +kernel, rfl⟩
theorem eX5_carryOut_20 : zD cX5_carryOut 20 (.getfield 12) 3 23 := ⟨by decide +kernel, rfl⟩
theorem eX5_carryOut_23 : zD cX5_carryOut 23 (.invokevirtual 56) 3 26 := ⟨by decide +kernel, rfl⟩
theorem eX5_carryOut_26 : zD cX5_carryOut 26 (.iconst 0) 1 27 := ⟨by decide +kernel, rfl⟩
theorem eX5_carryOut_27 : zD cX5_carryOut 27 (.istore_n 1) 1 28 := ⟨by decide +kernel, rfl⟩
theorem eX5_carryOut_28 : zD cX5_carryOut 28 (.iload_n 1) 1 29 := ⟨by decide +kernel, rfl⟩
theorem eX5_carryOut_29 : zD cX5_carryOut 29 (.aload_n 0) 1 30 := ⟨by decide +kernel, rfl⟩
theorem eX5_carryOut_30 : zD cX5_carryOut 30 (.getfield 37) 3 33 := ⟨by decide +kernel, rfl⟩
theorem eX5_carryOut_33 : zD cX5_carryOut 33 (.getfield 279) 3 36 := ⟨by decide +kernel, rfl⟩
theorem eX5_carryOut_36 : zJ cX5_carryOut 36 (.if_icmp .ge (17)) (17) 53 3 39 := ⟨by decide +kernel, rfl, by decide⟩
theorem eX5_carryOut_39 : zD cX5_carryOut 39 (.aload_n 0) 1 40 := ⟨by decide +kernel, rfl⟩
theorem eX5_carryOut_40 : zD cX5_carryOut 40 (.iload_n 1) 1 41 := ⟨by decide +kernel, rfl⟩
theorem eX5_carryOut_41 : zD cX5_carryOut 41 (.invokevirtual 282) 3 44 := ⟨by decide +kernel, rfl⟩
theorem eX5_carryOut_44 : zJ cX5_carryOut 44 (.ifCond .lt (9)) (9) 53 3 47 := ⟨by decide +kernel, rfl, by decide⟩
theorem eX5_carryOut_47 : zD cX5_carryOut 47 (.iinc 1 1) 3 50 := ⟨by decide +kernel, rfl⟩
theorem eX5_carryOut_50 : zJ cX5_carryOut 50 (.goto (-22)) (-22) 28 3 53 := ⟨by decide +kernel, rfl, by decide⟩
theorem eX5_carryOut_53 : zD cX5_carryOut 53 (.aload_n 0) 1 54 := ⟨by decide +kernel, rfl⟩
theorem eX5_carryOut_54 : zD cX5_carryOut 54 (.getfield 37) 3 57 := ⟨by decide +kernel, rfl⟩
theorem eX5_carryOut_57 : zD cX5_carryOut 57 (.iconst 0) 1 58 := ⟨by decide +kernel, rfl⟩
theorem eX5_carryOut_58 : zD cX5_carryOut 58 (.putfield 231) 3 61 := ⟨by decide +kernel, rfl⟩
theorem eX5_carryOut_61 : zD cX5_carryOut 61 (.aload_n 0) 1 62 := ⟨by decide +kernel, rfl⟩
theorem eX5_carryOut_62 : zD cX5_carryOut 62 (.getfield 22) 3 65 := ⟨by decide +kernel, rfl⟩
theorem eX5_carryOut_65 : zD cX5_carryOut 65 (.iload_n 1) 1 66 := ⟨by decide +kernel, rfl⟩
theorem eX5_carryOut_66 : zD cX5_carryOut 66 (.invokevirtual 63) 3 69 := ⟨by decide +kernel, rfl⟩
theorem eX5_carryOut_69 : zD cX5_carryOut 69 (.ireturn) 1 70 := ⟨by decide +kernel, rfl⟩
theorem eX5_undo_0 : zD cX5_undo 0 (.aload_n 0) 1 1 := ⟨by decide +kernel, rfl⟩
theorem eX5_undo_1 : zD cX5_undo 1 (.getfield 22) 3 4 := ⟨by decide +kernel, rfl⟩
theorem eX5_undo_4 : zD cX5_undo 4 (.getfield 234) 3 7 := ⟨by decide +kernel, rfl⟩
theorem eX5_undo_7 : zJ cX5_undo 7 (.ifCond .ne (6)) (6) 13 3 10 := ⟨by decide +kernel, rfl, by decide⟩
theorem eX5_undo_10 : zD cX5_undo 10 (.bipush (-6)) 2 12 := ⟨by decide +kernel, rfl⟩
theorem eX5_undo_12 : zD cX5_undo 12 (.ireturn) 1 13 := ⟨by decide +kernel, rfl⟩
theorem eX5_undo_13 : zD cX5_undo 13 (.aload_n 0) 1 14 := ⟨by decide +kernel, rfl⟩
theorem eX5_undo_14 : zD cX5_undo 14 (.getfield 12) 3 17 := ⟨by decide +kernel, rfl⟩
theorem eX5_undo_17 : zD cX5_undo 17 (.aload_n 0) 1 18 := ⟨by decide +kernel, rfl⟩
theorem eX5_undo_18 : zD cX5_undo 18 (.getfield 22) 3 21 := ⟨by decide +kernel, rfl⟩
theorem eX5_undo_21 : zD cX5_undo 21 (.invokevirtual 285) 3 24 := ⟨by decide +kernel, rfl⟩
theorem eX5_undo_24 : zD cX5_undo 24 (.invokevirtual 237) 3 27 := ⟨by decide +kernel, rfl⟩
theorem eX5_undo_27 : zD cX5_undo 27 (.aload_n 0) 1 28 := ⟨by decide +kernel, rfl⟩
theorem eX5_undo_28 : zD cX5_undo 28 (.getfield 22) 3 31 := ⟨by decide +kernel, rfl⟩
theorem eX5_undo_31 : zD cX5_undo 31 (.getfield 234) 3 34 := ⟨by decide +kernel, rfl⟩
theorem eX5_undo_34 : zD cX5_undo 34 (.ireturn) 1 35 := ⟨by decide +kernel, rfl⟩
theorem eX5_save_0 : zD cX5_save 0 (.iload_n 1) 1 1 := ⟨by decide +kernel, rfl⟩
theorem eX5_save_1 : zJ cX5_save 1 (.ifCond .lt (8)) (8) 9 3 4 := ⟨by decide +kernel, rfl, by decide⟩
theorem eX5_save_4 : zD cX5_save 4 (.iload_n 1) 1 5 := ⟨by decide +kernel, rfl⟩
theorem eX5_save_5 : zD cX5_save 5 (.iconst 2) 1 6 := ⟨by decide +kernel, rfl⟩
theorem eX5_save_6 : zJ cX5_save 6 (.if_icmp .lt (5)) (5) 11 3 9 := ⟨by decide +kernel, rfl, by decide⟩
theorem eX5_save_9 : zD cX5_save 9 (.iconst (-1)) 1 10 := ⟨by decide +kernel, rfl⟩
theorem eX5_save_10 : zD cX5_save 10 (.ireturn) 1 11 := ⟨by decide +kernel, rfl⟩
theorem eX5_save_11 : zD cX5_save 11 (.aload_n 0) 1 12 := ⟨by decide +kernel, rfl⟩
theorem eX5_save_12 : zD cX5_save 12 (.getfield 26) 3 15 := ⟨by decide +kernel, rfl⟩
theorem eX5_save_15 : zD cX5_save 15 (.iload_n 1) 1 16 := ⟨by decide +kernel, rfl⟩
theorem eX5_save_16 : zD cX5_save 16 (.aaload) 1 17 := ⟨by decide +kernel, rfl⟩
theorem eX5_save_17 : zD cX5_save 17 (.aload_n 0) 1 18 := ⟨by decide +kernel, rfl⟩
theorem eX5_save_18 : zD cX5_save 18 (.getfield 12) 3 21 := ⟨by decide +kernel, rfl⟩
theorem eX5_save_21 : zD cX5_save 21 (.invokevirtual 237) 3 24 := ⟨by decide +kernel, rfl⟩
theorem eX5_save_24 : zD cX5_save 24 (.aload_n 0) 1 25 := ⟨by decide +kernel, rfl⟩
theorem eX5_save_25 : zD cX5_save 25 (.getfield 30) 3 28 := ⟨by decide +kernel, rfl⟩
theorem eX5_save_28 : zD cX5_save 28 (.iload_n 1) 1 29 := ⟨by decide +kernel, rfl⟩
theorem eX5_save_29 : zD cX5_save 29 (.iconst 1) 1 30 := ⟨by decide +kernel, rfl⟩
theorem eX5_save_30 : zD cX5_save 30 (.bastore) 1 31 := ⟨by decide +kernel, rfl⟩
theorem eX5_save_31 : zD cX5_save 31 (.aload_n 0) 1 32 := ⟨by decide +kernel, rfl⟩
theorem eX5_save_32 : zD cX5_save 32 (.getfield 12) 3 35 := ⟨by decide +kernel, rfl⟩
theorem eX5_save_35 : zD cX5_save 35 (.getfield 145) 3 38 := ⟨by decide +kernel, rfl⟩
theorem eX5_save_38 : zD cX5_save 38 (.ireturn) 1 39 := ⟨by decide +kernel, rfl⟩
theorem eX5_restore_0 : zD cX5_restore 0 (.iload_n 1) 1 1 := ⟨by decide +kernel, rfl⟩
theorem eX5_restore_1 : zJ cX5_restore 1 (.ifCond .lt (17)) (17) 18 3 4 := ⟨by decide +kernel, rfl, by decide⟩
theorem eX5_restore_4 : zD cX5_restore 4 (.iload_n 1) 1 5 := ⟨by decide +kernel, rfl⟩
theorem eX5_restore_5 : zD cX5_restore 5 (.iconst 2) 1 6 := ⟨by decide +kernel, rfl⟩
theorem eX5_restore_6 : zJ cX5_restore 6 (.if_icmp .ge (12)) (12) 18 3 9 := ⟨by decide +kernel, rfl, by decide⟩
theorem eX5_restore_9 : zD cX5_restore 9 (.aload_n 0) 1 10 := ⟨by decide +kernel, rfl⟩
theorem eX5_restore_10 : zD cX5_restore 10 (.getfield 30) 3 13 := ⟨by decide +kernel, rfl⟩
theorem eX5_restore_13 : zD cX5_restore 13 (.iload_n 1) 1 14 := ⟨by decide +kernel, rfl⟩
theorem eX5_restore_14 : zD cX5_restore 14 (.baload) 1 15 := ⟨by decide +kernel, rfl⟩
theorem eX5_restore_15 : zJ cX5_restore 15 (.ifCond .ne (5)) (5) 20 3 18 := ⟨by decide +kernel, rfl, by decide⟩
theorem eX5_restore_18 : zD cX5_restore 18 (.iconst (-1)) 1 19 := ⟨by decide +kernel, rfl⟩
theorem eX5_restore_19 : zD cX5_restore 19 (.ireturn) 1 20 := ⟨by decide +kernel, rfl⟩
theorem eX5_restore_20 : zD cX5_restore 20 (.aload_n 0) 1 21 := ⟨by decide +kernel, rfl⟩
theorem eX5_restore_21 : zD cX5_restore 21 (.getfield 22) 3 24 := ⟨by decide +kernel, rfl⟩
theorem eX5_restore_24 : zD cX5_restore 24 (.aload_n 0) 1 25 := ⟨by decide +kernel, rfl⟩
theorem eX5_restore_25 : zD cX5_restore 25 (.getfield 12) 3 28 := ⟨by decide +kernel, rfl⟩
theorem eX5_restore_28 : zD cX5_restore 28 (.invokevirtual 56) 3 31 := ⟨by decide +kernel, rfl⟩
theorem eX5_restore_31 : zD cX5_restore 31 (.aload_n 0) 1 32 := ⟨by decide +kernel, rfl⟩
theorem eX5_restore_32 : zD cX5_restore 32 (.getfield 12) 3 35 := ⟨by decide +kernel, rfl⟩
theorem eX5_restore_35 : zD cX5_restore 35 (.aload_n 0) 1 36 := ⟨by decide +kernel, rfl⟩
theorem eX5_restore_36 : zD cX5_restore 36 (.getfield 26) 3 39 := ⟨by decide +kernel, rfl⟩
theorem eX5_restore_39 : zD cX5_restore 39 (.iload_n 1) 1 40 := ⟨by decide +kernel, rfl⟩
theorem eX5_restore_40 : zD cX5_restore 40 (.aaload) 1 41 := ⟨by decide +kernel, rfl⟩
theorem eX5_restore_41 : zD cX5_restore 41 (.invokevirtual 237) 3 44 := ⟨by decide +kernel, rfl⟩
theorem eX5_restore_44 : zD cX5_restore 44 (.aload_n 0) 1 45 := ⟨by decide +kernel, rfl⟩
theorem eX5_restore_45 : zD cX5_restore 45 (.getfield 22) 3 48 := ⟨by decide +kernel, rfl⟩
theorem eX5_restore_48 : zD cX5_restore 48 (.aload_n 0) 1 49 := ⟨by decide +kernel, rfl⟩
theorem eX5_restore_49 : zD cX5_restore 49 (.getfield 12) 3 52 := ⟨by decide +kernel, rfl⟩
theorem eX5_restore_52 : zD cX5_restore 52 (.getfield 145) 3 55 := ⟨by decide +kernel, rfl⟩
theorem eX5_restore_55 : zD cX5_restore 55 (.invokevirtual 63) 3 58 := ⟨by decide +kernel, rfl⟩
theorem eX5_restore_58 : zD cX5_restore 58 (.ireturn) 1 59 := ⟨by decide +kernel, rfl⟩
end
section
theorem eX6_init_0 : zD cX6_init 0 (.aload_n 0) 1 1 := ⟨by decide +kernel, rfl⟩
theorem eX6_init_1 : zD cX6_init 1 (.invokespecial 1) 3 4 := ⟨by decide +kernel, rfl⟩
theorem eX6_init_4 : zD cX6_init 4 (.aload_n 0) 1 5 := ⟨by decide +kernel, rfl⟩
theorem eX6_init_5 : zD cX6_init 5 (.sipush 4540) 3 8 := ⟨by decide +kernel, rfl⟩
theorem eX6_init_8 : zD cX6_init 8 (.newarray .long) 2 10 := ⟨by decide +kernel, rfl⟩
theorem eX6_init_10 : zD cX6_init 10 (.putfield 7) 3 13 := ⟨by decide +kernel, rfl⟩
theorem eX6_init_13 : zD cX6_init 13 (.aload_n 0) 1 14 := ⟨by decide +kernel, rfl⟩
theorem eX6_init_14 : zD cX6_init 14 (.iconst 2) 1 15 := ⟨by decide +kernel, rfl⟩
theorem eX6_init_15 : zD cX6_init 15 (.newarray .boolean) 2 17 := ⟨by decide +kernel, rfl⟩
theorem eX6_init_17 : zD cX6_init 17 (.putfield 13) 3 20 := ⟨by decide +kernel, rfl⟩
theorem eX6_init_20 : zD cX6_init 20 (.aload_n 0) 1 21 := ⟨by decide +kernel, rfl⟩
theorem eX6_init_21 : zD cX6_init 21 (.bipush 80) 2 23 := ⟨by decide +kernel, rfl⟩
theorem eX6_init_23 : zD cX6_init 23 (.newarray .int) 2 25 := ⟨by decide +kernel, rfl⟩
theorem eX6_init_25 : zD cX6_init 25 (.putfield 17) 3 28 := ⟨by decide +kernel, rfl⟩
theorem eX6_init_28 : zD cX6_init 28 (.aload_n 0) 1 29 := ⟨by decide +kernel, rfl⟩
theorem eX6_init_29 : zD cX6_init 29 (.bipush (-6)) 2 31 := ⟨by decide +kernel, rfl⟩
theorem eX6_init_31 : zD cX6_init 31 (.putfield 21) 3 34 := ⟨by decide +kernel, rfl⟩
theorem eX6_init_34 : zD cX6_init 34 (.aload_n 0) 1 35 := ⟨by decide +kernel, rfl⟩
theorem eX6_init_35 : zD cX6_init 35 (.bipush 30) 2 37 := ⟨by decide +kernel, rfl⟩
theorem eX6_init_37 : zD cX6_init 37 (.newarray .boolean) 2 39 := ⟨by decide +kernel, rfl⟩
theorem eX6_init_39 : zD cX6_init 39 (.putfield 25) 3 42 := ⟨by decide +kernel, rfl⟩
theorem eX6_init_42 : zD cX6_init 42 (.aload_n 0) 1 43 := ⟨by decide +kernel, rfl⟩
theorem eX6_init_43 : zD cX6_init 43 (.bipush 30) 2 45 := ⟨by decide +kernel, rfl⟩
theorem eX6_init_45 : zD cX6_init 45 (.newarray .boolean) 2 47 := ⟨by decide +kernel, rfl⟩
theorem eX6_init_47 : zD cX6_init 47 (.putfield 28) 3 50 := ⟨by decide +kernel, rfl⟩
theorem eX6_init_50 : zD cX6_init 50 (.aload_n 0) 1 51 := ⟨by decide +kernel, rfl⟩
theorem eX6_init_51 : zD cX6_init 51 (.bipush 42) 2 53 := ⟨by decide +kernel, rfl⟩
theorem eX6_init_53 : zD cX6_init 53 (.newarray .int) 2 55 := ⟨by decide +kernel, rfl⟩
theorem eX6_init_55 : zD cX6_init 55 (.dup) 1 56 := ⟨by decide +kernel, rfl⟩
theorem eX6_init_56 : zD cX6_init 56 (.iconst 0) 1 57 := ⟨by decide +kernel, rfl⟩
theorem eX6_init_57 : zD cX6_init 57 (.iconst 1) 1 58 := ⟨by decide +kernel, rfl⟩
theorem eX6_init_58 : zD cX6_init 58 (.iastore) 1 59 := ⟨by decide +kernel, rfl⟩
theorem eX6_init_59 : zD cX6_init 59 (.dup) 1 60 := ⟨by decide +kernel, rfl⟩
theorem eX6_init_60 : zD cX6_init 60 (.iconst 1) 1 61 := ⟨by decide +kernel, rfl⟩
theorem eX6_init_61 : zD cX6_init 61 (.bipush 42) 2 63 := ⟨by decide +kernel, rfl⟩
theorem eX6_init_63 : zD cX6_init 63 (.iastore) 1 64 := ⟨by decide +kernel, rfl⟩
theorem eX6_init_64 : zD cX6_init 64 (.dup) 1 65 := ⟨by decide +kernel, rfl⟩
theorem eX6_init_65 : zD cX6_init 65 (.iconst 2) 1 66 := ⟨by decide +kernel, rfl⟩
theorem eX6_init_66 : zD cX6_init 66 (.iconst 3) 1 67 := ⟨by decide +kernel, rfl⟩
theorem eX6_init_67 : zD cX6_init 67 (.iastore) 1 68 := ⟨by decide +kernel, rfl⟩
theorem eX6_init_68 : zD cX6_init 68 (.dup) 1 69 := ⟨by decide +kernel, rfl⟩
theorem eX6_init_69 : zD cX6_init 69 (.iconst 3) 1 70 := ⟨by decide +kernel, rfl⟩
theorem eX6_init_70 : zD cX6_init 70 (.bipush 37) 2 72 := ⟨by decide +kernel, rfl⟩
theorem eX6_init_72 : zD cX6_init 72 (.iastore) 1 73 := ⟨by decide +kernel, rfl⟩
theorem eX6_init_73 : zD cX6_init 73 (.dup) 1 74 := ⟨by decide +kernel, rfl⟩
theorem eX6_init_74 : zD cX6_init 74 (.iconst 4) 1 75 := ⟨by decide +kernel, rfl⟩
theorem eX6_init_75 : zD cX6_init 75 (.iconst 3) 1 76 := ⟨by decide +kernel, rfl⟩
theorem eX6_init_76 : zD cX6_init 76 (.iastore) 1 77 := ⟨by decide +kernel, rfl⟩
theorem eX6_init_77 : zD cX6_init 77 (.dup) 1 78 := ⟨by decide +kernel, rfl⟩
theorem eX6_init_78 : zD cX6_init 78 (.iconst 5) 1 79 := ⟨by decide +kernel, rfl⟩
theorem eX6_init_79 : zD cX6_init 79 (.iconst 0) 1 80 := ⟨by decide +kernel, rfl⟩
theorem eX6_init_80 : zD cX6_init 80 (.iastore) 1 81 := ⟨by decide +kernel, rfl⟩
theorem eX6_init_81 : zD cX6_init 81 (.dup) 1 82 := ⟨by decide +kernel, rfl⟩
theorem eX6_init_82 : zD cX6_init 82 (.bipush 6) 2 84 := ⟨by decide +kernel, rfl⟩
theorem eX6_init_84 : zD cX6_init 84 (.iconst 0) 1 85 := ⟨by decide +kernel, rfl⟩
theorem eX6_init_85 : zD cX6_init 85 (.iastore) 1 86 := ⟨by decide +kernel, rfl⟩
theorem eX6_init_86 : zD cX6_init 86 (.dup) 1 87 := ⟨by decide +kernel, rfl⟩
theorem eX6_init_87 : zD cX6_init 87 (.bipush 7) 2 89 := ⟨by decide +kernel, rfl⟩
theorem eX6_init_89 : zD cX6_init 89 (.iconst 1) 1 90 := ⟨by decide +kernel, rfl⟩
theorem eX6_init_90 : zD cX6_init 90 (.iastore) 1 91 := ⟨by decide +kernel, rfl⟩
theorem eX6_init_91 : zD cX6_init 91 (.dup) 1 92 := ⟨by decide +kernel, rfl⟩
theorem eX6_init_92 : zD cX6_init 92 (.bipush 8) 2 94 := ⟨by decide +kernel, rfl⟩
theorem eX6_init_94 : zD cX6_init 94 (.bipush 42) 2 96 := ⟨by decide +kernel, rfl⟩
theorem eX6_init_96 : zD cX6_init 96 (.iastore) 1 97 := ⟨by decide +kernel, rfl⟩
theorem eX6_init_97 : zD cX6_init 97 (.dup) 1 98 := ⟨by decide +kernel, rfl⟩
theorem eX6_init_98 : zD cX6_init 98 (.bipush 9) 2 100 := ⟨by decide +kernel, rfl⟩
theorem eX6_init_100 : zD cX6_init 100 (.iconst 3) 1 101 := ⟨by decide +kernel, rfl⟩
theorem eX6_init_101 : zD cX6_init 101 (.iastore) 1 102 := ⟨by decide +kernel, rfl⟩
theorem eX6_init_102 : zD cX6_init 102 (.dup) 1 103 := ⟨by decide +kernel, rfl⟩
theorem eX6_init_103 : zD cX6_init 103 (.bipush 10) 2 105 := ⟨by decide +kernel, rfl⟩
theorem eX6_init_105 : zD cX6_init 105 (.iconst 0) 1 106 := ⟨by decide +kernel, rfl⟩
theorem eX6_init_106 : zD cX6_init 106 (.iastore) 1 107 := ⟨by decide +kernel, rfl⟩
theorem eX6_init_107 : zD cX6_init 107 (.dup) 1 108 := ⟨by decide +kernel, rfl⟩
theorem eX6_init_108 : zD cX6_init 108 (.bipush 11) 2 110 := ⟨by decide +kernel, rfl⟩
theorem eX6_init_110 : zD cX6_init 110 (.iconst 0) 1 111 := ⟨by decide +kernel, rfl⟩
theorem eX6_init_111 : zD cX6_init 111 (.iastore) 1 112 := ⟨by decide +kernel, rfl⟩
theorem eX6_init_112 : zD cX6_init 112 (.dup) 1 113 := ⟨by decide +kernel, rfl⟩
theorem eX6_init_113 : zD cX6_init 113 (.bipush 12) 2 115 := ⟨by decide +kernel, rfl⟩
theorem eX6_init_115 : zD cX6_init 115 (.iconst 0) 1 116 := ⟨by decide +kernel, rfl⟩
theorem eX6_init_116 : zD cX6_init 116 (.iastore) 1 117 := ⟨by decide +kernel, rfl⟩
theorem eX6_init_117 : zD cX6_init 117 (.dup) 1 118 := ⟨by decide +kernel, rfl⟩
theorem eX6_init_118 : zD cX6_init 118 (.bipush 13) 2 120 := ⟨by decide +kernel, rfl⟩
theorem eX6_init_120 : zD cX6_init 120 (.iconst 0) 1 121 := ⟨by decide +kernel, rfl⟩
theorem eX6_init_121 : zD cX6_init 121 (.iastore) 1 122 := ⟨by decide +kernel, rfl⟩
theorem eX6_init_122 : zD cX6_init 122 (.dup) 1 123 := ⟨by decide +kernel, rfl⟩
theorem eX6_init_123 : zD cX6_init 123 (.bipush 14) 2 125 := ⟨by decide +kernel, rfl⟩
theorem eX6_init_125 : zD cX6_init 125 (.iconst 1) 1 126 := ⟨by decide +kernel, rfl⟩
theorem eX6_init_126 : zD cX6_init 126 (.iastore) 1 127 := ⟨by decide +kernel, rfl⟩
theorem eX6_init_127 : zD cX6_init 127 (.dup) 1 128 := ⟨by decide +kernel, rfl⟩
theorem eX6_init_128 : zD cX6_init 128 (.bipush 15) 2 130 := ⟨by decide +kernel, rfl⟩
theorem eX6_init_130 : zD cX6_init 130 (.bipush 62) 2 132 := ⟨by decide +kernel, rfl⟩
theorem eX6_init_132 : zD cX6_init 132 (.iastore) 1 133 := ⟨by decide +kernel, rfl⟩
theorem eX6_init_133 : zD cX6_init 133 (.dup) 1 134 := ⟨by decide +kernel, rfl⟩
theorem eX6_init_134 : zD cX6_init 134 (.bipush 16) 2 136 := ⟨by decide +kernel, rfl⟩
theorem eX6_init_136 : zD cX6_init 136 (.iconst 1) 1 137 := ⟨by decide +kernel, rfl⟩
theorem eX6_init_137 : zD cX6_init 137 (.iastore) 1 138 := ⟨by decide +kernel, rfl⟩
theorem eX6_init_138 : zD cX6_init 138 (.dup) 1 139 := ⟨by decide +kernel, rfl⟩
theorem eX6_init_139 : zD cX6_init 139 (.bipush 17) 2 141 := ⟨by decide +kernel, rfl⟩
theorem eX6_init_141 : zD cX6_init 141 (.bipush 42) 2 143 := ⟨by decide +kernel, rfl⟩
theorem eX6_init_143 : zD cX6_init 143 (.iastore) 1 144 := ⟨by decide +kernel, rfl⟩
theorem eX6_init_144 : zD cX6_init 144 (.dup) 1 145 := ⟨by decide +kernel, rfl⟩
theorem eX6_init_145 : zD cX6_init 145 (.bipush 18) 2 147 := ⟨by decide +kernel, rfl⟩
theorem eX6_init_147 : zD cX6_init 147 (.iconst 3) 1 148 := ⟨by decide +kernel, rfl⟩
theorem eX6_init_148 : zD cX6_init 148 (.iastore) 1 149 := ⟨by decide +kernel, rfl⟩
theorem eX6_init_149 : zD cX6_init 149 (.dup) 1 150 := ⟨by decide +kernel, rfl⟩
theorem eX6_init_150 : zD cX6_init 150 (.bipush 19) 2 152 := ⟨by decide +kernel, rfl⟩
theorem eX6_init_152 : zD cX6_init 152 (.bipush 47) 2 154 := ⟨by decide +kernel, rfl⟩
theorem eX6_init_154 : zD cX6_init 154 (.iastore) 1 155 := ⟨by decide +kernel, rfl⟩
theorem eX6_init_155 : zD cX6_init 155 (.dup) 1 156 := ⟨by decide +kernel, rfl⟩
theorem eX6_init_156 : zD cX6_init 156 (.bipush 20) 2 158 := ⟨by decide +kernel, rfl⟩
theorem eX6_init_158 : zD cX6_init 158 (.iconst 2) 1 159 := ⟨by decide +kernel, rfl⟩
theorem eX6_init_159 : zD cX6_init 159 (.iastore) 1 160 := ⟨by decide +kernel, rfl⟩
theorem eX6_init_160 : zD cX6_init 160 (.dup) 1 161 := ⟨by decide +kernel, rfl⟩
theorem eX6_init_161 : zD cX6_init 161 (.bipush 21) 2 163 := ⟨by decide +kernel, rfl⟩
theorem eX6_init_163 : zD cX6_init 163 (.iconst 1) 1 164 := ⟨by decide +kernel, rfl⟩
theorem eX6_init_164 : zD cX6_init 164 (.iastore) 1 165 := ⟨by decide +kernel, rfl⟩
theorem eX6_init_165 : zD cX6_init 165 (.dup) 1 166 := ⟨by decide +kernel, rfl⟩
theorem eX6_init_166 : zD cX6_init 166 (.bipush 22) 2 168 := ⟨by decide +kernel, rfl⟩
theorem eX6_init_168 : zD cX6_init 168 (.bipush 64) 2 170 := ⟨by decide +kernel, rfl⟩
theorem eX6_init_170 : zD cX6_init 170 (.iastore) 1 171 := ⟨by decide +kernel, rfl⟩
theorem eX6_init_171 : zD cX6_init 171 (.dup) 1 172 := ⟨by decide +kernel, rfl⟩
theorem eX6_init_172 : zD cX6_init 172 (.bipush 23) 2 174 := ⟨by decide +kernel, rfl⟩
theorem eX6_init_174 : zD cX6_init 174 (.iconst 3) 1 175 := ⟨by decide +kernel, rfl⟩
theorem eX6_init_175 : zD cX6_init 175 (.iastore) 1 176 := ⟨by decide +kernel, rfl⟩
theorem eX6_init_176 : zD cX6_init 176 (.dup) 1 177 := ⟨by decide +kernel, rfl⟩
theorem eX6_init_177 : zD cX6_init 177 (.bipush 24) 2 179 := ⟨by decide +kernel, rfl⟩
theorem eX6_init_179 : zD cX6_init 179 (.bipush 42) 2 181 := ⟨by decide +kernel, rfl⟩
theorem eX6_init_181 : zD cX6_init 181 (.iastore) 1 182 := ⟨by decide +kernel, rfl⟩
theorem eX6_init_182 : zD cX6_init 182 (.dup) 1 183 := ⟨by decide +kernel, rfl⟩
theorem eX6_init_183 : zD cX6_init 183 (.bipush 25) 2 185 := ⟨by decide +kernel, rfl⟩
theorem eX6_init_185 : zD cX6_init 185 (.iconst 3) 1 186 := ⟨by decide +kernel, rfl⟩
theorem eX6_init_186 : zD cX6_init 186 (.iastore) 1 187 := ⟨by decide +kernel, rfl⟩
theorem eX6_init_187 : zD cX6_init 187 (.dup) 1 188 := ⟨by decide +kernel, rfl⟩
theorem eX6_init_188 : zD cX6_init 188 (.bipush 26) 2 190 := ⟨by decide +kernel, rfl⟩
theorem eX6_init_190 : zD cX6_init 190 (.bipush 94) 2 192 := ⟨by decide +kernel, rfl⟩
theorem eX6_init_192 : zD cX6_init 192 (.iastore) 1 193 := ⟨by decide +kernel, rfl⟩
theorem eX6_init_193 : zD cX6_init 193 (.dup) 1 194 := ⟨by decide +kernel, rfl⟩
theorem eX6_init_194 : zD cX6_init 194 (.bipush 27) 2 196 := ⟨by decide +kernel, rfl⟩
theorem eX6_init_196 : zD cX6_init 196 (.iconst 2) 1 197 := ⟨by decide +kernel, rfl⟩
theorem eX6_init_197 : zD cX6_init 197 (.iastore) 1 198 := ⟨by decide +kernel, rfl⟩
theorem eX6_init_198 : zD cX6_init 198 (.dup) 1 199 := ⟨by decide +kernel, rfl⟩
theorem eX6_init_199 : zD cX6_init 199 (.bipush 28) 2 201 := ⟨by decide +kernel, rfl⟩
theorem eX6_init_201 : zD cX6_init 201 (.iconst 3) 1 202 := ⟨by decide +kernel, rfl⟩
theorem eX6_init_202 : zD cX6_init 202 (.iastore) 1 203 := ⟨by decide +kernel, rfl⟩
theorem eX6_init_203 : zD cX6_init 203 (.dup) 1 204 := ⟨by decide +kernel, rfl⟩
theorem eX6_init_204 : zD cX6_init 204 (.bipush 29) 2 206 := ⟨by decide +kernel, rfl⟩
theorem eX6_init_206 : zD cX6_init 206 (.iconst 0) 1 207 := ⟨by decide +kernel, rfl⟩
theorem eX6_init_207 : zD cX6_init 207 (.iastore) 1 208 := ⟨by decide +kernel, rfl⟩
theorem eX6_init_208 : zD cX6_init 208 (.dup) 1 209 := ⟨by decide +kernel, rfl⟩
theorem eX6_init_209 : zD cX6_init 209 (.bipush 30) 2 211 := ⟨by decide +kernel, rfl⟩
theorem eX6_init_211 : zD cX6_init 211 (.iconst 0) 1 212 := ⟨by decide +kernel, rfl⟩
theorem eX6_init_212 : zD cX6_init 212 (.iastore) 1 213 := ⟨by decide +kernel, rfl⟩
theorem eX6_init_213 : zD cX6_init 213 (.dup) 1 214 := ⟨by decide +kernel, rfl⟩
theorem eX6_init_214 : zD cX6_init 214 (.bipush 31) 2 216 := ⟨by decide +kernel, rfl⟩
theorem eX6_init_216 : zD cX6_init 216 (.iconst 0) 1 217 := ⟨by decide +kernel, rfl⟩
theorem eX6_init_217 : zD cX6_init 217 (.iastore) 1 218 := ⟨by decide +kernel, rfl⟩
theorem eX6_init_218 : zD cX6_init 218 (.dup) 1 219 := ⟨by decide +kernel, rfl⟩
theorem eX6_init_219 : zD cX6_init 219 (.bipush 32) 2 221 := ⟨by decide +kernel, rfl⟩
theorem eX6_init_221 : zD cX6_init 221 (.iconst 0) 1 222 := ⟨by decide +kernel, rfl⟩
theorem eX6_init_222 : zD cX6_init 222 (.iastore) 1 223 := ⟨by decide +kernel, rfl⟩
theorem eX6_init_223 : zD cX6_init 223 (.dup) 1 224 := ⟨by decide +kernel, rfl⟩
theorem eX6_init_224 : zD cX6_init 224 (.bipush 33) 2 226 := ⟨by decide +kernel, rfl⟩
theorem eX6_init_226 : zD cX6_init 226 (.iconst 0) 1 227 := ⟨by decide +kernel, rfl⟩
theorem eX6_init_227 : zD cX6_init 227 (.iastore) 1 228 := ⟨by decide +kernel, rfl⟩
theorem eX6_init_228 : zD cX6_init 228 (.dup) 1 229 := ⟨by decide +kernel, rfl⟩
theorem eX6_init_229 : zD cX6_init 229 (.bipush 34) 2 231 := ⟨by decide +kernel, rfl⟩
theorem eX6_init_231 : zD cX6_init 231 (.iconst 0) 1 232 := ⟨by decide +kernel, rfl⟩
theorem eX6_init_232 : zD cX6_init 232 (.iastore) 1 233 := ⟨by decide +kernel, rfl⟩
theorem eX6_init_233 : zD cX6_init 233 (.dup) 1 234 := ⟨by decide +kernel, rfl⟩
theorem eX6_init_234 : zD cX6_init 234 (.bipush 35) 2 236 := ⟨by decide +kernel, rfl⟩
theorem eX6_init_236 : zD cX6_init 236 (.iconst 3) 1 237 := ⟨by decide +kernel, rfl⟩
theorem eX6_init_237 : zD cX6_init 237 (.iastore) 1 238 := ⟨by decide +kernel, rfl⟩
theorem eX6_init_238 : zD cX6_init 238 (.dup) 1 239 := ⟨by decide +kernel, rfl⟩
theorem eX6_init_239 : zD cX6_init 239 (.bipush 36) 2 241 := ⟨by decide +kernel, rfl⟩
theorem eX6_init_241 : zD cX6_init 241 (.iconst 0) 1 242 := ⟨by decide +kernel, rfl⟩
theorem eX6_init_242 : zD cX6_init 242 (.iastore) 1 243 := ⟨by decide +kernel, rfl⟩
theorem eX6_init_243 : zD cX6_init 243 (.dup) 1 244 := ⟨by decide +kernel, rfl⟩
theorem eX6_init_244 : zD cX6_init 244 (.bipush 37) 2 246 := ⟨by decide +kernel, rfl⟩
theorem eX6_init_246 : zD cX6_init 246 (.iconst 0) 1 247 := ⟨by decide +kernel, rfl⟩
theorem eX6_init_247 : zD cX6_init 247 (.iastore) 1 248 := ⟨by decide +kernel, rfl⟩
theorem eX6_init_248 : zD cX6_init 248 (.dup) 1 249 := ⟨by decide +kernel, rfl⟩
theorem eX6_init_249 : zD cX6_init 249 (.bipush 38) 2 251 := ⟨by decide +kernel, rfl⟩
theorem eX6_init_251 : zD cX6_init 251 (.iconst 0) 1 252 := ⟨by decide +kernel, rfl⟩
theorem eX6_init_252 : zD cX6_init 252 (.iastore) 1 253 := ⟨by decide +kernel, rfl⟩
theorem eX6_init_253 : zD cX6_init 253 (.dup) 1 254 := ⟨by decide +kernel, rfl⟩
theorem eX6_init_254 : zD cX6_init 254 (.bipush 39) 2 256 := ⟨by decide +kernel, rfl⟩
theorem eX6_init_256 : zD cX6_init 256 (.iconst 0) 1 257 := ⟨by decide +kernel, rfl⟩
theorem eX6_init_257 : zD cX6_init 257 (.iastore) 1 258 := ⟨by decide +kernel, rfl⟩
theorem eX6_init_258 : zD cX6_init 258 (.dup) 1 259 := ⟨by decide +kernel, rfl⟩
theorem eX6_init_259 : zD cX6_init 259 (.bipush 40) 2 261 := ⟨by decide +kernel, rfl⟩
theorem eX6_init_261 : zD cX6_init 261 (.iconst 0) 1 262 := ⟨by decide +kernel, rfl⟩
theorem eX6_init_262 : zD cX6_init 262 (.iastore) 1 263 := ⟨by decide +kernel, rfl⟩
theorem eX6_init_263 : zD cX6_init 263 (.dup) 1 264 := ⟨by decide +kernel, rfl⟩
theorem eX6_init_264 : zD cX6_init 264 (.bipush 41) 2 266 := ⟨by decide +kernel, rfl⟩
theorem eX6_init_266 : zD cX6_init 266 (.iconst 0) 1 267 := ⟨by decide +kernel, rfl⟩
theorem eX6_init_267 : zD cX6_init 267 (.iastore) 1 268 := ⟨by decide +kernel, rfl⟩
theorem eX6_init_268 : zD cX6_init 268 (.putfield 31) 3 271 := ⟨by decide +kernel, rfl⟩
theorem eX6_init_271 : zD cX6_init 271 (.aload_n 0) 1 272 := ⟨by decide +kernel, rfl⟩
theorem eX6_init_272 : zD cX6_init 272 (.iconst 4) 1 273 := ⟨by decide +kernel, rfl⟩
theorem eX6_init_273 : zD cX6_init 273 (.newarray .int) 2 275 := ⟨by decide +kernel, rfl⟩
theorem eX6_init_275 : zD cX6_init 275 (.putfield 34) 3 278 := ⟨by decide +kernel, rfl⟩
theorem eX6_init_278 : zD cX6_init 278 (.aload_n 0) 1 279 := ⟨by decide +kernel, rfl⟩
theorem eX6_init_279 : zD cX6_init 279 (.getfield 7) 3 282 := ⟨by decide +kernel, rfl⟩
theorem eX6_init_282 : zD cX6_init 282 (.iconst 0) 1 283 := ⟨by decide +kernel, rfl⟩
theorem eX6_init_283 : zD cX6_init 283 (.ldc2_w 37) 3 286 := ⟨by decide +kernel, rfl⟩
theorem eX6_init_286 : zD cX6_init 286 (.lastore) 1 287 := ⟨by decide +kernel, rfl⟩
theorem eX6_init_287 : zD cX6_init 287 (.aload_n 0) 1 288 := ⟨by decide +kernel, rfl⟩
theorem eX6_init_288 : zD cX6_init 288 (.getfield 7) 3 291 := ⟨by decide +kernel, rfl⟩
theorem eX6_init_291 : zD cX6_init 291 (.iconst 1) 1 292 := ⟨by decide +kernel, rfl⟩
theorem eX6_init_292 : zD cX6_init 292 (.ldc2_w 39) 3 295 := ⟨by decide +kernel, rfl⟩
theorem eX6_init_295 : zD cX6_init 295 (.lastore) 1 296 := ⟨by decide +kernel, rfl⟩
theorem eX6_init_296 : zD cX6_init 296 (.aload_n 0) 1 297 := ⟨by decide +kernel, rfl⟩
theorem eX6_init_297 : zD cX6_init 297 (.getfield 7) 3 300 := ⟨by decide +kernel, rfl⟩
theorem eX6_init_300 : zD cX6_init 300 (.iconst 2) 1 301 := ⟨by decide +kernel, rfl⟩
theorem eX6_init_301 : zD cX6_init 301 (.ldc2_w 41) 3 304 := ⟨by decide +kernel, rfl⟩
theorem eX6_init_304 : zD cX6_init 304 (.lastore) 1 305 := ⟨by decide +kernel, rfl⟩
theorem eX6_init_305 : zD cX6_init 305 (.aload_n 0) 1 306 := ⟨by decide +kernel, rfl⟩
theorem eX6_init_306 : zD cX6_init 306 (.getfield 7) 3 309 := ⟨by decide +kernel, rfl⟩
theorem eX6_init_309 : zD cX6_init 309 (.iconst 3) 1 310 := ⟨by decide +kernel, rfl⟩
theorem eX6_init_310 : zD cX6_init 310 (.ldc2_w 41) 3 313 := ⟨by decide +kernel, rfl⟩
theorem eX6_init_313 : zD cX6_init 313 (.lastore) 1 314 := ⟨by decide +kernel, rfl⟩
theorem eX6_init_314 : zD cX6_init 314 (.aload_n 0) 1 315 := ⟨by decide +kernel, rfl⟩
theorem eX6_init_315 : zD cX6_init 315 (.getfield 7) 3 318 := ⟨by decide +kernel, rfl⟩
theorem eX6_init_318 : zD cX6_init 318 (.iconst 4) 1 319 := ⟨by decide +kernel, rfl⟩
theorem eX6_init_319 : zD cX6_init 319 (.ldc2_w 43) 3 322 := ⟨by decide +kernel, rfl⟩
theorem eX6_init_322 : zD cX6_init 322 (.lastore) 1 323 := ⟨by decide +kernel, rfl⟩
theorem eX6_init_323 : zD cX6_init 323 (.aload_n 0) 1 324 := ⟨by decide +kernel, rfl⟩
theorem eX6_init_324 : zD cX6_init 324 (.getfield 7) 3 327 := ⟨by decide +kernel, rfl⟩
theorem eX6_init_327 : zD cX6_init 327 (.iconst 5) 1 328 := ⟨by decide +kernel, rfl⟩
theorem eX6_init_328 : zD cX6_init 328 (.ldc2_w 45) 3 331 := ⟨by decide +kernel, rfl⟩
theorem eX6_init_331 : zD cX6_init 331 (.lastore) 1 332 := ⟨by decide +kernel, rfl⟩
theorem eX6_init_332 : zD cX6_init 332 (.aload_n 0) 1 333 := ⟨by decide +kernel, rfl⟩
theorem eX6_init_333 : zD cX6_init 333 (.getfield 7) 3 336 := ⟨by decide +kernel, rfl⟩
theorem eX6_init_336 : zD cX6_init 336 (.bipush 6) 2 338 := ⟨by decide +kernel, rfl⟩
theorem eX6_init_338 : zD cX6_init 338 (.ldc2_w 47) 3 341 := ⟨by decide +kernel, rfl⟩
theorem eX6_init_341 : zD cX6_init 341 (.lastore) 1 342 := ⟨by decide +kernel, rfl⟩
theorem eX6_init_342 : zD cX6_init 342 (.aload_n 0) 1 343 := ⟨by decide +kernel, rfl⟩
theorem eX6_init_343 : zD cX6_init 343 (.getfield 7) 3 346 := ⟨by decide +kernel, rfl⟩
theorem eX6_init_346 : zD cX6_init 346 (.bipush 7) 2 348 := ⟨by decide +kernel, rfl⟩
theorem eX6_init_348 : zD cX6_init 348 (.lconst 1) 1 349 := ⟨by decide +kernel, rfl⟩
theorem eX6_init_349 : zD cX6_init 349 (.lastore) 1 350 := ⟨by decide +kernel, rfl⟩
theorem eX6_init_350 : zD cX6_init 350 (.return_) 1 351 := ⟨by decide +kernel, rfl⟩
theorem eX6_in_0 : zD cX6_in 0 (.lload_n 0) 1 1 := ⟨by decide +kernel, rfl⟩
theorem eX6_in_1 : zD cX6_in 1 (.lload_n 2) 1 2 := ⟨by decide +kernel, rfl⟩
theorem eX6_in_2 : zD cX6_in 2 (.lcmp) 1 3 := ⟨by decide +kernel, rfl⟩
theorem eX6_in_3 : zJ cX6_in 3 (.ifCond .lt (14)) (14) 17 3 6 := ⟨by decide +kernel, rfl, by decide⟩
theorem eX6_in_6 : zD cX6_in 6 (.lload_n 0) 1 7 := ⟨by decide +kernel, rfl⟩
theorem eX6_in_7 : zD cX6_in 7 (.lload 4) 2 9 := ⟨by decide +kernel, rfl⟩
theorem eX6_in_9 : zD cX6_in 9 (.lcmp) 1 10 := ⟨by decide +kernel, rfl⟩
theorem eX6_in_10 : zJ cX6_in 10 (.ifCond .gt (7)) (7) 17 3 13 := ⟨by decide +kernel, rfl, by decide⟩
theorem eX6_in_13 : zD cX6_in 13 (.iconst 1) 1 14 := ⟨by decide +kernel, rfl⟩
theorem eX6_in_14 : zJ cX6_in 14 (.goto (4)) (4) 18 3 17 := ⟨by decide +kernel, rfl, by decide⟩
theorem eX6_in_17 : zD cX6_in 17 (.iconst 0) 1 18 := ⟨by decide +kernel, rfl⟩
theorem eX6_in_18 : zD cX6_in 18 (.ireturn) 1 19 := ⟨by decide +kernel, rfl⟩
theorem eX6_number_0 : zD cX6_number 0 (.aload_n 0) 1 1 := ⟨by decide +kernel, rfl⟩
theorem eX6_number_1 : zD cX6_number 1 (.getfield 7) 3 4 := ⟨by decide +kernel, rfl⟩
theorem eX6_number_4 : zD cX6_number 4 (.iload_n 1) 1 5 := ⟨by decide +kernel, rfl⟩
theorem eX6_number_5 : zD cX6_number 5 (.laload) 1 6 := ⟨by decide +kernel, rfl⟩
theorem eX6_number_6 : zD cX6_number 6 (.l2i) 1 7 := ⟨by decide +kernel, rfl⟩
theorem eX6_number_7 : zD cX6_number 7 (.ireturn) 1 8 := ⟨by decide +kernel, rfl⟩
theorem eX6_copy_0 : zD cX6_copy 0 (.iconst 0) 1 1 := ⟨by decide +kernel, rfl⟩
theorem eX6_copy_1 : zD cX6_copy 1 (.istore_n 3) 1 2 := ⟨by decide +kernel, rfl⟩
theorem eX6_copy_2 : zD cX6_copy 2 (.iload_n 3) 1 3 := ⟨by decide +kernel, rfl⟩
theorem eX6_copy_3 : zD cX6_copy 3 (.sipush 454) 3 6 := ⟨by decide +kernel, rfl⟩
theorem eX6_copy_6 : zJ cX6_copy 6 (.if_icmp .ge (25)) (25) 31 3 9 := ⟨by decide +kernel, rfl, by decide⟩
theorem eX6_copy_9 : zD cX6_copy 9 (.aload_n 0) 1 10 := ⟨by decide +kernel, rfl⟩
theorem eX6_copy_10 : zD cX6_copy 10 (.getfield 7) 3 13 := ⟨by decide +kernel, rfl⟩
theorem eX6_copy_13 : zD cX6_copy 13 (.iload_n 2) 1 14 := ⟨by decide +kernel, rfl⟩
theorem eX6_copy_14 : zD cX6_copy 14 (.iload_n 3) 1 15 := ⟨by decide +kernel, rfl⟩
theorem eX6_copy_15 : zD cX6_copy 15 (.iadd) 1 16 := ⟨by decide +kernel, rfl⟩
theorem eX6_copy_16 : zD cX6_copy 16 (.aload_n 0) 1 17 := ⟨by decide +kernel, rfl⟩
theorem eX6_copy_17 : zD cX6_copy 17 (.getfield 7) 3 20 := ⟨by decide +kernel, rfl⟩
theorem eX6_copy_20 : zD cX6_copy 20 (.iload_n 1) 1 21 := ⟨by decide +kernel, rfl⟩
theorem eX6_copy_21 : zD cX6_copy 21 (.iload_n 3) 1 22 := ⟨by decide +kernel, rfl⟩
theorem eX6_copy_22 : zD cX6_copy 22 (.iadd) 1 23 := ⟨by decide +kernel, rfl⟩
theorem eX6_copy_23 : zD cX6_copy 23 (.laload) 1 24 := ⟨by decide +kernel, rfl⟩
theorem eX6_copy_24 : zD cX6_copy 24 (.lastore) 1 25 := ⟨by decide +kernel, rfl⟩
theorem eX6_copy_25 : zD cX6_copy 25 (.iinc 3 1) 3 28 := ⟨by decide +kernel, rfl⟩
theorem eX6_copy_28 : zJ cX6_copy 28 (.goto (-26)) (-26) 2 3 31 := ⟨by decide +kernel, rfl, by decide⟩
theorem eX6_copy_31 : zD cX6_copy 31 (.return_) 1 32 := ⟨by decide +kernel, rfl⟩
theorem eX6_record_0 : zD cX6_record 0 (.aload_n 0) 1 1 := ⟨by decide +kernel, rfl⟩
theorem eX6_record_1 : zD cX6_record 1 (.getfield 49) 3 4 := ⟨by decide +kernel, rfl⟩
theorem eX6_record_4 : zD cX6_record 4 (.bipush 6) 2 6 := ⟨by decide +kernel, rfl⟩
theorem eX6_record_6 : zJ cX6_record 6 (.if_icmp .ne (45)) (45) 51 3 9 := ⟨by decide +kernel, rfl, by decide⟩
theorem eX6_record_9 : zD cX6_record 9 (.iconst 1) 1 10 := ⟨by decide +kernel, rfl⟩
theorem eX6_record_10 : zD cX6_record 10 (.istore_n 1) 1 11 := ⟨by decide +kernel, rfl⟩
theorem eX6_record_11 : zD cX6_record 11 (.iload_n 1) 1 12 := ⟨by decide +kernel, rfl⟩
theorem eX6_record_12 : zD cX6_record 12 (.bipush 6) 2 14 := ⟨by decide +kernel, rfl⟩
theorem eX6_record_14 : zJ cX6_record 14 (.if_icmp .ge (27)) (27) 41 3 17 := ⟨by decide +kernel, rfl, by decide⟩
theorem eX6_record_17 : zD cX6_record 17 (.aload_n 0) 1 18 := ⟨by decide +kernel, rfl⟩
theorem eX6_record_18 : zD cX6_record 18 (.sipush 454) 3 21 := ⟨by decide +kernel, rfl⟩
theorem eX6_record_21 : zD cX6_record 21 (.sipush 454) 3 24 := ⟨by decide +kernel, rfl⟩
theorem eX6_record_24 : zD cX6_record 24 (.iload_n 1) 1 25 := ⟨by decide +kernel, rfl⟩
theorem eX6_record_25 : zD cX6_record 25 (.imul) 1 26 := ⟨by decide +kernel, rfl⟩
theorem eX6_record_26 : zD cX6_record 26 (.iadd) 1 27 := ⟨by decide +kernel, rfl⟩
theorem eX6_record_27 : zD cX6_record 27 (.sipush 454) 3 30 := ⟨by decide +kernel, rfl⟩
theorem eX6_record_30 : zD cX6_record 30 (.iload_n 1) 1 31 := ⟨by decide +kernel, rfl⟩
theorem eX6_record_31 : zD cX6_record 31 (.imul) 1 32 := ⟨by decide +kernel, rfl⟩
theorem eX6_record_32 : zD cX6_record 32 (.invokevirtual 52) 3 35 := ⟨by decide +kernel, rfl⟩
theorem eX6_record_35 : zD cX6_record 35 (.iinc 1 1) 3 38 := ⟨by decide +kernel, rfl⟩
theorem eX6_record_38 : zJ cX6_record 38 (.goto (-27)) (-27) 11 3 41 := ⟨by decide +kernel, rfl, by decide⟩
theorem eX6_record_41 : zD cX6_record 41 (.aload_n 0) 1 42 := ⟨by decide +kernel, rfl⟩
theorem eX6_record_42 : zD cX6_record 42 (.dup) 1 43 := ⟨by decide +kernel, rfl⟩
theorem eX6_record_43 : zD cX6_record 43 (.getfield 49) 3 46 := ⟨by decide +kernel, rfl⟩
theorem eX6_record_46 : zD cX6_record 46 (.iconst 1) 1 47 := ⟨by decide +kernel, rfl⟩
theorem eX6_record_47 : zD cX6_record 47 (.isub) 1 48 := ⟨by decide +kernel, rfl⟩
theorem eX6_record_48 : zD cX6_record 48 (.putfield 49) 3 51 := ⟨by decide +kernel, rfl⟩
theorem eX6_record_51 : zD cX6_record 51 (.aload_n 0) 1 52 := ⟨by decide +kernel, rfl⟩
theorem eX6_record_52 : zD cX6_record 52 (.iconst 0) 1 53 := ⟨by decide +kernel, rfl⟩
theorem eX6_record_53 : zD cX6_record 53 (.sipush 454) 3 56 := ⟨by decide +kernel, rfl⟩
theorem eX6_record_56 : zD cX6_record 56 (.sipush 454) 3 59 := ⟨by decide +kernel, rfl⟩
theorem eX6_record_59 : zD cX6_record 59 (.aload_n 0) 1 60 := ⟨by decide +kernel, rfl⟩
theorem eX6_record_60 : zD cX6_record 60 (.getfield 49) 3 63 := ⟨by decide +kernel, rfl⟩
theorem eX6_record_63 : zD cX6_record 63 (.imul) 1 64 := ⟨by decide +kernel, rfl⟩
theorem eX6_record_64 : zD cX6_record 64 (.iadd) 1 65 := ⟨by decide +kernel, rfl⟩
theorem eX6_record_65 : zD cX6_record 65 (.invokevirtual 52) 3 68 := ⟨by decide +kernel, rfl⟩
theorem eX6_record_68 : zD cX6_record 68 (.aload_n 0) 1 69 := ⟨by decide +kernel, rfl⟩
theorem eX6_record_69 : zD cX6_record 69 (.dup) 1 70 := ⟨by decide +kernel, rfl⟩
theorem eX6_record_70 : zD cX6_record 70 (.getfield 49) 3 73 := ⟨by decide +kernel, rfl⟩
theorem eX6_record_73 : zD cX6_record 73 (.iconst 1) 1 74 := ⟨by decide +kernel, rfl⟩
theorem eX6_record_74 : zD cX6_record 74 (.iadd) 1 75 := ⟨by decide +kernel, rfl⟩
theorem eX6_record_75 : zD cX6_record 75 (.putfield 49) 3 78 := ⟨by decide +kernel, rfl⟩
theorem eX6_record_78 : zD cX6_record 78 (.return_) 1 79 := ⟨by decide +kernel, rfl⟩
theorem eX6_undo_0 : zD cX6_undo 0 (.aload_n 0) 1 1 := ⟨by decide +kernel, rfl⟩
theorem eX6_undo_1 : zD cX6_undo 1 (.getfield 49) 3 4 := ⟨by decide +kernel, rfl⟩
theorem eX6_undo_4 : zJ cX6_undo 4 (.ifCond .ne (6)) (6) 10 3 7 := ⟨by decide +kernel, rfl, by decide⟩
theorem eX6_undo_7 : zD cX6_undo 7 (.bipush (-6)) 2 9 := ⟨by decide +kernel, rfl⟩
theorem eX6_undo_9 : zD cX6_undo 9 (.ireturn) 1 10 := ⟨by decide +kernel, rfl⟩
theorem eX6_undo_10 : zD cX6_undo 10 (.aload_n 0) 1 11 := ⟨by decide +kernel, rfl⟩
theorem eX6_undo_11 : zD cX6_undo 11 (.dup) 1 12 := ⟨by decide +kernel, rfl⟩
theorem eX6_undo_12 : zD cX6_undo 12 (.getfield 49) 3 15 := ⟨by decide +kernel, rfl⟩
theorem eX6_undo_15 : zD cX6_undo 15 (.iconst 1) 1 16 := ⟨by decide +kernel, rfl⟩
theorem eX6_undo_16 : zD cX6_undo 16 (.isub) 1 17 := ⟨by decide +kernel, rfl⟩
theorem eX6_undo_17 : zD cX6_undo 17 (.putfield 49) 3 20 := ⟨by decide +kernel, rfl⟩
theorem eX6_undo_20 : zD cX6_undo 20 (.aload_n 0) 1 21 := ⟨by decide +kernel, rfl⟩
theorem eX6_undo_21 : zD cX6_undo 21 (.sipush 454) 3 24 := ⟨by decide +kernel, rfl⟩
theorem eX6_undo_24 : zD cX6_undo 24 (.sipush 454) 3 27 := ⟨by decide +kernel, rfl⟩
theorem eX6_undo_27 : zD cX6_undo 27 (.aload_n 0) 1 28 := ⟨by decide +kernel, rfl⟩
theorem eX6_undo_28 : zD cX6_undo 28 (.getfield 49) 3 31 := ⟨by decide +kernel, rfl⟩
theorem eX6_undo_31 : zD cX6_undo 31 (.imul) 1 32 := ⟨by decide +kernel, rfl⟩
theorem eX6_undo_32 : zD cX6_undo 32 (.iadd) 1 33 := ⟨by decide +kernel, rfl⟩
theorem eX6_undo_33 : zD cX6_undo 33 (.iconst 0) 1 34 := ⟨by decide +kernel, rfl⟩
theorem eX6_undo_34 : zD cX6_undo 34 (.invokevirtual 52) 3 37 := ⟨by decide +kernel, rfl⟩
theorem eX6_undo_37 : zD cX6_undo 37 (.aload_n 0) 1 38 := ⟨by decide +kernel, rfl⟩
theorem eX6_undo_38 : zD cX6_undo 38 (.getfield 49) 3 41 := ⟨by decide +kernel, rfl⟩
theorem eX6_undo_41 : zD cX6_undo 41 (.ireturn) 1 42 := ⟨by decide +kernel, rfl⟩
theorem eX6_save_0 : zD cX6_save 0 (.iload_n 1) 1 1 := ⟨by decide +kernel, rfl⟩
theorem eX6_save_1 : zD cX6_save 1 (.i2l) 1 2 := ⟨by decide +kernel, rfl⟩
theorem eX6_save_2 : zD cX6_save 2 (.lconst 0) 1 3 := ⟨by decide +kernel, rfl⟩
theorem eX6_save_3 : zD cX6_save 3 (.lconst 1) 1 4 := ⟨by decide +kernel, rfl⟩
theorem eX6_save_4 : zD cX6_save 4 (.invokestatic 56) 3 7 := ⟨by decide +kernel, rfl⟩
theorem eX6_save_7 : zJ cX6_save 7 (.ifCond .ne (5)) (5) 12 3 10 := ⟨by decide +kernel, rfl, by decide⟩
theorem eX6_save_10 : zD cX6_save 10 (.iconst (-1)) 1 11 := ⟨by decide +kernel, rfl⟩
theorem eX6_save_11 : zD cX6_save 11 (.ireturn) 1 12 := ⟨by decide +kernel, rfl⟩
theorem eX6_save_12 : zD cX6_save 12 (.aload_n 0) 1 13 := ⟨by decide +kernel, rfl⟩
theorem eX6_save_13 : zD cX6_save 13 (.iconst 0) 1 14 := ⟨by decide +kernel, rfl⟩
theorem eX6_save_14 : zD cX6_save 14 (.sipush 3178) 3 17 := ⟨by decide +kernel, rfl⟩
theorem eX6_save_17 : zD cX6_save 17 (.sipush 454) 3 20 := ⟨by decide +kernel, rfl⟩
theorem eX6_save_20 : zD cX6_save 20 (.iload_n 1) 1 21 := ⟨by decide +kernel, rfl⟩
theorem eX6_save_21 : zD cX6_save 21 (.imul) 1 22 := ⟨by decide +kernel, rfl⟩
theorem eX6_save_22 : zD cX6_save 22 (.iadd) 1 23 := ⟨by decide +kernel, rfl⟩
theorem eX6_save_23 : zD cX6_save 23 (.invokevirtual 52) 3 26 := ⟨by decide +kernel, rfl⟩
theorem eX6_save_26 : zD cX6_save 26 (.aload_n 0) 1 27 := ⟨by decide +kernel, rfl⟩
theorem eX6_save_27 : zD cX6_save 27 (.getfield 13) 3 30 := ⟨by decide +kernel, rfl⟩
theorem eX6_save_30 : zD cX6_save 30 (.iload_n 1) 1 31 := ⟨by decide +kernel, rfl⟩
theorem eX6_save_31 : zD cX6_save 31 (.iconst 1) 1 32 := ⟨by decide +kernel, rfl⟩
theorem eX6_save_32 : zD cX6_save 32 (.bastore) 1 33 := ⟨by decide +kernel, rfl⟩
theorem eX6_save_33 : zD cX6_save 33 (.aload_n 0) 1 34 := ⟨by decide +kernel, rfl⟩
theorem eX6_save_34 : zD cX6_save 34 (.bipush 8) 2 36 := ⟨by decide +kernel, rfl⟩
theorem eX6_save_36 : zD cX6_save 36 (.invokevirtual 60) 3 39 := ⟨by decide +kernel, rfl⟩
theorem eX6_save_39 : zD cX6_save 39 (.ireturn) 1 40 := ⟨by decide +kernel, rfl⟩
theorem eX6_restore_0 : zD cX6_restore 0 (.iload_n 1) 1 1 := ⟨by decide +kernel, rfl⟩
theorem eX6_restore_1 : zD cX6_restore 1 (.i2l) 1 2 := ⟨by decide +kernel, rfl⟩
theorem eX6_restore_2 : zD cX6_restore 2 (.lconst 0) 1 3 := ⟨by decide +kernel, rfl⟩
theorem eX6_restore_3 : zD cX6_restore 3 (.lconst 1) 1 4 := ⟨by decide +kernel, rfl⟩
theorem eX6_restore_4 : zD cX6_restore 4 (.invokestatic 56) 3 7 := ⟨by decide +kernel, rfl⟩
theorem eX6_restore_7 : zJ cX6_restore 7 (.ifCond .eq (12)) (12) 19 3 10 := ⟨by decide +kernel, rfl, by decide⟩
theorem eX6_restore_10 : zD cX6_restore 10 (.aload_n 0) 1 11 := ⟨by decide +kernel, rfl⟩
theorem eX6_restore_11 : zD cX6_restore 11 (.getfield 13) 3 14 := ⟨by decide +kernel, rfl⟩
theorem eX6_restore_14 : zD cX6_restore 14 (.iload_n 1) 1 15 := ⟨by decide +kernel, rfl⟩
theorem eX6_restore_15 : zD cX6_restore 15 (.baload) 1 16 := ⟨by decide +kernel, rfl⟩
theorem eX6_restore_16 : zJ cX6_restore 16 (.ifCond .ne (5)) (5) 21 3 19 := ⟨by decide +kernel, rfl, by decide⟩
theorem eX6_restore_19 : zD cX6_restore 19 (.iconst (-1)) 1 20 := ⟨by decide +kernel, rfl⟩
theorem eX6_restore_20 : zD cX6_restore 20 (.ireturn) 1 21 := ⟨by decide +kernel, rfl⟩
theorem eX6_restore_21 : zD cX6_restore 21 (.aload_n 0) 1 22 := ⟨by decide +kernel, rfl⟩
theorem eX6_restore_22 : zD cX6_restore 22 (.invokevirtual 64) 3 25 := ⟨by decide +kernel, rfl⟩
theorem eX6_restore_25 : zD cX6_restore 25 (.aload_n 0) 1 26 := ⟨by decide +kernel, rfl⟩
theorem eX6_restore_26 : zD cX6_restore 26 (.sipush 3178) 3 29 := ⟨by decide +kernel, rfl⟩
theorem eX6_restore_29 : zD cX6_restore 29 (.sipush 454) 3 32 := ⟨by decide +kernel, rfl⟩
theorem eX6_restore_32 : zD cX6_restore 32 (.iload_n 1) 1 33 := ⟨by decide +kernel, rfl⟩
theorem eX6_restore_33 : zD cX6_restore 33 (.imul) 1 34 := ⟨by decide +kernel, rfl⟩
theorem eX6_restore_34 : zD cX6_restore 34 (.iadd) 1 35 := ⟨by decide +kernel, rfl⟩
theorem eX6_restore_35 : zD cX6_restore 35 (.iconst 0) 1 36 := ⟨by decide +kernel, rfl⟩
theorem eX6_restore_36 : zD cX6_restore 36 (.invokevirtual 52) 3 39 := ⟨by decide +kernel, rfl⟩
theorem eX6_restore_39 : zD cX6_restore 39 (.aload_n 0) 1 40 := ⟨by decide +kernel, rfl⟩
theorem eX6_restore_40 : zD cX6_restore 40 (.bipush 8) 2 42 := ⟨by decide +kernel, rfl⟩
theorem eX6_restore_42 : zD cX6_restore 42 (.invokevirtual 60) 3 45 := ⟨by decide +kernel, rfl⟩
theorem eX6_restore_45 : zD cX6_restore 45 (.ireturn) 1 46 := ⟨by decide +kernel, rfl⟩
theorem eX6_refuse_0 : zD cX6_refuse 0 (.aload_n 0) 1 1 := ⟨by decide +kernel, rfl⟩
theorem eX6_refuse_1 : zD cX6_refuse 1 (.iload_n 1) 1 2 := ⟨by decide +kernel, rfl⟩
theorem eX6_refuse_2 : zD cX6_refuse 2 (.putfield 67) 3 5 := ⟨by decide +kernel, rfl⟩
theorem eX6_refuse_5 : zD cX6_refuse 5 (.bipush (-5)) 2 7 := ⟨by decide +kernel, rfl⟩
theorem eX6_refuse_7 : zD cX6_refuse 7 (.ireturn) 1 8 := ⟨by decide +kernel, rfl⟩
theorem eX6_isSetting_0 : zD cX6_isSetting 0 (.iload_n 0) 1 1 := ⟨by decide +kernel, rfl⟩
theorem eX6_isSetting_1 : zD cX6_isSetting 1 (.tableswitch 89 0 7 #[47, 89, 89, 89, 89, 59, 69, 79]) 47 48 := ⟨by decide +kernel, rfl⟩
theorem eX6_isSetting_48 : zD cX6_isSetting 48 (.iload_n 1) 1 49 := ⟨by decide +kernel, rfl⟩
theorem eX6_isSetting_49 : zD cX6_isSetting 49 (.i2l) 1 50 := ⟨by decide +kernel, rfl⟩
theorem eX6_isSetting_50 : zD cX6_isSetting 50 (.ldc2_w 70) 3 53 := ⟨by decide +kernel, rfl⟩
theorem eX6_isSetting_53 : zD cX6_isSetting 53 (.ldc2_w 72) 3 56 := ⟨by decide +kernel, rfl⟩
theorem eX6_isSetting_56 : zD cX6_isSetting 56 (.invokestatic 56) 3 59 := ⟨by decide +kernel, rfl⟩
theorem eX6_isSetting_59 : zD cX6_isSetting 59 (.ireturn) 1 60 := ⟨by decide +kernel, rfl⟩
theorem eX6_isSetting_60 : zD cX6_isSetting 60 (.iload_n 1) 1 61 := ⟨by decide +kernel, rfl⟩
theorem eX6_isSetting_61 : zD cX6_isSetting 61 (.i2l) 1 62 := ⟨by decide +kernel, rfl⟩
theorem eX6_isSetting_62 : zD cX6_isSetting 62 (.lconst 0) 1 63 := ⟨by decide +kernel, rfl⟩
theorem eX6_isSetting_63 : zD cX6_isSetting 63 (.ldc2_w 74) 3 66 := ⟨by decide +kernel, rfl⟩
theorem eX6_isSetting_66 : zD cX6_isSetting 66 (.invokestatic 56) 3 69 := ⟨by decide +kernel, rfl⟩
theorem eX6_isSetting_69 : zD cX6_isSetting 69 (.ireturn) 1 70 := ⟨by decide +kernel, rfl⟩
theorem eX6_isSetting_70 : zD cX6_isSetting 70 (.iload_n 1) 1 71 := ⟨by decide +kernel, rfl⟩
theorem eX6_isSetting_71 : zD cX6_isSetting 71 (.i2l) 1 72 := ⟨by decide +kernel, rfl⟩
theorem eX6_isSetting_72 : zD cX6_isSetting 72 (.lconst 0) 1 73 := ⟨by decide +kernel, rfl⟩
theorem eX6_isSetting_73 : zD cX6_isSetting 73 (.ldc2_w 41) 3 76 := ⟨by decide +kernel, rfl⟩
theorem eX6_isSetting_76 : zD cX6_isSetting 76 (.invokestatic 56) 3 79 := ⟨by decide +kernel, rfl⟩
theorem eX6_isSetting_79 : zD cX6_isSetting 79 (.ireturn) 1 80 := ⟨by decide +kernel, rfl⟩
theorem eX6_isSetting_80 : zD cX6_isSetting 80 (.iload_n 1) 1 81 := ⟨by decide +kernel, rfl⟩
theorem eX6_isSetting_81 : zD cX6_isSetting 81 (.i2l) 1 82 := ⟨by decide +kernel, rfl⟩
theorem eX6_isSetting_82 : zD cX6_isSetting 82 (.lconst 0) 1 83 := ⟨by decide +kernel, rfl⟩
theorem eX6_isSetting_83 : zD cX6_isSetting 83 (.ldc2_w 76) 3 86 := ⟨by decide +kernel, rfl⟩
theorem eX6_isSetting_86 : zD cX6_isSetting 86 (.invokestatic 56) 3 89 := ⟨by decide +kernel, rfl⟩
theorem eX6_isSetting_89 : zD cX6_isSetting 89 (.ireturn) 1 90 := ⟨by decide +kernel, rfl⟩
theorem eX6_isSetting_90 : zD cX6_isSetting 90 (.iload_n 0) 1 91 := ⟨by decide +kernel, rfl⟩
theorem eX6_isSetting_91 : zD cX6_isSetting 91 (.i2l) 1 92 := ⟨by decide +kernel, rfl⟩
theorem eX6_isSetting_92 : zD cX6_isSetting 92 (.lconst 1) 1 93 := ⟨by decide +kernel, rfl⟩
theorem eX6_isSetting_93 : zD cX6_isSetting 93 (.ldc2_w 78) 3 96 := ⟨by decide +kernel, rfl⟩
theorem eX6_isSetting_96 : zD cX6_isSetting 96 (.invokestatic 56) 3 99 := ⟨by decide +kernel, rfl⟩
theorem eX6_isSetting_99 : zJ cX6_isSetting 99 (.ifCond .eq (19)) (19) 118 3 102 := ⟨by decide +kernel, rfl, by decide⟩
theorem eX6_isSetting_102 : zD cX6_isSetting 102 (.iload_n 1) 1 103 := ⟨by decide +kernel, rfl⟩
theorem eX6_isSetting_103 : zD cX6_isSetting 103 (.i2l) 1 104 := ⟨by decide +kernel, rfl⟩
theorem eX6_isSetting_104 : zD cX6_isSetting 104 (.lconst 0) 1 105 := ⟨by decide +kernel, rfl⟩
theorem eX6_isSetting_105 : zD cX6_isSetting 105 (.ldc2_w 80) 3 108 := ⟨by decide +kernel, rfl⟩
theorem eX6_isSetting_108 : zD cX6_isSetting 108 (.invokestatic 56) 3 111 := ⟨by decide +kernel, rfl⟩
theorem eX6_isSetting_111 : zJ cX6_isSetting 111 (.ifCond .eq (7)) (7) 118 3 114 := ⟨by decide +kernel, rfl, by decide⟩
theorem eX6_isSetting_114 : zD cX6_isSetting 114 (.iconst 1) 1 115 := ⟨by decide +kernel, rfl⟩
theorem eX6_isSetting_115 : zJ cX6_isSetting 115 (.goto (4)) (4) 119 3 118 := ⟨by decide +kernel, rfl, by decide⟩
theorem eX6_isSetting_118 : zD cX6_isSetting 118 (.iconst 0) 1 119 := ⟨by decide +kernel, rfl⟩
theorem eX6_isSetting_119 : zD cX6_isSetting 119 (.ireturn) 1 120 := ⟨by decide +kernel, rfl⟩
theorem eX6_set_0 : zD cX6_set 0 (.iload_n 1) 1 1 := ⟨by decide +kernel, rfl⟩
theorem eX6_set_1 : zD cX6_set 1 (.iload_n 2) 1 2 := ⟨by decide +kernel, rfl⟩
theorem eX6_set_2 : zD cX6_set 2 (.invokestatic 82) 3 5 := ⟨by decide +kernel, rfl⟩
theorem eX6_set_5 : zJ cX6_set 5 (.ifCond .ne (6)) (6) 11 3 8 := ⟨by decide +kernel, rfl, by decide⟩
theorem eX6_set_8 : zD cX6_set 8 (.bipush (-2)) 2 10 := ⟨by decide +kernel, rfl⟩
theorem eX6_set_10 : zD cX6_set 10 (.ireturn) 1 11 := ⟨by decide +kernel, rfl⟩
theorem eX6_set_11 : zD cX6_set 11 (.aload_n 0) 1 12 := ⟨by decide +kernel, rfl⟩
theorem eX6_set_12 : zD cX6_set 12 (.invokevirtual 64) 3 15 := ⟨by decide +kernel, rfl⟩
theorem eX6_set_15 : zD cX6_set 15 (.aload_n 0) 1 16 := ⟨by decide +kernel, rfl⟩
theorem eX6_set_16 : zD cX6_set 16 (.iload_n 1) 1 17 := ⟨by decide +kernel, rfl⟩
theorem eX6_set_17 : zD cX6_set 17 (.invokevirtual 60) 3 20 := ⟨by decide +kernel, rfl⟩
theorem eX6_set_20 : zD cX6_set 20 (.istore_n 3) 1 21 := ⟨by decide +kernel, rfl⟩
theorem eX6_set_21 : zD cX6_set 21 (.aload_n 0) 1 22 := ⟨by decide +kernel, rfl⟩
theorem eX6_set_22 : zD cX6_set 22 (.getfield 7) 3 25 := ⟨by decide +kernel, rfl⟩
theorem eX6_set_25 : zD cX6_set 25 (.iload_n 1) 1 26 := ⟨by decide +kernel, rfl⟩
theorem eX6_set_26 : zD cX6_set 26 (.iload_n 2) 1 27 := ⟨by decide +kernel, rfl⟩
theorem eX6_set_27 : zD cX6_set 27 (.i2l) 1 28 := ⟨by decide +kernel, rfl⟩
theorem eX6_set_28 : zD cX6_set 28 (.lastore) 1 29 := ⟨by decide +kernel, rfl⟩
theorem eX6_set_29 : zD cX6_set 29 (.iload_n 3) 1 30 := ⟨by decide +kernel, rfl⟩
theorem eX6_set_30 : zD cX6_set 30 (.ireturn) 1 31 := ⟨by decide +kernel, rfl⟩
theorem eX6_of_0 : zD cX6_of 0 (.bipush 14) 2 2 := ⟨by decide +kernel, rfl⟩
theorem eX6_of_2 : zD cX6_of 2 (.bipush 15) 2 4 := ⟨by decide +kernel, rfl⟩
theorem eX6_of_4 : zD cX6_of 4 (.iload_n 0) 1 5 := ⟨by decide +kernel, rfl⟩
theorem eX6_of_5 : zD cX6_of 5 (.imul) 1 6 := ⟨by decide +kernel, rfl⟩
theorem eX6_of_6 : zD cX6_of 6 (.iadd) 1 7 := ⟨by decide +kernel, rfl⟩
theorem eX6_of_7 : zD cX6_of 7 (.iload_n 1) 1 8 := ⟨by decide +kernel, rfl⟩
theorem eX6_of_8 : zD cX6_of 8 (.iadd) 1 9 := ⟨by decide +kernel, rfl⟩
theorem eX6_of_9 : zD cX6_of 9 (.ireturn) 1 10 := ⟨by decide +kernel, rfl⟩
theorem eX6_accountOf_0 : zD cX6_accountOf 0 (.bipush 14) 2 2 := ⟨by decide +kernel, rfl⟩
theorem eX6_accountOf_2 : zD cX6_accountOf 2 (.bipush 15) 2 4 := ⟨by decide +kernel, rfl⟩
theorem eX6_accountOf_4 : zD cX6_accountOf 4 (.iload_n 0) 1 5 := ⟨by decide +kernel, rfl⟩
theorem eX6_accountOf_5 : zD cX6_accountOf 5 (.imul) 1 6 := ⟨by decide +kernel, rfl⟩
theorem eX6_accountOf_6 : zD cX6_accountOf 6 (.iadd) 1 7 := ⟨by decide +kernel, rfl⟩
theorem eX6_accountOf_7 : zD cX6_accountOf 7 (.bipush 7) 2 9 := ⟨by decide +kernel, rfl⟩
theorem eX6_accountOf_9 : zD cX6_accountOf 9 (.iadd) 1 10 := ⟨by decide +kernel, rfl⟩
theorem eX6_accountOf_10 : zD cX6_accountOf 10 (.iload_n 1) 1 11 := ⟨by decide +kernel, rfl⟩
theorem eX6_accountOf_11 : zD cX6_accountOf 11 (.iadd) 1 12 := ⟨by decide +kernel, rfl⟩
theorem eX6_accountOf_12 : zD cX6_accountOf 12 (.ireturn) 1 13 := ⟨by decide +kernel, rfl⟩
theorem eX6_isService_0 : zD cX6_isService 0 (.iload_n 1) 1 1 := ⟨by decide +kernel, rfl⟩
theorem eX6_isService_1 : zD cX6_isService 1 (.i2l) 1 2 := ⟨by decide +kernel, rfl⟩
theorem eX6_isService_2 : zD cX6_isService 2 (.lconst 0) 1 3 := ⟨by decide +kernel, rfl⟩
theorem eX6_isService_3 : zD cX6_isService 3 (.aload_n 0) 1 4 := ⟨by decide +kernel, rfl⟩
theorem eX6_isService_4 : zD cX6_isService 4 (.getfield 7) 3 7 := ⟨by decide +kernel, rfl⟩
theorem eX6_isService_7 : zD cX6_isService 7 (.bipush 11) 2 9 := ⟨by decide +kernel, rfl⟩
theorem eX6_isService_9 : zD cX6_isService 9 (.laload) 1 10 := ⟨by decide +kernel, rfl⟩
theorem eX6_isService_10 : zD cX6_isService 10 (.lconst 1) 1 11 := ⟨by decide +kernel, rfl⟩
theorem eX6_isService_11 : zD cX6_isService 11 (.lsub) 1 12 := ⟨by decide +kernel, rfl⟩
theorem eX6_isService_12 : zD cX6_isService 12 (.invokestatic 56) 3 15 := ⟨by decide +kernel, rfl⟩
theorem eX6_isService_15 : zD cX6_isService 15 (.ireturn) 1 16 := ⟨by decide +kernel, rfl⟩
theorem eX6_left_0 : zD cX6_left 0 (.aload_n 0) 1 1 := ⟨by decide +kernel, rfl⟩
theorem eX6_left_1 : zD cX6_left 1 (.getfield 7) 3 4 := ⟨by decide +kernel, rfl⟩
theorem eX6_left_4 : zD cX6_left 4 (.iload_n 1) 1 5 := ⟨by decide +kernel, rfl⟩
theorem eX6_left_5 : zD cX6_left 5 (.iconst 1) 1 6 := ⟨by decide +kernel, rfl⟩
theorem eX6_left_6 : zD cX6_left 6 (.invokestatic 86) 3 9 := ⟨by decide +kernel, rfl⟩
theorem eX6_left_9 : zD cX6_left 9 (.laload) 1 10 := ⟨by decide +kernel, rfl⟩
theorem eX6_left_10 : zD cX6_left 10 (.lreturn) 1 11 := ⟨by decide +kernel, rfl⟩
theorem eX6_isFrozen_0 : zD cX6_isFrozen 0 (.aload_n 0) 1 1 := ⟨by decide +kernel, rfl⟩
theorem eX6_isFrozen_1 : zD cX6_isFrozen 1 (.getfield 7) 3 4 := ⟨by decide +kernel, rfl⟩
theorem eX6_isFrozen_4 : zD cX6_isFrozen 4 (.iload_n 1) 1 5 := ⟨by decide +kernel, rfl⟩
theorem eX6_isFrozen_5 : zD cX6_isFrozen 5 (.iconst 3) 1 6 := ⟨by decide +kernel, rfl⟩
theorem eX6_isFrozen_6 : zD cX6_isFrozen 6 (.invokestatic 86) 3 9 := ⟨by decide +kernel, rfl⟩
theorem eX6_isFrozen_9 : zD cX6_isFrozen 9 (.laload) 1 10 := ⟨by decide +kernel, rfl⟩
theorem eX6_isFrozen_10 : zD cX6_isFrozen 10 (.lconst 1) 1 11 := ⟨by decide +kernel, rfl⟩
theorem eX6_isFrozen_11 : zD cX6_isFrozen 11 (.lcmp) 1 12 := ⟨by decide +kernel, rfl⟩
theorem eX6_isFrozen_12 : zJ cX6_isFrozen 12 (.ifCond .ne (7)) (7) 19 3 15 := ⟨by decide +kernel, rfl, by decide⟩
theorem eX6_isFrozen_15 : zD cX6_isFrozen 15 (.iconst 1) 1 16 := ⟨by decide +kernel, rfl⟩
theorem eX6_isFrozen_16 : zJ cX6_isFrozen 16 (.goto (4)) (4) 20 3 19 := ⟨by decide +kernel, rfl, by decide⟩
theorem eX6_isFrozen_19 : zD cX6_isFrozen 19 (.iconst 0) 1 20 := ⟨by decide +kernel, rfl⟩
theorem eX6_isFrozen_20 : zD cX6_isFrozen 20 (.ireturn) 1 21 := ⟨by decide +kernel, rfl⟩
theorem eX6_thawing_0 : zD cX6_thawing 0 (.aload_n 0) 1 1 := ⟨by decide +kernel, rfl⟩
theorem eX6_thawing_1 : zD cX6_thawing 1 (.getfield 7) 3 4 := ⟨by decide +kernel, rfl⟩
theorem eX6_thawing_4 : zD cX6_thawing 4 (.iload_n 1) 1 5 := ⟨by decide +kernel, rfl⟩
theorem eX6_thawing_5 : zD cX6_thawing 5 (.iconst 0) 1 6 := ⟨by decide +kernel, rfl⟩
theorem eX6_thawing_6 : zD cX6_thawing 6 (.invokestatic 86) 3 9 := ⟨by decide +kernel, rfl⟩
theorem eX6_thawing_9 : zD cX6_thawing 9 (.laload) 1 10 := ⟨by decide +kernel, rfl⟩
theorem eX6_thawing_10 : zD cX6_thawing 10 (.aload_n 0) 1 11 := ⟨by decide +kernel, rfl⟩
theorem eX6_thawing_11 : zD cX6_thawing 11 (.getfield 7) 3 14 := ⟨by decide +kernel, rfl⟩
theorem eX6_thawing_14 : zD cX6_thawing 14 (.iconst 3) 1 15 := ⟨by decide +kernel, rfl⟩
theorem eX6_thawing_15 : zD cX6_thawing 15 (.laload) 1 16 := ⟨by decide +kernel, rfl⟩
theorem eX6_thawing_16 : zD cX6_thawing 16 (.lmul) 1 17 := ⟨by decide +kernel, rfl⟩
theorem eX6_thawing_17 : zD cX6_thawing 17 (.ldc2_w 80) 3 20 := ⟨by decide +kernel, rfl⟩
theorem eX6_thawing_20 : zD cX6_thawing 20 (.ldiv) 1 21 := ⟨by decide +kernel, rfl⟩
theorem eX6_thawing_21 : zD cX6_thawing 21 (.lreturn) 1 22 := ⟨by decide +kernel, rfl⟩
theorem eX6_change_0 : zD cX6_change 0 (.aload_n 0) 1 1 := ⟨by decide +kernel, rfl⟩
theorem eX6_change_1 : zD cX6_change 1 (.getfield 7) 3 4 := ⟨by decide +kernel, rfl⟩
theorem eX6_change_4 : zD cX6_change 4 (.iload_n 1) 1 5 := ⟨by decide +kernel, rfl⟩
theorem eX6_change_5 : zD cX6_change 5 (.iconst 1) 1 6 := ⟨by decide +kernel, rfl⟩
theorem eX6_change_6 : zD cX6_change 6 (.invokestatic 86) 3 9 := ⟨by decide +kernel, rfl⟩
theorem eX6_change_9 : zD cX6_change 9 (.dup2) 1 10 := ⟨by decide +kernel, rfl⟩
theorem eX6_change_10 : zD cX6_change 10 (.laload) 1 11 := ⟨by decide +kernel, rfl⟩
theorem eX6_change_11 : zD cX6_change 11 (.lload_n 2) 1 12 := ⟨by decide +kernel, rfl⟩
theorem eX6_change_12 : zD cX6_change 12 (.ladd) 1 13 := ⟨by decide +kernel, rfl⟩
theorem eX6_change_13 : zD cX6_change 13 (.lastore) 1 14 := ⟨by decide +kernel, rfl⟩
theorem eX6_change_14 : zD cX6_change 14 (.aload_n 0) 1 15 := ⟨by decide +kernel, rfl⟩
theorem eX6_change_15 : zD cX6_change 15 (.iload_n 1) 1 16 := ⟨by decide +kernel, rfl⟩
theorem eX6_change_16 : zD cX6_change 16 (.invokevirtual 90) 3 19 := ⟨by decide +kernel, rfl⟩
theorem eX6_change_19 : zD cX6_change 19 (.lconst 0) 1 20 := ⟨by decide +kernel, rfl⟩
theorem eX6_change_20 : zD cX6_change 20 (.lcmp) 1 21 := ⟨by decide +kernel, rfl⟩
theorem eX6_change_21 : zJ cX6_change 21 (.ifCond .gt (44)) (44) 65 3 24 := ⟨by decide +kernel, rfl, by decide⟩
theorem eX6_change_24 : zD cX6_change 24 (.aload_n 0) 1 25 := ⟨by decide +kernel, rfl⟩
theorem eX6_change_25 : zD cX6_change 25 (.getfield 7) 3 28 := ⟨by decide +kernel, rfl⟩
theorem eX6_change_28 : zD cX6_change 28 (.iload_n 1) 1 29 := ⟨by decide +kernel, rfl⟩
theorem eX6_change_29 : zD cX6_change 29 (.bipush 6) 2 31 := ⟨by decide +kernel, rfl⟩
theorem eX6_change_31 : zD cX6_change 31 (.invokestatic 86) 3 34 := ⟨by decide +kernel, rfl⟩
theorem eX6_change_34 : zD cX6_change 34 (.dup2) 1 35 := ⟨by decide +kernel, rfl⟩
theorem eX6_change_35 : zD cX6_change 35 (.laload) 1 36 := ⟨by decide +kernel, rfl⟩
theorem eX6_change_36 : zD cX6_change 36 (.aload_n 0) 1 37 := ⟨by decide +kernel, rfl⟩
theorem eX6_change_37 : zD cX6_change 37 (.iload_n 1) 1 38 := ⟨by decide +kernel, rfl⟩
theorem eX6_change_38 : zD cX6_change 38 (.invokevirtual 94) 3 41 := ⟨by decide +kernel, rfl⟩
theorem eX6_change_41 : zJ cX6_change 41 (.ifCond .eq (7)) (7) 48 3 44 := ⟨by decide +kernel, rfl, by decide⟩
theorem eX6_change_44 : zD cX6_change 44 (.lconst 0) 1 45 := ⟨by decide +kernel, rfl⟩
theorem eX6_change_45 : zJ cX6_change 45 (.goto (4)) (4) 49 3 48 := ⟨by decide +kernel, rfl, by decide⟩
theorem eX6_change_48 : zD cX6_change 48 (.lconst 1) 1 49 := ⟨by decide +kernel, rfl⟩
theorem eX6_change_49 : zD cX6_change 49 (.ladd) 1 50 := ⟨by decide +kernel, rfl⟩
theorem eX6_change_50 : zD cX6_change 50 (.lastore) 1 51 := ⟨by decide +kernel, rfl⟩
theorem eX6_change_51 : zD cX6_change 51 (.aload_n 0) 1 52 := ⟨by decide +kernel, rfl⟩
theorem eX6_change_52 : zD cX6_change 52 (.getfield 7) 3 55 := ⟨by decide +kernel, rfl⟩
theorem eX6_change_55 : zD cX6_change 55 (.iload_n 1) 1 56 := ⟨by decide +kernel, rfl⟩
theorem eX6_change_56 : zD cX6_change 56 (.iconst 3) 1 57 := ⟨by decide +kernel, rfl⟩
theorem eX6_change_57 : zD cX6_change 57 (.invokestatic 86) 3 60 := ⟨by decide +kernel, rfl⟩
theorem eX6_change_60 : zD cX6_change 60 (.lconst 1) 1 61 := ⟨by decide +kernel, rfl⟩
theorem eX6_change_61 : zD cX6_change 61 (.lastore) 1 62 := ⟨by decide +kernel, rfl⟩
theorem eX6_change_62 : zJ cX6_change 62 (.goto (28)) (28) 90 3 65 := ⟨by decide +kernel, rfl, by decide⟩
theorem eX6_change_65 : zD cX6_change 65 (.aload_n 0) 1 66 := ⟨by decide +kernel, rfl⟩
theorem eX6_change_66 : zD cX6_change 66 (.iload_n 1) 1 67 := ⟨by decide +kernel, rfl⟩
theorem eX6_change_67 : zD cX6_change 67 (.invokevirtual 90) 3 70 := ⟨by decide +kernel, rfl⟩
theorem eX6_change_70 : zD cX6_change 70 (.aload_n 0) 1 71 := ⟨by decide +kernel, rfl⟩
theorem eX6_change_71 : zD cX6_change 71 (.iload_n 1) 1 72 := ⟨by decide +kernel, rfl⟩
theorem eX6_change_72 : zD cX6_change 72 (.invokevirtual 98) 3 75 := ⟨by decide +kernel, rfl⟩
theorem eX6_change_75 : zD cX6_change 75 (.lcmp) 1 76 := ⟨by decide +kernel, rfl⟩
theorem eX6_change_76 : zJ cX6_change 76 (.ifCond .le (14)) (14) 90 3 79 := ⟨by decide +kernel, rfl, by decide⟩
theorem eX6_change_79 : zD cX6_change 79 (.aload_n 0) 1 80 := ⟨by decide +kernel, rfl⟩
theorem eX6_change_80 : zD cX6_change 80 (.getfield 7) 3 83 := ⟨by decide +kernel, rfl⟩
theorem eX6_change_83 : zD cX6_change 83 (.iload_n 1) 1 84 := ⟨by decide +kernel, rfl⟩
theorem eX6_change_84 : zD cX6_change 84 (.iconst 3) 1 85 := ⟨by decide +kernel, rfl⟩
theorem eX6_change_85 : zD cX6_change 85 (.invokestatic 86) 3 88 := ⟨by decide +kernel, rfl⟩
theorem eX6_change_88 : zD cX6_change 88 (.lconst 0) 1 89 := ⟨by decide +kernel, rfl⟩
theorem eX6_change_89 : zD cX6_change 89 (.lastore) 1 90 := ⟨by decide +kernel, rfl⟩
theorem eX6_change_90 : zD cX6_change 90 (.return_) 1 91 := ⟨by decide +kernel, rfl⟩
theorem eX6_service_0 : zD cX6_service 0 (.iload_n 1) 1 1 := ⟨by decide +kernel, rfl⟩
theorem eX6_service_1 : zD cX6_service 1 (.i2l) 1 2 := ⟨by decide +kernel, rfl⟩
theorem eX6_service_2 : zD cX6_service 2 (.ldc2_w 41) 3 5 := ⟨by decide +kernel, rfl⟩
theorem eX6_service_5 : zD cX6_service 5 (.ldc2_w 101) 3 8 := ⟨by decide +kernel, rfl⟩
theorem eX6_service_8 : zD cX6_service 8 (.invokestatic 56) 3 11 := ⟨by decide +kernel, rfl⟩
theorem eX6_service_11 : zJ cX6_service 11 (.ifCond .ne (6)) (6) 17 3 14 := ⟨by decide +kernel, rfl, by decide⟩
theorem eX6_service_14 : zD cX6_service 14 (.bipush (-2)) 2 16 := ⟨by decide +kernel, rfl⟩
theorem eX6_service_16 : zD cX6_service 16 (.ireturn) 1 17 := ⟨by decide +kernel, rfl⟩
theorem eX6_service_17 : zD cX6_service 17 (.aload_n 0) 1 18 := ⟨by decide +kernel, rfl⟩
theorem eX6_service_18 : zD cX6_service 18 (.getfield 7) 3 21 := ⟨by decide +kernel, rfl⟩
theorem eX6_service_21 : zD cX6_service 21 (.bipush 11) 2 23 := ⟨by decide +kernel, rfl⟩
theorem eX6_service_23 : zD cX6_service 23 (.laload) 1 24 := ⟨by decide +kernel, rfl⟩
theorem eX6_service_24 : zD cX6_service 24 (.ldc2_w 103) 3 27 := ⟨by decide +kernel, rfl⟩
theorem eX6_service_27 : zD cX6_service 27 (.lcmp) 1 28 := ⟨by decide +kernel, rfl⟩
theorem eX6_service_28 : zJ cX6_service 28 (.ifCond .ne (6)) (6) 34 3 31 := ⟨by decide +kernel, rfl, by decide⟩
theorem eX6_service_31 : zD cX6_service 31 (.bipush (-4)) 2 33 := ⟨by decide +kernel, rfl⟩
theorem eX6_service_33 : zD cX6_service 33 (.ireturn) 1 34 := ⟨by decide +kernel, rfl⟩
theorem eX6_service_34 : zD cX6_service 34 (.aload_n 0) 1 35 := ⟨by decide +kernel, rfl⟩
theorem eX6_service_35 : zD cX6_service 35 (.invokevirtual 64) 3 38 := ⟨by decide +kernel, rfl⟩
theorem eX6_service_38 : zD cX6_service 38 (.aload_n 0) 1 39 := ⟨by decide +kernel, rfl⟩
theorem eX6_service_39 : zD cX6_service 39 (.bipush 11) 2 41 := ⟨by decide +kernel, rfl⟩
theorem eX6_service_41 : zD cX6_service 41 (.invokevirtual 60) 3 44 := ⟨by decide +kernel, rfl⟩
theorem eX6_service_44 : zD cX6_service 44 (.istore_n 2) 1 45 := ⟨by decide +kernel, rfl⟩
theorem eX6_service_45 : zD cX6_service 45 (.aload_n 0) 1 46 := ⟨by decide +kernel, rfl⟩
theorem eX6_service_46 : zD cX6_service 46 (.getfield 7) 3 49 := ⟨by decide +kernel, rfl⟩
theorem eX6_service_49 : zD cX6_service 49 (.iload_n 2) 1 50 := ⟨by decide +kernel, rfl⟩
theorem eX6_service_50 : zD cX6_service 50 (.iconst 0) 1 51 := ⟨by decide +kernel, rfl⟩
theorem eX6_service_51 : zD cX6_service 51 (.invokestatic 86) 3 54 := ⟨by decide +kernel, rfl⟩
theorem eX6_service_54 : zD cX6_service 54 (.iload_n 1) 1 55 := ⟨by decide +kernel, rfl⟩
theorem eX6_service_55 : zD cX6_service 55 (.i2l) 1 56 := ⟨by decide +kernel, rfl⟩
theorem eX6_service_56 : zD cX6_service 56 (.lastore) 1 57 := ⟨by decide +kernel, rfl⟩
theorem eX6_service_57 : zD cX6_service 57 (.aload_n 0) 1 58 := ⟨by decide +kernel, rfl⟩
theorem eX6_service_58 : zD cX6_service 58 (.getfield 7) 3 61 := ⟨by decide +kernel, rfl⟩
theorem eX6_service_61 : zD cX6_service 61 (.iload_n 2) 1 62 := ⟨by decide +kernel, rfl⟩
theorem eX6_service_62 : zD cX6_service 62 (.iconst 1) 1 63 := ⟨by decide +kernel, rfl⟩
theorem eX6_service_63 : zD cX6_service 63 (.invokestatic 86) 3 66 := ⟨by decide +kernel, rfl⟩
theorem eX6_service_66 : zD cX6_service 66 (.iload_n 1) 1 67 := ⟨by decide +kernel, rfl⟩
theorem eX6_service_67 : zD cX6_service 67 (.i2l) 1 68 := ⟨by decide +kernel, rfl⟩
theorem eX6_service_68 : zD cX6_service 68 (.lastore) 1 69 := ⟨by decide +kernel, rfl⟩
theorem eX6_service_69 : zD cX6_service 69 (.aload_n 0) 1 70 := ⟨by decide +kernel, rfl⟩
theorem eX6_service_70 : zD cX6_service 70 (.getfield 7) 3 73 := ⟨by decide +kernel, rfl⟩
theorem eX6_service_73 : zD cX6_service 73 (.iload_n 2) 1 74 := ⟨by decide +kernel, rfl⟩
theorem eX6_service_74 : zD cX6_service 74 (.iconst 2) 1 75 := ⟨by decide +kernel, rfl⟩
theorem eX6_service_75 : zD cX6_service 75 (.invokestatic 86) 3 78 := ⟨by decide +kernel, rfl⟩
theorem eX6_service_78 : zD cX6_service 78 (.aload_n 0) 1 79 := ⟨by decide +kernel, rfl⟩
theorem eX6_service_79 : zD cX6_service 79 (.getfield 7) 3 82 := ⟨by decide +kernel, rfl⟩
theorem eX6_service_82 : zD cX6_service 82 (.bipush 7) 2 84 := ⟨by decide +kernel, rfl⟩
theorem eX6_service_84 : zD cX6_service 84 (.laload) 1 85 := ⟨by decide +kernel, rfl⟩
theorem eX6_service_85 : zD cX6_service 85 (.lastore) 1 86 := ⟨by decide +kernel, rfl⟩
theorem eX6_service_86 : zD cX6_service 86 (.aload_n 0) 1 87 := ⟨by decide +kernel, rfl⟩
theorem eX6_service_87 : zD cX6_service 87 (.getfield 7) 3 90 := ⟨by decide +kernel, rfl⟩
theorem eX6_service_90 : zD cX6_service 90 (.iload_n 2) 1 91 := ⟨by decide +kernel, rfl⟩
theorem eX6_service_91 : zD cX6_service 91 (.iconst 0) 1 92 := ⟨by decide +kernel, rfl⟩
theorem eX6_service_92 : zD cX6_service 92 (.invokestatic 105) 3 95 := ⟨by decide +kernel, rfl⟩
theorem eX6_service_95 : zD cX6_service 95 (.iload_n 1) 1 96 := ⟨by decide +kernel, rfl⟩
theorem eX6_service_96 : zD cX6_service 96 (.i2l) 1 97 := ⟨by decide +kernel, rfl⟩
theorem eX6_service_97 : zD cX6_service 97 (.lastore) 1 98 := ⟨by decide +kernel, rfl⟩
theorem eX6_service_98 : zD cX6_service 98 (.aload_n 0) 1 99 := ⟨by decide +kernel, rfl⟩
theorem eX6_service_99 : zD cX6_service 99 (.getfield 7) 3 102 := ⟨by decide +kernel, rfl⟩
theorem eX6_service_102 : zD cX6_service 102 (.bipush 11) 2 104 := ⟨by decide +kernel, rfl⟩
theorem eX6_service_104 : zD cX6_service 104 (.dup2) 1 105 := ⟨by decide +kernel, rfl⟩
theorem eX6_service_105 : zD cX6_service 105 (.laload) 1 106 := ⟨by decide +kernel, rfl⟩
theorem eX6_service_106 : zD cX6_service 106 (.lconst 1) 1 107 := ⟨by decide +kernel, rfl⟩
theorem eX6_service_107 : zD cX6_service 107 (.ladd) 1 108 := ⟨by decide +kernel, rfl⟩
theorem eX6_service_108 : zD cX6_service 108 (.lastore) 1 109 := ⟨by decide +kernel, rfl⟩
theorem eX6_service_109 : zD cX6_service 109 (.iload_n 2) 1 110 := ⟨by decide +kernel, rfl⟩
theorem eX6_service_110 : zD cX6_service 110 (.ireturn) 1 111 := ⟨by decide +kernel, rfl⟩
theorem eX6_budget_0 : zD cX6_budget 0 (.aload_n 0) 1 1 := ⟨by decide +kernel, rfl⟩
theorem eX6_budget_1 : zD cX6_budget 1 (.iload_n 1) 1 2 := ⟨by decide +kernel, rfl⟩
theorem eX6_budget_2 : zD cX6_budget 2 (.invokevirtual 108) 3 5 := ⟨by decide +kernel, rfl⟩
theorem eX6_budget_5 : zJ cX6_budget 5 (.ifCond .ne (5)) (5) 10 3 8 := ⟨by decide +kernel, rfl, by decide⟩
theorem eX6_budget_8 : zD cX6_budget 8 (.iconst (-1)) 1 9 := ⟨by decide +kernel, rfl⟩
theorem eX6_budget_9 : zD cX6_budget 9 (.ireturn) 1 10 := ⟨by decide +kernel, rfl⟩
theorem eX6_budget_10 : zD cX6_budget 10 (.iload_n 2) 1 11 := ⟨by decide +kernel, rfl⟩
theorem eX6_budget_11 : zD cX6_budget 11 (.i2l) 1 12 := ⟨by decide +kernel, rfl⟩
theorem eX6_budget_12 : zD cX6_budget 12 (.ldc2_w 41) 3 15 := ⟨by decide +kernel, rfl⟩
theorem eX6_budget_15 : zD cX6_budget 15 (.ldc2_w 101) 3 18 := ⟨by decide +kernel, rfl⟩
theorem eX6_budget_18 : zD cX6_budget 18 (.invokestatic 56) 3 21 := ⟨by decide +kernel, rfl⟩
theorem eX6_budget_21 : zJ cX6_budget 21 (.ifCond .ne (6)) (6) 27 3 24 := ⟨by decide +kernel, rfl, by decide⟩
theorem eX6_budget_24 : zD cX6_budget 24 (.bipush (-2)) 2 26 := ⟨by decide +kernel, rfl⟩
theorem eX6_budget_26 : zD cX6_budget 26 (.ireturn) 1 27 := ⟨by decide +kernel, rfl⟩
theorem eX6_budget_27 : zD cX6_budget 27 (.aload_n 0) 1 28 := ⟨by decide +kernel, rfl⟩
theorem eX6_budget_28 : zD cX6_budget 28 (.invokevirtual 64) 3 31 := ⟨by decide +kernel, rfl⟩
theorem eX6_budget_31 : zD cX6_budget 31 (.aload_n 0) 1 32 := ⟨by decide +kernel, rfl⟩
theorem eX6_budget_32 : zD cX6_budget 32 (.iload_n 1) 1 33 := ⟨by decide +kernel, rfl⟩
theorem eX6_budget_33 : zD cX6_budget 33 (.iconst 0) 1 34 := ⟨by decide +kernel, rfl⟩
theorem eX6_budget_34 : zD cX6_budget 34 (.invokestatic 86) 3 37 := ⟨by decide +kernel, rfl⟩
theorem eX6_budget_37 : zD cX6_budget 37 (.invokevirtual 60) 3 40 := ⟨by decide +kernel, rfl⟩
theorem eX6_budget_40 : zD cX6_budget 40 (.istore_n 3) 1 41 := ⟨by decide +kernel, rfl⟩
theorem eX6_budget_41 : zD cX6_budget 41 (.aload_n 0) 1 42 := ⟨by decide +kernel, rfl⟩
theorem eX6_budget_42 : zD cX6_budget 42 (.getfield 7) 3 45 := ⟨by decide +kernel, rfl⟩
theorem eX6_budget_45 : zD cX6_budget 45 (.iload_n 1) 1 46 := ⟨by decide +kernel, rfl⟩
theorem eX6_budget_46 : zD cX6_budget 46 (.iconst 0) 1 47 := ⟨by decide +kernel, rfl⟩
theorem eX6_budget_47 : zD cX6_budget 47 (.invokestatic 86) 3 50 := ⟨by decide +kernel, rfl⟩
theorem eX6_budget_50 : zD cX6_budget 50 (.iload_n 2) 1 51 := ⟨by decide +kernel, rfl⟩
theorem eX6_budget_51 : zD cX6_budget 51 (.i2l) 1 52 := ⟨by decide +kernel, rfl⟩
theorem eX6_budget_52 : zD cX6_budget 52 (.lastore) 1 53 := ⟨by decide +kernel, rfl⟩
theorem eX6_budget_53 : zD cX6_budget 53 (.iload_n 3) 1 54 := ⟨by decide +kernel, rfl⟩
theorem eX6_budget_54 : zD cX6_budget 54 (.ireturn) 1 55 := ⟨by decide +kernel, rfl⟩
theorem eX6_doOutage_0 : zD cX6_doOutage 0 (.iload_n 2) 1 1 := ⟨by decide +kernel, rfl⟩
theorem eX6_doOutage_1 : zD cX6_doOutage 1 (.iload_n 3) 1 2 := ⟨by decide +kernel, rfl⟩
theorem eX6_doOutage_2 : zD cX6_doOutage 2 (.imul) 1 3 := ⟨by decide +kernel, rfl⟩
theorem eX6_doOutage_3 : zD cX6_doOutage 3 (.bipush 99) 2 5 := ⟨by decide +kernel, rfl⟩
theorem eX6_doOutage_5 : zD cX6_doOutage 5 (.iadd) 1 6 := ⟨by decide +kernel, rfl⟩
theorem eX6_doOutage_6 : zD cX6_doOutage 6 (.bipush 100) 2 8 := ⟨by decide +kernel, rfl⟩
theorem eX6_doOutage_8 : zD cX6_doOutage 8 (.idiv) 1 9 := ⟨by decide +kernel, rfl⟩
theorem eX6_doOutage_9 : zD cX6_doOutage 9 (.istore 4) 2 11 := ⟨by decide +kernel, rfl⟩
theorem eX6_doOutage_11 : zD cX6_doOutage 11 (.aload_n 0) 1 12 := ⟨by decide +kernel, rfl⟩
theorem eX6_doOutage_12 : zD cX6_doOutage 12 (.getfield 7) 3 15 := ⟨by decide +kernel, rfl⟩
theorem eX6_doOutage_15 : zD cX6_doOutage 15 (.iload_n 1) 1 16 := ⟨by decide +kernel, rfl⟩
theorem eX6_doOutage_16 : zD cX6_doOutage 16 (.iconst 3) 1 17 := ⟨by decide +kernel, rfl⟩
theorem eX6_doOutage_17 : zD cX6_doOutage 17 (.invokestatic 105) 3 20 := ⟨by decide +kernel, rfl⟩
theorem eX6_doOutage_20 : zD cX6_doOutage 20 (.dup2) 1 21 := ⟨by decide +kernel, rfl⟩
theorem eX6_doOutage_21 : zD cX6_doOutage 21 (.laload) 1 22 := ⟨by decide +kernel, rfl⟩
theorem eX6_doOutage_22 : zD cX6_doOutage 22 (.iload 4) 2 24 := ⟨by decide +kernel, rfl⟩
theorem eX6_doOutage_24 : zD cX6_doOutage 24 (.i2l) 1 25 := ⟨by decide +kernel, rfl⟩
theorem eX6_doOutage_25 : zD cX6_doOutage 25 (.ladd) 1 26 := ⟨by decide +kernel, rfl⟩
theorem eX6_doOutage_26 : zD cX6_doOutage 26 (.lastore) 1 27 := ⟨by decide +kernel, rfl⟩
theorem eX6_doOutage_27 : zD cX6_doOutage 27 (.aload_n 0) 1 28 := ⟨by decide +kernel, rfl⟩
theorem eX6_doOutage_28 : zD cX6_doOutage 28 (.iload_n 1) 1 29 := ⟨by decide +kernel, rfl⟩
theorem eX6_doOutage_29 : zD cX6_doOutage 29 (.iload 4) 2 31 := ⟨by decide +kernel, rfl⟩
theorem eX6_doOutage_31 : zD cX6_doOutage 31 (.ineg) 1 32 := ⟨by decide +kernel, rfl⟩
theorem eX6_doOutage_32 : zD cX6_doOutage 32 (.i2l) 1 33 := ⟨by decide +kernel, rfl⟩
theorem eX6_doOutage_33 : zD cX6_doOutage 33 (.invokevirtual 111) 3 36 := ⟨by decide +kernel, rfl⟩
theorem eX6_doOutage_36 : zD cX6_doOutage 36 (.aload_n 0) 1 37 := ⟨by decide +kernel, rfl⟩
theorem eX6_doOutage_37 : zD cX6_doOutage 37 (.iload_n 1) 1 38 := ⟨by decide +kernel, rfl⟩
theorem eX6_doOutage_38 : zD cX6_doOutage 38 (.invokevirtual 94) 3 41 := ⟨by decide +kernel, rfl⟩
theorem eX6_doOutage_41 : zJ cX6_doOutage 41 (.ifCond .eq (7)) (7) 48 3 44 := ⟨by decide +kernel, rfl, by decide⟩
theorem eX6_doOutage_44 : zD cX6_doOutage 44 (.iconst 1) 1 45 := ⟨by decide +kernel, rfl⟩
theorem eX6_doOutage_45 : zJ cX6_doOutage 45 (.goto (4)) (4) 49 3 48 := ⟨by decide +kernel, rfl, by decide⟩
theorem eX6_doOutage_48 : zD cX6_doOutage 48 (.iconst 0) 1 49 := ⟨by decide +kernel, rfl⟩
theorem eX6_doOutage_49 : zD cX6_doOutage 49 (.ireturn) 1 50 := ⟨by decide +kernel, rfl⟩
theorem eX6_noOutage_0 : zD cX6_noOutage 0 (.aload_n 0) 1 1 := ⟨by decide +kernel, rfl⟩
theorem eX6_noOutage_1 : zD cX6_noOutage 1 (.iload_n 1) 1 2 := ⟨by decide +kernel, rfl⟩
theorem eX6_noOutage_2 : zD cX6_noOutage 2 (.invokevirtual 108) 3 5 := ⟨by decide +kernel, rfl⟩
theorem eX6_noOutage_5 : zJ cX6_noOutage 5 (.ifCond .ne (7)) (7) 12 3 8 := ⟨by decide +kernel, rfl, by decide⟩
theorem eX6_noOutage_8 : zD cX6_noOutage 8 (.iconst (-1)) 1 9 := ⟨by decide +kernel, rfl⟩
theorem eX6_noOutage_9 : zJ cX6_noOutage 9 (.goto (33)) (33) 42 3 12 := ⟨by decide +kernel, rfl, by decide⟩
theorem eX6_noOutage_12 : zD cX6_noOutage 12 (.iload_n 2) 1 13 := ⟨by decide +kernel, rfl⟩
theorem eX6_noOutage_13 : zD cX6_noOutage 13 (.i2l) 1 14 := ⟨by decide +kernel, rfl⟩
theorem eX6_noOutage_14 : zD cX6_noOutage 14 (.lconst 1) 1 15 := ⟨by decide +kernel, rfl⟩
theorem eX6_noOutage_15 : zD cX6_noOutage 15 (.ldc2_w 115) 3 18 := ⟨by decide +kernel, rfl⟩
theorem eX6_noOutage_18 : zD cX6_noOutage 18 (.invokestatic 56) 3 21 := ⟨by decide +kernel, rfl⟩
theorem eX6_noOutage_21 : zJ cX6_noOutage 21 (.ifCond .eq (19)) (19) 40 3 24 := ⟨by decide +kernel, rfl, by decide⟩
theorem eX6_noOutage_24 : zD cX6_noOutage 24 (.iload_n 3) 1 25 := ⟨by decide +kernel, rfl⟩
theorem eX6_noOutage_25 : zD cX6_noOutage 25 (.i2l) 1 26 := ⟨by decide +kernel, rfl⟩
theorem eX6_noOutage_26 : zD cX6_noOutage 26 (.lconst 1) 1 27 := ⟨by decide +kernel, rfl⟩
theorem eX6_noOutage_27 : zD cX6_noOutage 27 (.ldc2_w 80) 3 30 := ⟨by decide +kernel, rfl⟩
theorem eX6_noOutage_30 : zD cX6_noOutage 30 (.invokestatic 56) 3 33 := ⟨by decide +kernel, rfl⟩
theorem eX6_noOutage_33 : zJ cX6_noOutage 33 (.ifCond .eq (7)) (7) 40 3 36 := ⟨by decide +kernel, rfl, by decide⟩
theorem eX6_noOutage_36 : zD cX6_noOutage 36 (.iconst 0) 1 37 := ⟨by decide +kernel, rfl⟩
theorem eX6_noOutage_37 : zJ cX6_noOutage 37 (.goto (5)) (5) 42 3 40 := ⟨by decide +kernel, rfl, by decide⟩
theorem eX6_noOutage_40 : zD cX6_noOutage 40 (.bipush (-2)) 2 42 := ⟨by decide +kernel, rfl⟩
theorem eX6_noOutage_42 : zD cX6_noOutage 42 (.ireturn) 1 43 := ⟨by decide +kernel, rfl⟩
theorem eX6_outage_0 : zD cX6_outage 0 (.aload_n 0) 1 1 := ⟨by decide +kernel, rfl⟩
theorem eX6_outage_1 : zD cX6_outage 1 (.iload_n 1) 1 2 := ⟨by decide +kernel, rfl⟩
theorem eX6_outage_2 : zD cX6_outage 2 (.iload_n 2) 1 3 := ⟨by decide +kernel, rfl⟩
theorem eX6_outage_3 : zD cX6_outage 3 (.iload_n 3) 1 4 := ⟨by decide +kernel, rfl⟩
theorem eX6_outage_4 : zD cX6_outage 4 (.invokevirtual 117) 3 7 := ⟨by decide +kernel, rfl⟩
theorem eX6_outage_7 : zD cX6_outage 7 (.istore 4) 2 9 := ⟨by decide +kernel, rfl⟩
theorem eX6_outage_9 : zD cX6_outage 9 (.iload 4) 2 11 := ⟨by decide +kernel, rfl⟩
theorem eX6_outage_11 : zJ cX6_outage 11 (.ifCond .eq (6)) (6) 17 3 14 := ⟨by decide +kernel, rfl, by decide⟩
theorem eX6_outage_14 : zD cX6_outage 14 (.iload 4) 2 16 := ⟨by decide +kernel, rfl⟩
theorem eX6_outage_16 : zD cX6_outage 16 (.ireturn) 1 17 := ⟨by decide +kernel, rfl⟩
theorem eX6_outage_17 : zD cX6_outage 17 (.aload_n 0) 1 18 := ⟨by decide +kernel, rfl⟩
theorem eX6_outage_18 : zD cX6_outage 18 (.invokevirtual 64) 3 21 := ⟨by decide +kernel, rfl⟩
theorem eX6_outage_21 : zD cX6_outage 21 (.aload_n 0) 1 22 := ⟨by decide +kernel, rfl⟩
theorem eX6_outage_22 : zD cX6_outage 22 (.iload_n 1) 1 23 := ⟨by decide +kernel, rfl⟩
theorem eX6_outage_23 : zD cX6_outage 23 (.iload_n 2) 1 24 := ⟨by decide +kernel, rfl⟩
theorem eX6_outage_24 : zD cX6_outage 24 (.iload_n 3) 1 25 := ⟨by decide +kernel, rfl⟩
theorem eX6_outage_25 : zD cX6_outage 25 (.invokevirtual 121) 3 28 := ⟨by decide +kernel, rfl⟩
theorem eX6_outage_28 : zD cX6_outage 28 (.ireturn) 1 29 := ⟨by decide +kernel, rfl⟩
theorem eX6_spend_0 : zD cX6_spend 0 (.aload_n 0) 1 1 := ⟨by decide +kernel, rfl⟩
theorem eX6_spend_1 : zD cX6_spend 1 (.getfield 7) 3 4 := ⟨by decide +kernel, rfl⟩
theorem eX6_spend_4 : zD cX6_spend 4 (.iload_n 1) 1 5 := ⟨by decide +kernel, rfl⟩
theorem eX6_spend_5 : zD cX6_spend 5 (.iconst 4) 1 6 := ⟨by decide +kernel, rfl⟩
theorem eX6_spend_6 : zD cX6_spend 6 (.invokestatic 105) 3 9 := ⟨by decide +kernel, rfl⟩
theorem eX6_spend_9 : zD cX6_spend 9 (.dup2) 1 10 := ⟨by decide +kernel, rfl⟩
theorem eX6_spend_10 : zD cX6_spend 10 (.laload) 1 11 := ⟨by decide +kernel, rfl⟩
theorem eX6_spend_11 : zD cX6_spend 11 (.lload_n 2) 1 12 := ⟨by decide +kernel, rfl⟩
theorem eX6_spend_12 : zD cX6_spend 12 (.ladd) 1 13 := ⟨by decide +kernel, rfl⟩
theorem eX6_spend_13 : zD cX6_spend 13 (.lastore) 1 14 := ⟨by decide +kernel, rfl⟩
theorem eX6_spend_14 : zD cX6_spend 14 (.aload_n 0) 1 15 := ⟨by decide +kernel, rfl⟩
theorem eX6_spend_15 : zD cX6_spend 15 (.getfield 7) 3 18 := ⟨by decide +kernel, rfl⟩
theorem eX6_spend_18 : zD cX6_spend 18 (.iload_n 1) 1 19 := ⟨by decide +kernel, rfl⟩
theorem eX6_spend_19 : zD cX6_spend 19 (.iconst 4) 1 20 := ⟨by decide +kernel, rfl⟩
theorem eX6_spend_20 : zD cX6_spend 20 (.invokestatic 86) 3 23 := ⟨by decide +kernel, rfl⟩
theorem eX6_spend_23 : zD cX6_spend 23 (.dup2) 1 24 := ⟨by decide +kernel, rfl⟩
theorem eX6_spend_24 : zD cX6_spend 24 (.laload) 1 25 := ⟨by decide +kernel, rfl⟩
theorem eX6_spend_25 : zD cX6_spend 25 (.lconst 1) 1 26 := ⟨by decide +kernel, rfl⟩
theorem eX6_spend_26 : zD cX6_spend 26 (.ladd) 1 27 := ⟨by decide +kernel, rfl⟩
theorem eX6_spend_27 : zD cX6_spend 27 (.lastore) 1 28 := ⟨by decide +kernel, rfl⟩
theorem eX6_spend_28 : zD cX6_spend 28 (.aload_n 0) 1 29 := ⟨by decide +kernel, rfl⟩
theorem eX6_spend_29 : zD cX6_spend 29 (.iload_n 1) 1 30 := ⟨by decide +kernel, rfl⟩
theorem eX6_spend_30 : zD cX6_spend 30 (.lload_n 2) 1 31 := ⟨by decide +kernel, rfl⟩
theorem eX6_spend_31 : zD cX6_spend 31 (.lneg) 1 32 := ⟨by decide +kernel, rfl⟩
theorem eX6_spend_32 : zD cX6_spend 32 (.invokevirtual 111) 3 35 := ⟨by decide +kernel, rfl⟩
theorem eX6_spend_35 : zD cX6_spend 35 (.return_) 1 36 := ⟨by decide +kernel, rfl⟩
theorem eX6_doRelease_0 : zD cX6_doRelease 0 (.aload_n 0) 1 1 := ⟨by decide +kernel, rfl⟩
theorem eX6_doRelease_1 : zD cX6_doRelease 1 (.iload_n 1) 1 2 := ⟨by decide +kernel, rfl⟩
theorem eX6_doRelease_2 : zD cX6_doRelease 2 (.invokevirtual 94) 3 5 := ⟨by decide +kernel, rfl⟩
theorem eX6_doRelease_5 : zJ cX6_doRelease 5 (.ifCond .eq (7)) (7) 12 3 8 := ⟨by decide +kernel, rfl, by decide⟩
theorem eX6_doRelease_8 : zD cX6_doRelease 8 (.iconst 1) 1 9 := ⟨by decide +kernel, rfl⟩
theorem eX6_doRelease_9 : zJ cX6_doRelease 9 (.goto (4)) (4) 13 3 12 := ⟨by decide +kernel, rfl, by decide⟩
theorem eX6_doRelease_12 : zD cX6_doRelease 12 (.iconst 0) 1 13 := ⟨by decide +kernel, rfl⟩
theorem eX6_doRelease_13 : zD cX6_doRelease 13 (.istore_n 3) 1 14 := ⟨by decide +kernel, rfl⟩
theorem eX6_doRelease_14 : zD cX6_doRelease 14 (.aload_n 0) 1 15 := ⟨by decide +kernel, rfl⟩
theorem eX6_doRelease_15 : zD cX6_doRelease 15 (.getfield 7) 3 18 := ⟨by decide +kernel, rfl⟩
theorem eX6_doRelease_18 : zD cX6_doRelease 18 (.iload_n 1) 1 19 := ⟨by decide +kernel, rfl⟩
theorem eX6_doRelease_19 : zD cX6_doRelease 19 (.iconst 2) 1 20 := ⟨by decide +kernel, rfl⟩
theorem eX6_doRelease_20 : zD cX6_doRelease 20 (.invokestatic 86) 3 23 := ⟨by decide +kernel, rfl⟩
theorem eX6_doRelease_23 : zD cX6_doRelease 23 (.dup2) 1 24 := ⟨by decide +kernel, rfl⟩
theorem eX6_doRelease_24 : zD cX6_doRelease 24 (.laload) 1 25 := ⟨by decide +kernel, rfl⟩
theorem eX6_doRelease_25 : zD cX6_doRelease 25 (.iload_n 3) 1 26 := ⟨by decide +kernel, rfl⟩
theorem eX6_doRelease_26 : zD cX6_doRelease 26 (.i2l) 1 27 := ⟨by decide +kernel, rfl⟩
theorem eX6_doRelease_27 : zD cX6_doRelease 27 (.lsub) 1 28 := ⟨by decide +kernel, rfl⟩
theorem eX6_doRelease_28 : zD cX6_doRelease 28 (.lastore) 1 29 := ⟨by decide +kernel, rfl⟩
theorem eX6_doRelease_29 : zD cX6_doRelease 29 (.aload_n 0) 1 30 := ⟨by decide +kernel, rfl⟩
theorem eX6_doRelease_30 : zD cX6_doRelease 30 (.iload_n 1) 1 31 := ⟨by decide +kernel, rfl⟩
theorem eX6_doRelease_31 : zD cX6_doRelease 31 (.iload_n 2) 1 32 := ⟨by decide +kernel, rfl⟩
theorem eX6_doRelease_32 : zD cX6_doRelease 32 (.i2l) 1 33 := ⟨by decide +kernel, rfl⟩
theorem eX6_doRelease_33 : zD cX6_doRelease 33 (.invokevirtual 124) 3 36 := ⟨by decide +kernel, rfl⟩
theorem eX6_doRelease_36 : zD cX6_doRelease 36 (.iload_n 3) 1 37 := ⟨by decide +kernel, rfl⟩
theorem eX6_doRelease_37 : zD cX6_doRelease 37 (.ireturn) 1 38 := ⟨by decide +kernel, rfl⟩
theorem eX6_noRelease_0 : zD cX6_noRelease 0 (.aload_n 0) 1 1 := ⟨by decide +kernel, rfl⟩
theorem eX6_noRelease_1 : zD cX6_noRelease 1 (.iload_n 1) 1 2 := ⟨by decide +kernel, rfl⟩
theorem eX6_noRelease_2 : zD cX6_noRelease 2 (.invokevirtual 108) 3 5 := ⟨by decide +kernel, rfl⟩
theorem eX6_noRelease_5 : zJ cX6_noRelease 5 (.ifCond .eq (25)) (25) 30 3 8 := ⟨by decide +kernel, rfl, by decide⟩
theorem eX6_noRelease_8 : zD cX6_noRelease 8 (.iload_n 2) 1 9 := ⟨by decide +kernel, rfl⟩
theorem eX6_noRelease_9 : zD cX6_noRelease 9 (.i2l) 1 10 := ⟨by decide +kernel, rfl⟩
theorem eX6_noRelease_10 : zD cX6_noRelease 10 (.lconst 1) 1 11 := ⟨by decide +kernel, rfl⟩
theorem eX6_noRelease_11 : zD cX6_noRelease 11 (.ldc2_w 127) 3 14 := ⟨by decide +kernel, rfl⟩
theorem eX6_noRelease_14 : zD cX6_noRelease 14 (.invokestatic 56) 3 17 := ⟨by decide +kernel, rfl⟩
theorem eX6_noRelease_17 : zJ cX6_noRelease 17 (.ifCond .eq (13)) (13) 30 3 20 := ⟨by decide +kernel, rfl, by decide⟩
theorem eX6_noRelease_20 : zD cX6_noRelease 20 (.iload_n 3) 1 21 := ⟨by decide +kernel, rfl⟩
theorem eX6_noRelease_21 : zD cX6_noRelease 21 (.i2l) 1 22 := ⟨by decide +kernel, rfl⟩
theorem eX6_noRelease_22 : zD cX6_noRelease 22 (.lconst 0) 1 23 := ⟨by decide +kernel, rfl⟩
theorem eX6_noRelease_23 : zD cX6_noRelease 23 (.lconst 1) 1 24 := ⟨by decide +kernel, rfl⟩
theorem eX6_noRelease_24 : zD cX6_noRelease 24 (.invokestatic 56) 3 27 := ⟨by decide +kernel, rfl⟩
theorem eX6_noRelease_27 : zJ cX6_noRelease 27 (.ifCond .ne (18)) (18) 45 3 30 := ⟨by decide +kernel, rfl, by decide⟩
theorem eX6_noRelease_30 : zD cX6_noRelease 30 (.aload_n 0) 1 31 := ⟨by decide +kernel, rfl⟩
theorem eX6_noRelease_31 : zD cX6_noRelease 31 (.iload_n 1) 1 32 := ⟨by decide +kernel, rfl⟩
theorem eX6_noRelease_32 : zD cX6_noRelease 32 (.invokevirtual 108) 3 35 := ⟨by decide +kernel, rfl⟩
theorem eX6_noRelease_35 : zJ cX6_noRelease 35 (.ifCond .eq (8)) (8) 43 3 38 := ⟨by decide +kernel, rfl, by decide⟩
theorem eX6_noRelease_38 : zD cX6_noRelease 38 (.bipush (-2)) 2 40 := ⟨by decide +kernel, rfl⟩
theorem eX6_noRelease_40 : zJ cX6_noRelease 40 (.goto (4)) (4) 44 3 43 := ⟨by decide +kernel, rfl, by decide⟩
theorem eX6_noRelease_43 : zD cX6_noRelease 43 (.iconst (-1)) 1 44 := ⟨by decide +kernel, rfl⟩
theorem eX6_noRelease_44 : zD cX6_noRelease 44 (.ireturn) 1 45 := ⟨by decide +kernel, rfl⟩
theorem eX6_noRelease_45 : zD cX6_noRelease 45 (.aload_n 0) 1 46 := ⟨by decide +kernel, rfl⟩
theorem eX6_noRelease_46 : zD cX6_noRelease 46 (.iload_n 1) 1 47 := ⟨by decide +kernel, rfl⟩
theorem eX6_noRelease_47 : zD cX6_noRelease 47 (.invokevirtual 94) 3 50 := ⟨by decide +kernel, rfl⟩
theorem eX6_noRelease_50 : zJ cX6_noRelease 50 (.ifCond .eq (30)) (30) 80 3 53 := ⟨by decide +kernel, rfl, by decide⟩
theorem eX6_noRelease_53 : zD cX6_noRelease 53 (.iload_n 3) 1 54 := ⟨by decide +kernel, rfl⟩
theorem eX6_noRelease_54 : zJ cX6_noRelease 54 (.ifCond .eq (18)) (18) 72 3 57 := ⟨by decide +kernel, rfl, by decide⟩
theorem eX6_noRelease_57 : zD cX6_noRelease 57 (.aload_n 0) 1 58 := ⟨by decide +kernel, rfl⟩
theorem eX6_noRelease_58 : zD cX6_noRelease 58 (.getfield 7) 3 61 := ⟨by decide +kernel, rfl⟩
theorem eX6_noRelease_61 : zD cX6_noRelease 61 (.iload_n 1) 1 62 := ⟨by decide +kernel, rfl⟩
theorem eX6_noRelease_62 : zD cX6_noRelease 62 (.iconst 2) 1 63 := ⟨by decide +kernel, rfl⟩
theorem eX6_noRelease_63 : zD cX6_noRelease 63 (.invokestatic 86) 3 66 := ⟨by decide +kernel, rfl⟩
theorem eX6_noRelease_66 : zD cX6_noRelease 66 (.laload) 1 67 := ⟨by decide +kernel, rfl⟩
theorem eX6_noRelease_67 : zD cX6_noRelease 67 (.lconst 0) 1 68 := ⟨by decide +kernel, rfl⟩
theorem eX6_noRelease_68 : zD cX6_noRelease 68 (.lcmp) 1 69 := ⟨by decide +kernel, rfl⟩
theorem eX6_noRelease_69 : zJ cX6_noRelease 69 (.ifCond .ne (11)) (11) 80 3 72 := ⟨by decide +kernel, rfl, by decide⟩
theorem eX6_noRelease_72 : zD cX6_noRelease 72 (.aload_n 0) 1 73 := ⟨by decide +kernel, rfl⟩
theorem eX6_noRelease_73 : zD cX6_noRelease 73 (.iconst 1) 1 74 := ⟨by decide +kernel, rfl⟩
theorem eX6_noRelease_74 : zD cX6_noRelease 74 (.invokevirtual 129) 3 77 := ⟨by decide +kernel, rfl⟩
theorem eX6_noRelease_77 : zJ cX6_noRelease 77 (.goto (4)) (4) 81 3 80 := ⟨by decide +kernel, rfl, by decide⟩
theorem eX6_noRelease_80 : zD cX6_noRelease 80 (.iconst 0) 1 81 := ⟨by decide +kernel, rfl⟩
theorem eX6_noRelease_81 : zD cX6_noRelease 81 (.ireturn) 1 82 := ⟨by decide +kernel, rfl⟩
theorem eX6_release_0 : zD cX6_release 0 (.aload_n 0) 1 1 := ⟨by decide +kernel, rfl⟩
theorem eX6_release_1 : zD cX6_release 1 (.iload_n 1) 1 2 := ⟨by decide +kernel, rfl⟩
theorem eX6_release_2 : zD cX6_release 2 (.iload_n 2) 1 3 := ⟨by decide +kernel, rfl⟩
theorem eX6_release_3 : zD cX6_release 3 (.iload_n 3) 1 4 := ⟨by decide +kernel, rfl⟩
theorem eX6_release_4 : zD cX6_release 4 (.invokevirtual 132) 3 7 := ⟨by decide +kernel, rfl⟩
theorem eX6_release_7 : zD cX6_release 7 (.istore 4) 2 9 := ⟨by decide +kernel, rfl⟩
theorem eX6_release_9 : zD cX6_release 9 (.iload 4) 2 11 := ⟨by decide +kernel, rfl⟩
theorem eX6_release_11 : zJ cX6_release 11 (.ifCond .eq (6)) (6) 17 3 14 := ⟨by decide +kernel, rfl, by decide⟩
theorem eX6_release_14 : zD cX6_release 14 (.iload 4) 2 16 := ⟨by decide +kernel, rfl⟩
theorem eX6_release_16 : zD cX6_release 16 (.ireturn) 1 17 := ⟨by decide +kernel, rfl⟩
theorem eX6_release_17 : zD cX6_release 17 (.aload_n 0) 1 18 := ⟨by decide +kernel, rfl⟩
theorem eX6_release_18 : zD cX6_release 18 (.invokevirtual 64) 3 21 := ⟨by decide +kernel, rfl⟩
theorem eX6_release_21 : zD cX6_release 21 (.aload_n 0) 1 22 := ⟨by decide +kernel, rfl⟩
theorem eX6_release_22 : zD cX6_release 22 (.iload_n 1) 1 23 := ⟨by decide +kernel, rfl⟩
theorem eX6_release_23 : zD cX6_release 23 (.iload_n 2) 1 24 := ⟨by decide +kernel, rfl⟩
theorem eX6_release_24 : zD cX6_release 24 (.invokevirtual 135) 3 27 := ⟨by decide +kernel, rfl⟩
theorem eX6_release_27 : zD cX6_release 27 (.ireturn) 1 28 := ⟨by decide +kernel, rfl⟩
theorem eX6_ofLoanAt_0 : zD cX6_ofLoanAt 0 (.sipush 134) 3 3 := ⟨by decide +kernel, rfl⟩
theorem eX6_ofLoanAt_3 : zD cX6_ofLoanAt 3 (.iconst 5) 1 4 := ⟨by decide +kernel, rfl⟩
theorem eX6_ofLoanAt_4 : zD cX6_ofLoanAt 4 (.iload_n 0) 1 5 := ⟨by decide +kernel, rfl⟩
theorem eX6_ofLoanAt_5 : zD cX6_ofLoanAt 5 (.imul) 1 6 := ⟨by decide +kernel, rfl⟩
theorem eX6_ofLoanAt_6 : zD cX6_ofLoanAt 6 (.iadd) 1 7 := ⟨by decide +kernel, rfl⟩
theorem eX6_ofLoanAt_7 : zD cX6_ofLoanAt 7 (.iload_n 1) 1 8 := ⟨by decide +kernel, rfl⟩
theorem eX6_ofLoanAt_8 : zD cX6_ofLoanAt 8 (.iadd) 1 9 := ⟨by decide +kernel, rfl⟩
theorem eX6_ofLoanAt_9 : zD cX6_ofLoanAt 9 (.ireturn) 1 10 := ⟨by decide +kernel, rfl⟩
theorem eX6_loansOf_0 : zD cX6_loansOf 0 (.iconst 0) 1 1 := ⟨by decide +kernel, rfl⟩
theorem eX6_loansOf_1 : zD cX6_loansOf 1 (.istore_n 3) 1 2 := ⟨by decide +kernel, rfl⟩
theorem eX6_loansOf_2 : zD cX6_loansOf 2 (.iconst 0) 1 3 := ⟨by decide +kernel, rfl⟩
theorem eX6_loansOf_3 : zD cX6_loansOf 3 (.istore 4) 2 5 := ⟨by decide +kernel, rfl⟩
theorem eX6_loansOf_5 : zD cX6_loansOf 5 (.iload 4) 2 7 := ⟨by decide +kernel, rfl⟩
theorem eX6_loansOf_7 : zD cX6_loansOf 7 (.i2l) 1 8 := ⟨by decide +kernel, rfl⟩
theorem eX6_loansOf_8 : zD cX6_loansOf 8 (.aload_n 0) 1 9 := ⟨by decide +kernel, rfl⟩
theorem eX6_loansOf_9 : zD cX6_loansOf 9 (.getfield 7) 3 12 := ⟨by decide +kernel, rfl⟩
theorem eX6_loansOf_12 : zD cX6_loansOf 12 (.bipush 12) 2 14 := ⟨by decide +kernel, rfl⟩
theorem eX6_loansOf_14 : zD cX6_loansOf 14 (.laload) 1 15 := ⟨by decide +kernel, rfl⟩
theorem eX6_loansOf_15 : zD cX6_loansOf 15 (.lcmp) 1 16 := ⟨by decide +kernel, rfl⟩
theorem eX6_loansOf_16 : zJ cX6_loansOf 16 (.ifCond .ge (34)) (34) 50 3 19 := ⟨by decide +kernel, rfl, by decide⟩
theorem eX6_loansOf_19 : zD cX6_loansOf 19 (.iload_n 3) 1 20 := ⟨by decide +kernel, rfl⟩
theorem eX6_loansOf_20 : zD cX6_loansOf 20 (.aload_n 0) 1 21 := ⟨by decide +kernel, rfl⟩
theorem eX6_loansOf_21 : zD cX6_loansOf 21 (.getfield 7) 3 24 := ⟨by decide +kernel, rfl⟩
theorem eX6_loansOf_24 : zD cX6_loansOf 24 (.iload 4) 2 26 := ⟨by decide +kernel, rfl⟩
theorem eX6_loansOf_26 : zD cX6_loansOf 26 (.iload_n 2) 1 27 := ⟨by decide +kernel, rfl⟩
theorem eX6_loansOf_27 : zD cX6_loansOf 27 (.invokestatic 138) 3 30 := ⟨by decide +kernel, rfl⟩
theorem eX6_loansOf_30 : zD cX6_loansOf 30 (.laload) 1 31 := ⟨by decide +kernel, rfl⟩
theorem eX6_loansOf_31 : zD cX6_loansOf 31 (.iload_n 1) 1 32 := ⟨by decide +kernel, rfl⟩
theorem eX6_loansOf_32 : zD cX6_loansOf 32 (.i2l) 1 33 := ⟨by decide +kernel, rfl⟩
theorem eX6_loansOf_33 : zD cX6_loansOf 33 (.lcmp) 1 34 := ⟨by decide +kernel, rfl⟩
theorem eX6_loansOf_34 : zJ cX6_loansOf 34 (.ifCond .ne (7)) (7) 41 3 37 := ⟨by decide +kernel, rfl, by decide⟩
theorem eX6_loansOf_37 : zD cX6_loansOf 37 (.iconst 1) 1 38 := ⟨by decide +kernel, rfl⟩
theorem eX6_loansOf_38 : zJ cX6_loansOf 38 (.goto (4)) (4) 42 3 41 := ⟨by decide +kernel, rfl, by decide⟩
theorem eX6_loansOf_41 : zD cX6_loansOf 41 (.iconst 0) 1 42 := ⟨by decide +kernel, rfl⟩
theorem eX6_loansOf_42 : zD cX6_loansOf 42 (.iadd) 1 43 := ⟨by decide +kernel, rfl⟩
theorem eX6_loansOf_43 : zD cX6_loansOf 43 (.istore_n 3) 1 44 := ⟨by decide +kernel, rfl⟩
theorem eX6_loansOf_44 : zD cX6_loansOf 44 (.iinc 4 1) 3 47 := ⟨by decide +kernel, rfl⟩
theorem eX6_loansOf_47 : zJ cX6_loansOf 47 (.goto (-42)) (-42) 5 3 50 := ⟨by decide +kernel, rfl, by decide⟩
theorem eX6_loansOf_50 : zD cX6_loansOf 50 (.iload_n 3) 1 51 := ⟨by decide +kernel, rfl⟩
theorem eX6_loansOf_51 : zD cX6_loansOf 51 (.ireturn) 1 52 := ⟨by decide +kernel, rfl⟩
theorem eX6_owedOf_0 : zD cX6_owedOf 0 (.iconst 0) 1 1 := ⟨by decide +kernel, rfl⟩
theorem eX6_owedOf_1 : zD cX6_owedOf 1 (.istore_n 3) 1 2 := ⟨by decide +kernel, rfl⟩
theorem eX6_owedOf_2 : zD cX6_owedOf 2 (.iconst 0) 1 3 := ⟨by decide +kernel, rfl⟩
theorem eX6_owedOf_3 : zD cX6_owedOf 3 (.istore 4) 2 5 := ⟨by decide +kernel, rfl⟩
theorem eX6_owedOf_5 : zD cX6_owedOf 5 (.iload 4) 2 7 := ⟨by decide +kernel, rfl⟩
theorem eX6_owedOf_7 : zD cX6_owedOf 7 (.i2l) 1 8 := ⟨by decide +kernel, rfl⟩
theorem eX6_owedOf_8 : zD cX6_owedOf 8 (.aload_n 0) 1 9 := ⟨by decide +kernel, rfl⟩
theorem eX6_owedOf_9 : zD cX6_owedOf 9 (.getfield 7) 3 12 := ⟨by decide +kernel, rfl⟩
theorem eX6_owedOf_12 : zD cX6_owedOf 12 (.bipush 12) 2 14 := ⟨by decide +kernel, rfl⟩
theorem eX6_owedOf_14 : zD cX6_owedOf 14 (.laload) 1 15 := ⟨by decide +kernel, rfl⟩
theorem eX6_owedOf_15 : zD cX6_owedOf 15 (.lcmp) 1 16 := ⟨by decide +kernel, rfl⟩
theorem eX6_owedOf_16 : zJ cX6_owedOf 16 (.ifCond .ge (43)) (43) 59 3 19 := ⟨by decide +kernel, rfl, by decide⟩
theorem eX6_owedOf_19 : zD cX6_owedOf 19 (.iload_n 3) 1 20 := ⟨by decide +kernel, rfl⟩
theorem eX6_owedOf_20 : zD cX6_owedOf 20 (.aload_n 0) 1 21 := ⟨by decide +kernel, rfl⟩
theorem eX6_owedOf_21 : zD cX6_owedOf 21 (.getfield 7) 3 24 := ⟨by decide +kernel, rfl⟩
theorem eX6_owedOf_24 : zD cX6_owedOf 24 (.iload 4) 2 26 := ⟨by decide +kernel, rfl⟩
theorem eX6_owedOf_26 : zD cX6_owedOf 26 (.iload_n 2) 1 27 := ⟨by decide +kernel, rfl⟩
theorem eX6_owedOf_27 : zD cX6_owedOf 27 (.invokestatic 138) 3 30 := ⟨by decide +kernel, rfl⟩
theorem eX6_owedOf_30 : zD cX6_owedOf 30 (.laload) 1 31 := ⟨by decide +kernel, rfl⟩
theorem eX6_owedOf_31 : zD cX6_owedOf 31 (.iload_n 1) 1 32 := ⟨by decide +kernel, rfl⟩
theorem eX6_owedOf_32 : zD cX6_owedOf 32 (.i2l) 1 33 := ⟨by decide +kernel, rfl⟩
theorem eX6_owedOf_33 : zD cX6_owedOf 33 (.lcmp) 1 34 := ⟨by decide +kernel, rfl⟩
theorem eX6_owedOf_34 : zJ cX6_owedOf 34 (.ifCond .ne (16)) (16) 50 3 37 := ⟨by decide +kernel, rfl, by decide⟩
theorem eX6_owedOf_37 : zD cX6_owedOf 37 (.aload_n 0) 1 38 := ⟨by decide +kernel, rfl⟩
theorem eX6_owedOf_38 : zD cX6_owedOf 38 (.iload 4) 2 40 := ⟨by decide +kernel, rfl⟩
theorem eX6_owedOf_40 : zD cX6_owedOf 40 (.iconst 3) 1 41 := ⟨by decide +kernel, rfl⟩
theorem eX6_owedOf_41 : zD cX6_owedOf 41 (.invokestatic 138) 3 44 := ⟨by decide +kernel, rfl⟩
theorem eX6_owedOf_44 : zD cX6_owedOf 44 (.invokevirtual 60) 3 47 := ⟨by decide +kernel, rfl⟩
theorem eX6_owedOf_47 : zJ cX6_owedOf 47 (.goto (4)) (4) 51 3 50 := ⟨by decide +kernel, rfl, by decide⟩
theorem eX6_owedOf_50 : zD cX6_owedOf 50 (.iconst 0) 1 51 := ⟨by decide +kernel, rfl⟩
theorem eX6_owedOf_51 : zD cX6_owedOf 51 (.iadd) 1 52 := ⟨by decide +kernel, rfl⟩
theorem eX6_owedOf_52 : zD cX6_owedOf 52 (.istore_n 3) 1 53 := ⟨by decide +kernel, rfl⟩
theorem eX6_owedOf_53 : zD cX6_owedOf 53 (.iinc 4 1) 3 56 := ⟨by decide +kernel, rfl⟩
theorem eX6_owedOf_56 : zJ cX6_owedOf 56 (.goto (-51)) (-51) 5 3 59 := ⟨by decide +kernel, rfl, by decide⟩
theorem eX6_owedOf_59 : zD cX6_owedOf 59 (.iload_n 3) 1 60 := ⟨by decide +kernel, rfl⟩
theorem eX6_owedOf_60 : zD cX6_owedOf 60 (.ireturn) 1 61 := ⟨by decide +kernel, rfl⟩
theorem eX6_whyNot_0 : zD cX6_whyNot 0 (.aload_n 0) 1 1 := ⟨by decide +kernel, rfl⟩
theorem eX6_whyNot_1 : zD cX6_whyNot 1 (.iload_n 1) 1 2 := ⟨by decide +kernel, rfl⟩
theorem eX6_whyNot_2 : zD cX6_whyNot 2 (.invokevirtual 94) 3 5 := ⟨by decide +kernel, rfl⟩
theorem eX6_whyNot_5 : zJ cX6_whyNot 5 (.ifCond .eq (7)) (7) 12 3 8 := ⟨by decide +kernel, rfl, by decide⟩
theorem eX6_whyNot_8 : zD cX6_whyNot 8 (.iconst 2) 1 9 := ⟨by decide +kernel, rfl⟩
theorem eX6_whyNot_9 : zJ cX6_whyNot 9 (.goto (47)) (47) 56 3 12 := ⟨by decide +kernel, rfl, by decide⟩
theorem eX6_whyNot_12 : zD cX6_whyNot 12 (.aload_n 0) 1 13 := ⟨by decide +kernel, rfl⟩
theorem eX6_whyNot_13 : zD cX6_whyNot 13 (.iload_n 1) 1 14 := ⟨by decide +kernel, rfl⟩
theorem eX6_whyNot_14 : zD cX6_whyNot 14 (.invokevirtual 90) 3 17 := ⟨by decide +kernel, rfl⟩
theorem eX6_whyNot_17 : zD cX6_whyNot 17 (.iload_n 3) 1 18 := ⟨by decide +kernel, rfl⟩
theorem eX6_whyNot_18 : zD cX6_whyNot 18 (.i2l) 1 19 := ⟨by decide +kernel, rfl⟩
theorem eX6_whyNot_19 : zD cX6_whyNot 19 (.lsub) 1 20 := ⟨by decide +kernel, rfl⟩
theorem eX6_whyNot_20 : zD cX6_whyNot 20 (.aload_n 0) 1 21 := ⟨by decide +kernel, rfl⟩
theorem eX6_whyNot_21 : zD cX6_whyNot 21 (.iload_n 1) 1 22 := ⟨by decide +kernel, rfl⟩
theorem eX6_whyNot_22 : zD cX6_whyNot 22 (.invokevirtual 98) 3 25 := ⟨by decide +kernel, rfl⟩
theorem eX6_whyNot_25 : zD cX6_whyNot 25 (.lcmp) 1 26 := ⟨by decide +kernel, rfl⟩
theorem eX6_whyNot_26 : zJ cX6_whyNot 26 (.ifCond .gt (7)) (7) 33 3 29 := ⟨by decide +kernel, rfl, by decide⟩
theorem eX6_whyNot_29 : zD cX6_whyNot 29 (.iconst 3) 1 30 := ⟨by decide +kernel, rfl⟩
theorem eX6_whyNot_30 : zJ cX6_whyNot 30 (.goto (26)) (26) 56 3 33 := ⟨by decide +kernel, rfl, by decide⟩
theorem eX6_whyNot_33 : zD cX6_whyNot 33 (.aload_n 0) 1 34 := ⟨by decide +kernel, rfl⟩
theorem eX6_whyNot_34 : zD cX6_whyNot 34 (.iload_n 2) 1 35 := ⟨by decide +kernel, rfl⟩
theorem eX6_whyNot_35 : zD cX6_whyNot 35 (.iconst 1) 1 36 := ⟨by decide +kernel, rfl⟩
theorem eX6_whyNot_36 : zD cX6_whyNot 36 (.invokevirtual 141) 3 39 := ⟨by decide +kernel, rfl⟩
theorem eX6_whyNot_39 : zD cX6_whyNot 39 (.i2l) 1 40 := ⟨by decide +kernel, rfl⟩
theorem eX6_whyNot_40 : zD cX6_whyNot 40 (.aload_n 0) 1 41 := ⟨by decide +kernel, rfl⟩
theorem eX6_whyNot_41 : zD cX6_whyNot 41 (.getfield 7) 3 44 := ⟨by decide +kernel, rfl⟩
theorem eX6_whyNot_44 : zD cX6_whyNot 44 (.bipush 6) 2 46 := ⟨by decide +kernel, rfl⟩
theorem eX6_whyNot_46 : zD cX6_whyNot 46 (.laload) 1 47 := ⟨by decide +kernel, rfl⟩
theorem eX6_whyNot_47 : zD cX6_whyNot 47 (.lcmp) 1 48 := ⟨by decide +kernel, rfl⟩
theorem eX6_whyNot_48 : zJ cX6_whyNot 48 (.ifCond .lt (7)) (7) 55 3 51 := ⟨by decide +kernel, rfl, by decide⟩
theorem eX6_whyNot_51 : zD cX6_whyNot 51 (.iconst 4) 1 52 := ⟨by decide +kernel, rfl⟩
theorem eX6_whyNot_52 : zJ cX6_whyNot 52 (.goto (4)) (4) 56 3 55 := ⟨by decide +kernel, rfl, by decide⟩
theorem eX6_whyNot_55 : zD cX6_whyNot 55 (.iconst 0) 1 56 := ⟨by decide +kernel, rfl⟩
theorem eX6_whyNot_56 : zD cX6_whyNot 56 (.ireturn) 1 57 := ⟨by decide +kernel, rfl⟩
theorem eX6_noLend_0 : zD cX6_noLend 0 (.aload_n 0) 1 1 := ⟨by decide +kernel, rfl⟩
theorem eX6_noLend_1 : zD cX6_noLend 1 (.iload_n 1) 1 2 := ⟨by decide +kernel, rfl⟩
theorem eX6_noLend_2 : zD cX6_noLend 2 (.invokevirtual 108) 3 5 := ⟨by decide +kernel, rfl⟩
theorem eX6_noLend_5 : zJ cX6_noLend 5 (.ifCond .eq (16)) (16) 21 3 8 := ⟨by decide +kernel, rfl, by decide⟩
theorem eX6_noLend_8 : zD cX6_noLend 8 (.aload_n 0) 1 9 := ⟨by decide +kernel, rfl⟩
theorem eX6_noLend_9 : zD cX6_noLend 9 (.iload_n 2) 1 10 := ⟨by decide +kernel, rfl⟩
theorem eX6_noLend_10 : zD cX6_noLend 10 (.invokevirtual 108) 3 13 := ⟨by decide +kernel, rfl⟩
theorem eX6_noLend_13 : zJ cX6_noLend 13 (.ifCond .eq (8)) (8) 21 3 16 := ⟨by decide +kernel, rfl, by decide⟩
theorem eX6_noLend_16 : zD cX6_noLend 16 (.iload_n 1) 1 17 := ⟨by decide +kernel, rfl⟩
theorem eX6_noLend_17 : zD cX6_noLend 17 (.iload_n 2) 1 18 := ⟨by decide +kernel, rfl⟩
theorem eX6_noLend_18 : zJ cX6_noLend 18 (.if_icmp .ne (5)) (5) 23 3 21 := ⟨by decide +kernel, rfl, by decide⟩
theorem eX6_noLend_21 : zD cX6_noLend 21 (.iconst (-1)) 1 22 := ⟨by decide +kernel, rfl⟩
theorem eX6_noLend_22 : zD cX6_noLend 22 (.ireturn) 1 23 := ⟨by decide +kernel, rfl⟩
theorem eX6_noLend_23 : zD cX6_noLend 23 (.iload_n 3) 1 24 := ⟨by decide +kernel, rfl⟩
theorem eX6_noLend_24 : zD cX6_noLend 24 (.i2l) 1 25 := ⟨by decide +kernel, rfl⟩
theorem eX6_noLend_25 : zD cX6_noLend 25 (.lconst 1) 1 26 := ⟨by decide +kernel, rfl⟩
theorem eX6_noLend_26 : zD cX6_noLend 26 (.ldc2_w 144) 3 29 := ⟨by decide +kernel, rfl⟩
theorem eX6_noLend_29 : zD cX6_noLend 29 (.invokestatic 56) 3 32 := ⟨by decide +kernel, rfl⟩
theorem eX6_noLend_32 : zJ cX6_noLend 32 (.ifCond .eq (16)) (16) 48 3 35 := ⟨by decide +kernel, rfl, by decide⟩
theorem eX6_noLend_35 : zD cX6_noLend 35 (.iload 4) 2 37 := ⟨by decide +kernel, rfl⟩
theorem eX6_noLend_37 : zD cX6_noLend 37 (.i2l) 1 38 := ⟨by decide +kernel, rfl⟩
theorem eX6_noLend_38 : zD cX6_noLend 38 (.lconst 1) 1 39 := ⟨by decide +kernel, rfl⟩
theorem eX6_noLend_39 : zD cX6_noLend 39 (.ldc2_w 76) 3 42 := ⟨by decide +kernel, rfl⟩
theorem eX6_noLend_42 : zD cX6_noLend 42 (.invokestatic 56) 3 45 := ⟨by decide +kernel, rfl⟩
theorem eX6_noLend_45 : zJ cX6_noLend 45 (.ifCond .ne (6)) (6) 51 3 48 := ⟨by decide +kernel, rfl, by decide⟩
theorem eX6_noLend_48 : zD cX6_noLend 48 (.bipush (-2)) 2 50 := ⟨by decide +kernel, rfl⟩
theorem eX6_noLend_50 : zD cX6_noLend 50 (.ireturn) 1 51 := ⟨by decide +kernel, rfl⟩
theorem eX6_noLend_51 : zD cX6_noLend 51 (.aload_n 0) 1 52 := ⟨by decide +kernel, rfl⟩
theorem eX6_noLend_52 : zD cX6_noLend 52 (.getfield 7) 3 55 := ⟨by decide +kernel, rfl⟩
theorem eX6_noLend_55 : zD cX6_noLend 55 (.bipush 12) 2 57 := ⟨by decide +kernel, rfl⟩
theorem eX6_noLend_57 : zD cX6_noLend 57 (.laload) 1 58 := ⟨by decide +kernel, rfl⟩
theorem eX6_noLend_58 : zD cX6_noLend 58 (.ldc2_w 146) 3 61 := ⟨by decide +kernel, rfl⟩
theorem eX6_noLend_61 : zD cX6_noLend 61 (.lcmp) 1 62 := ⟨by decide +kernel, rfl⟩
theorem eX6_noLend_62 : zJ cX6_noLend 62 (.ifCond .ne (6)) (6) 68 3 65 := ⟨by decide +kernel, rfl, by decide⟩
theorem eX6_noLend_65 : zD cX6_noLend 65 (.bipush (-4)) 2 67 := ⟨by decide +kernel, rfl⟩
theorem eX6_noLend_67 : zD cX6_noLend 67 (.ireturn) 1 68 := ⟨by decide +kernel, rfl⟩
theorem eX6_noLend_68 : zD cX6_noLend 68 (.aload_n 0) 1 69 := ⟨by decide +kernel, rfl⟩
theorem eX6_noLend_69 : zD cX6_noLend 69 (.iload_n 1) 1 70 := ⟨by decide +kernel, rfl⟩
theorem eX6_noLend_70 : zD cX6_noLend 70 (.iload_n 2) 1 71 := ⟨by decide +kernel, rfl⟩
theorem eX6_noLend_71 : zD cX6_noLend 71 (.iload_n 3) 1 72 := ⟨by decide +kernel, rfl⟩
theorem eX6_noLend_72 : zD cX6_noLend 72 (.invokevirtual 148) 3 75 := ⟨by decide +kernel, rfl⟩
theorem eX6_noLend_75 : zD cX6_noLend 75 (.istore 5) 2 77 := ⟨by decide +kernel, rfl⟩
theorem eX6_noLend_77 : zD cX6_noLend 77 (.iload 5) 2 79 := ⟨by decide +kernel, rfl⟩
theorem eX6_noLend_79 : zJ cX6_noLend 79 (.ifCond .ne (7)) (7) 86 3 82 := ⟨by decide +kernel, rfl, by decide⟩
theorem eX6_noLend_82 : zD cX6_noLend 82 (.iconst 0) 1 83 := ⟨by decide +kernel, rfl⟩
theorem eX6_noLend_83 : zJ cX6_noLend 83 (.goto (9)) (9) 92 3 86 := ⟨by decide +kernel, rfl, by decide⟩
theorem eX6_noLend_86 : zD cX6_noLend 86 (.aload_n 0) 1 87 := ⟨by decide +kernel, rfl⟩
theorem eX6_noLend_87 : zD cX6_noLend 87 (.iload 5) 2 89 := ⟨by decide +kernel, rfl⟩
theorem eX6_noLend_89 : zD cX6_noLend 89 (.invokevirtual 129) 3 92 := ⟨by decide +kernel, rfl⟩
theorem eX6_noLend_92 : zD cX6_noLend 92 (.ireturn) 1 93 := ⟨by decide +kernel, rfl⟩
theorem eX6_doLend_0 : zD cX6_doLend 0 (.aload_n 0) 1 1 := ⟨by decide +kernel, rfl⟩
theorem eX6_doLend_1 : zD cX6_doLend 1 (.bipush 12) 2 3 := ⟨by decide +kernel, rfl⟩
theorem eX6_doLend_3 : zD cX6_doLend 3 (.invokevirtual 60) 3 6 := ⟨by decide +kernel, rfl⟩
theorem eX6_doLend_6 : zD cX6_doLend 6 (.istore 5) 2 8 := ⟨by decide +kernel, rfl⟩
theorem eX6_doLend_8 : zD cX6_doLend 8 (.aload_n 0) 1 9 := ⟨by decide +kernel, rfl⟩
theorem eX6_doLend_9 : zD cX6_doLend 9 (.getfield 7) 3 12 := ⟨by decide +kernel, rfl⟩
theorem eX6_doLend_12 : zD cX6_doLend 12 (.iload 5) 2 14 := ⟨by decide +kernel, rfl⟩
theorem eX6_doLend_14 : zD cX6_doLend 14 (.iconst 0) 1 15 := ⟨by decide +kernel, rfl⟩
theorem eX6_doLend_15 : zD cX6_doLend 15 (.invokestatic 138) 3 18 := ⟨by decide +kernel, rfl⟩
theorem eX6_doLend_18 : zD cX6_doLend 18 (.iload_n 1) 1 19 := ⟨by decide +kernel, rfl⟩
theorem eX6_doLend_19 : zD cX6_doLend 19 (.i2l) 1 20 := ⟨by decide +kernel, rfl⟩
theorem eX6_doLend_20 : zD cX6_doLend 20 (.lastore) 1 21 := ⟨by decide +kernel, rfl⟩
theorem eX6_doLend_21 : zD cX6_doLend 21 (.aload_n 0) 1 22 := ⟨by decide +kernel, rfl⟩
theorem eX6_doLend_22 : zD cX6_doLend 22 (.getfield 7) 3 25 := ⟨by decide +kernel, rfl⟩
theorem eX6_doLend_25 : zD cX6_doLend 25 (.iload 5) 2 27 := ⟨by decide +kernel, rfl⟩
theorem eX6_doLend_27 : zD cX6_doLend 27 (.iconst 1) 1 28 := ⟨by decide +kernel, rfl⟩
theorem eX6_doLend_28 : zD cX6_doLend 28 (.invokestatic 138) 3 31 := ⟨by decide +kernel, rfl⟩
theorem eX6_doLend_31 : zD cX6_doLend 31 (.iload_n 2) 1 32 := ⟨by decide +kernel, rfl⟩
theorem eX6_doLend_32 : zD cX6_doLend 32 (.i2l) 1 33 := ⟨by decide +kernel, rfl⟩
theorem eX6_doLend_33 : zD cX6_doLend 33 (.lastore) 1 34 := ⟨by decide +kernel, rfl⟩
theorem eX6_doLend_34 : zD cX6_doLend 34 (.aload_n 0) 1 35 := ⟨by decide +kernel, rfl⟩
theorem eX6_doLend_35 : zD cX6_doLend 35 (.getfield 7) 3 38 := ⟨by decide +kernel, rfl⟩
theorem eX6_doLend_38 : zD cX6_doLend 38 (.iload 5) 2 40 := ⟨by decide +kernel, rfl⟩
theorem eX6_doLend_40 : zD cX6_doLend 40 (.iconst 2) 1 41 := ⟨by decide +kernel, rfl⟩
theorem eX6_doLend_41 : zD cX6_doLend 41 (.invokestatic 138) 3 44 := ⟨by decide +kernel, rfl⟩
theorem eX6_doLend_44 : zD cX6_doLend 44 (.iload_n 3) 1 45 := ⟨by decide +kernel, rfl⟩
theorem eX6_doLend_45 : zD cX6_doLend 45 (.i2l) 1 46 := ⟨by decide +kernel, rfl⟩
theorem eX6_doLend_46 : zD cX6_doLend 46 (.lastore) 1 47 := ⟨by decide +kernel, rfl⟩
theorem eX6_doLend_47 : zD cX6_doLend 47 (.aload_n 0) 1 48 := ⟨by decide +kernel, rfl⟩
theorem eX6_doLend_48 : zD cX6_doLend 48 (.getfield 7) 3 51 := ⟨by decide +kernel, rfl⟩
theorem eX6_doLend_51 : zD cX6_doLend 51 (.iload 5) 2 53 := ⟨by decide +kernel, rfl⟩
theorem eX6_doLend_53 : zD cX6_doLend 53 (.iconst 3) 1 54 := ⟨by decide +kernel, rfl⟩
theorem eX6_doLend_54 : zD cX6_doLend 54 (.invokestatic 138) 3 57 := ⟨by decide +kernel, rfl⟩
theorem eX6_doLend_57 : zD cX6_doLend 57 (.iload_n 3) 1 58 := ⟨by decide +kernel, rfl⟩
theorem eX6_doLend_58 : zD cX6_doLend 58 (.i2l) 1 59 := ⟨by decide +kernel, rfl⟩
theorem eX6_doLend_59 : zD cX6_doLend 59 (.iload_n 3) 1 60 := ⟨by decide +kernel, rfl⟩
theorem eX6_doLend_60 : zD cX6_doLend 60 (.i2l) 1 61 := ⟨by decide +kernel, rfl⟩
theorem eX6_doLend_61 : zD cX6_doLend 61 (.aload_n 0) 1 62 := ⟨by decide +kernel, rfl⟩
theorem eX6_doLend_62 : zD cX6_doLend 62 (.getfield 7) 3 65 := ⟨by decide +kernel, rfl⟩
theorem eX6_doLend_65 : zD cX6_doLend 65 (.iconst 2) 1 66 := ⟨by decide +kernel, rfl⟩
theorem eX6_doLend_66 : zD cX6_doLend 66 (.laload) 1 67 := ⟨by decide +kernel, rfl⟩
theorem eX6_doLend_67 : zD cX6_doLend 67 (.lmul) 1 68 := ⟨by decide +kernel, rfl⟩
theorem eX6_doLend_68 : zD cX6_doLend 68 (.ldc2_w 80) 3 71 := ⟨by decide +kernel, rfl⟩
theorem eX6_doLend_71 : zD cX6_doLend 71 (.ldiv) 1 72 := ⟨by decide +kernel, rfl⟩
theorem eX6_doLend_72 : zD cX6_doLend 72 (.ladd) 1 73 := ⟨by decide +kernel, rfl⟩
theorem eX6_doLend_73 : zD cX6_doLend 73 (.lastore) 1 74 := ⟨by decide +kernel, rfl⟩
theorem eX6_doLend_74 : zD cX6_doLend 74 (.aload_n 0) 1 75 := ⟨by decide +kernel, rfl⟩
theorem eX6_doLend_75 : zD cX6_doLend 75 (.getfield 7) 3 78 := ⟨by decide +kernel, rfl⟩
theorem eX6_doLend_78 : zD cX6_doLend 78 (.iload 5) 2 80 := ⟨by decide +kernel, rfl⟩
theorem eX6_doLend_80 : zD cX6_doLend 80 (.iconst 4) 1 81 := ⟨by decide +kernel, rfl⟩
theorem eX6_doLend_81 : zD cX6_doLend 81 (.invokestatic 138) 3 84 := ⟨by decide +kernel, rfl⟩
theorem eX6_doLend_84 : zD cX6_doLend 84 (.aload_n 0) 1 85 := ⟨by decide +kernel, rfl⟩
theorem eX6_doLend_85 : zD cX6_doLend 85 (.getfield 7) 3 88 := ⟨by decide +kernel, rfl⟩
theorem eX6_doLend_88 : zD cX6_doLend 88 (.bipush 9) 2 90 := ⟨by decide +kernel, rfl⟩
theorem eX6_doLend_90 : zD cX6_doLend 90 (.laload) 1 91 := ⟨by decide +kernel, rfl⟩
theorem eX6_doLend_91 : zD cX6_doLend 91 (.iload 4) 2 93 := ⟨by decide +kernel, rfl⟩
theorem eX6_doLend_93 : zD cX6_doLend 93 (.i2l) 1 94 := ⟨by decide +kernel, rfl⟩
theorem eX6_doLend_94 : zD cX6_doLend 94 (.ladd) 1 95 := ⟨by decide +kernel, rfl⟩
theorem eX6_doLend_95 : zD cX6_doLend 95 (.lastore) 1 96 := ⟨by decide +kernel, rfl⟩
theorem eX6_doLend_96 : zD cX6_doLend 96 (.aload_n 0) 1 97 := ⟨by decide +kernel, rfl⟩
theorem eX6_doLend_97 : zD cX6_doLend 97 (.getfield 7) 3 100 := ⟨by decide +kernel, rfl⟩
theorem eX6_doLend_100 : zD cX6_doLend 100 (.bipush 12) 2 102 := ⟨by decide +kernel, rfl⟩
theorem eX6_doLend_102 : zD cX6_doLend 102 (.dup2) 1 103 := ⟨by decide +kernel, rfl⟩
theorem eX6_doLend_103 : zD cX6_doLend 103 (.laload) 1 104 := ⟨by decide +kernel, rfl⟩
theorem eX6_doLend_104 : zD cX6_doLend 104 (.lconst 1) 1 105 := ⟨by decide +kernel, rfl⟩
theorem eX6_doLend_105 : zD cX6_doLend 105 (.ladd) 1 106 := ⟨by decide +kernel, rfl⟩
theorem eX6_doLend_106 : zD cX6_doLend 106 (.lastore) 1 107 := ⟨by decide +kernel, rfl⟩
theorem eX6_doLend_107 : zD cX6_doLend 107 (.aload_n 0) 1 108 := ⟨by decide +kernel, rfl⟩
theorem eX6_doLend_108 : zD cX6_doLend 108 (.getfield 7) 3 111 := ⟨by decide +kernel, rfl⟩
theorem eX6_doLend_111 : zD cX6_doLend 111 (.iload_n 1) 1 112 := ⟨by decide +kernel, rfl⟩
theorem eX6_doLend_112 : zD cX6_doLend 112 (.iconst 5) 1 113 := ⟨by decide +kernel, rfl⟩
theorem eX6_doLend_113 : zD cX6_doLend 113 (.invokestatic 105) 3 116 := ⟨by decide +kernel, rfl⟩
theorem eX6_doLend_116 : zD cX6_doLend 116 (.dup2) 1 117 := ⟨by decide +kernel, rfl⟩
theorem eX6_doLend_117 : zD cX6_doLend 117 (.laload) 1 118 := ⟨by decide +kernel, rfl⟩
theorem eX6_doLend_118 : zD cX6_doLend 118 (.iload_n 3) 1 119 := ⟨by decide +kernel, rfl⟩
theorem eX6_doLend_119 : zD cX6_doLend 119 (.i2l) 1 120 := ⟨by decide +kernel, rfl⟩
theorem eX6_doLend_120 : zD cX6_doLend 120 (.ladd) 1 121 := ⟨by decide +kernel, rfl⟩
theorem eX6_doLend_121 : zD cX6_doLend 121 (.lastore) 1 122 := ⟨by decide +kernel, rfl⟩
theorem eX6_doLend_122 : zD cX6_doLend 122 (.aload_n 0) 1 123 := ⟨by decide +kernel, rfl⟩
theorem eX6_doLend_123 : zD cX6_doLend 123 (.getfield 7) 3 126 := ⟨by decide +kernel, rfl⟩
theorem eX6_doLend_126 : zD cX6_doLend 126 (.iload_n 2) 1 127 := ⟨by decide +kernel, rfl⟩
theorem eX6_doLend_127 : zD cX6_doLend 127 (.iconst 1) 1 128 := ⟨by decide +kernel, rfl⟩
theorem eX6_doLend_128 : zD cX6_doLend 128 (.invokestatic 105) 3 131 := ⟨by decide +kernel, rfl⟩
theorem eX6_doLend_131 : zD cX6_doLend 131 (.dup2) 1 132 := ⟨by decide +kernel, rfl⟩
theorem eX6_doLend_132 : zD cX6_doLend 132 (.laload) 1 133 := ⟨by decide +kernel, rfl⟩
theorem eX6_doLend_133 : zD cX6_doLend 133 (.iload_n 3) 1 134 := ⟨by decide +kernel, rfl⟩
theorem eX6_doLend_134 : zD cX6_doLend 134 (.i2l) 1 135 := ⟨by decide +kernel, rfl⟩
theorem eX6_doLend_135 : zD cX6_doLend 135 (.ladd) 1 136 := ⟨by decide +kernel, rfl⟩
theorem eX6_doLend_136 : zD cX6_doLend 136 (.lastore) 1 137 := ⟨by decide +kernel, rfl⟩
theorem eX6_doLend_137 : zD cX6_doLend 137 (.aload_n 0) 1 138 := ⟨by decide +kernel, rfl⟩
theorem eX6_doLend_138 : zD cX6_doLend 138 (.iload_n 1) 1 139 := ⟨by decide +kernel, rfl⟩
theorem eX6_doLend_139 : zD cX6_doLend 139 (.iload_n 3) 1 140 := ⟨by decide +kernel, rfl⟩
theorem eX6_doLend_140 : zD cX6_doLend 140 (.ineg) 1 141 := ⟨by decide +kernel, rfl⟩
theorem eX6_doLend_141 : zD cX6_doLend 141 (.i2l) 1 142 := ⟨by decide +kernel, rfl⟩
theorem eX6_doLend_142 : zD cX6_doLend 142 (.invokevirtual 111) 3 145 := ⟨by decide +kernel, rfl⟩
theorem eX6_doLend_145 : zD cX6_doLend 145 (.aload_n 0) 1 146 := ⟨by decide +kernel, rfl⟩
theorem eX6_doLend_146 : zD cX6_doLend 146 (.iload_n 2) 1 147 := ⟨by decide +kernel, rfl⟩
theorem eX6_doLend_147 : zD cX6_doLend 147 (.iload_n 3) 1 148 := ⟨by decide +kernel, rfl⟩
theorem eX6_doLend_148 : zD cX6_doLend 148 (.i2l) 1 149 := ⟨by decide +kernel, rfl⟩
theorem eX6_doLend_149 : zD cX6_doLend 149 (.invokevirtual 111) 3 152 := ⟨by decide +kernel, rfl⟩
theorem eX6_doLend_152 : zD cX6_doLend 152 (.iload 5) 2 154 := ⟨by decide +kernel, rfl⟩
theorem eX6_doLend_154 : zD cX6_doLend 154 (.ireturn) 1 155 := ⟨by decide +kernel, rfl⟩
theorem eX6_lend_0 : zD cX6_lend 0 (.aload_n 0) 1 1 := ⟨by decide +kernel, rfl⟩
theorem eX6_lend_1 : zD cX6_lend 1 (.iload_n 1) 1 2 := ⟨by decide +kernel, rfl⟩
theorem eX6_lend_2 : zD cX6_lend 2 (.iload_n 2) 1 3 := ⟨by decide +kernel, rfl⟩
theorem eX6_lend_3 : zD cX6_lend 3 (.iload_n 3) 1 4 := ⟨by decide +kernel, rfl⟩
theorem eX6_lend_4 : zD cX6_lend 4 (.iload 4) 2 6 := ⟨by decide +kernel, rfl⟩
theorem eX6_lend_6 : zD cX6_lend 6 (.invokevirtual 151) 3 9 := ⟨by decide +kernel, rfl⟩
theorem eX6_lend_9 : zD cX6_lend 9 (.istore 5) 2 11 := ⟨by decide +kernel, rfl⟩
theorem eX6_lend_11 : zD cX6_lend 11 (.iload 5) 2 13 := ⟨by decide +kernel, rfl⟩
theorem eX6_lend_13 : zJ cX6_lend 13 (.ifCond .eq (6)) (6) 19 3 16 := ⟨by decide +kernel, rfl, by decide⟩
theorem eX6_lend_16 : zD cX6_lend 16 (.iload 5) 2 18 := ⟨by decide +kernel, rfl⟩
theorem eX6_lend_18 : zD cX6_lend 18 (.ireturn) 1 19 := ⟨by decide +kernel, rfl⟩
theorem eX6_lend_19 : zD cX6_lend 19 (.aload_n 0) 1 20 := ⟨by decide +kernel, rfl⟩
theorem eX6_lend_20 : zD cX6_lend 20 (.invokevirtual 64) 3 23 := ⟨by decide +kernel, rfl⟩
theorem eX6_lend_23 : zD cX6_lend 23 (.aload_n 0) 1 24 := ⟨by decide +kernel, rfl⟩
theorem eX6_lend_24 : zD cX6_lend 24 (.iload_n 1) 1 25 := ⟨by decide +kernel, rfl⟩
theorem eX6_lend_25 : zD cX6_lend 25 (.iload_n 2) 1 26 := ⟨by decide +kernel, rfl⟩
theorem eX6_lend_26 : zD cX6_lend 26 (.iload_n 3) 1 27 := ⟨by decide +kernel, rfl⟩
theorem eX6_lend_27 : zD cX6_lend 27 (.iload 4) 2 29 := ⟨by decide +kernel, rfl⟩
theorem eX6_lend_29 : zD cX6_lend 29 (.invokevirtual 155) 3 32 := ⟨by decide +kernel, rfl⟩
theorem eX6_lend_32 : zD cX6_lend 32 (.ireturn) 1 33 := ⟨by decide +kernel, rfl⟩
theorem eX6_pay_0 : zD cX6_pay 0 (.aload_n 0) 1 1 := ⟨by decide +kernel, rfl⟩
theorem eX6_pay_1 : zD cX6_pay 1 (.iload_n 1) 1 2 := ⟨by decide +kernel, rfl⟩
theorem eX6_pay_2 : zD cX6_pay 2 (.iconst 0) 1 3 := ⟨by decide +kernel, rfl⟩
theorem eX6_pay_3 : zD cX6_pay 3 (.invokestatic 138) 3 6 := ⟨by decide +kernel, rfl⟩
theorem eX6_pay_6 : zD cX6_pay 6 (.invokevirtual 60) 3 9 := ⟨by decide +kernel, rfl⟩
theorem eX6_pay_9 : zD cX6_pay 9 (.istore_n 2) 1 10 := ⟨by decide +kernel, rfl⟩
theorem eX6_pay_10 : zD cX6_pay 10 (.aload_n 0) 1 11 := ⟨by decide +kernel, rfl⟩
theorem eX6_pay_11 : zD cX6_pay 11 (.iload_n 1) 1 12 := ⟨by decide +kernel, rfl⟩
theorem eX6_pay_12 : zD cX6_pay 12 (.iconst 1) 1 13 := ⟨by decide +kernel, rfl⟩
theorem eX6_pay_13 : zD cX6_pay 13 (.invokestatic 138) 3 16 := ⟨by decide +kernel, rfl⟩
theorem eX6_pay_16 : zD cX6_pay 16 (.invokevirtual 60) 3 19 := ⟨by decide +kernel, rfl⟩
theorem eX6_pay_19 : zD cX6_pay 19 (.istore_n 3) 1 20 := ⟨by decide +kernel, rfl⟩
theorem eX6_pay_20 : zD cX6_pay 20 (.aload_n 0) 1 21 := ⟨by decide +kernel, rfl⟩
theorem eX6_pay_21 : zD cX6_pay 21 (.getfield 7) 3 24 := ⟨by decide +kernel, rfl⟩
theorem eX6_pay_24 : zD cX6_pay 24 (.iload_n 1) 1 25 := ⟨by decide +kernel, rfl⟩
theorem eX6_pay_25 : zD cX6_pay 25 (.iconst 3) 1 26 := ⟨by decide +kernel, rfl⟩
theorem eX6_pay_26 : zD cX6_pay 26 (.invokestatic 138) 3 29 := ⟨by decide +kernel, rfl⟩
theorem eX6_pay_29 : zD cX6_pay 29 (.laload) 1 30 := ⟨by decide +kernel, rfl⟩
theorem eX6_pay_30 : zD cX6_pay 30 (.lstore 4) 2 32 := ⟨by decide +kernel, rfl⟩
theorem eX6_pay_32 : zD cX6_pay 32 (.aload_n 0) 1 33 := ⟨by decide +kernel, rfl⟩
theorem eX6_pay_33 : zD cX6_pay 33 (.iload_n 3) 1 34 := ⟨by decide +kernel, rfl⟩
theorem eX6_pay_34 : zD cX6_pay 34 (.invokevirtual 90) 3 37 := ⟨by decide +kernel, rfl⟩
theorem eX6_pay_37 : zD cX6_pay 37 (.lconst 0) 1 38 := ⟨by decide +kernel, rfl⟩
theorem eX6_pay_38 : zD cX6_pay 38 (.lcmp) 1 39 := ⟨by decide +kernel, rfl⟩
theorem eX6_pay_39 : zJ cX6_pay 39 (.ifCond .le (11)) (11) 50 3 42 := ⟨by decide +kernel, rfl, by decide⟩
theorem eX6_pay_42 : zD cX6_pay 42 (.aload_n 0) 1 43 := ⟨by decide +kernel, rfl⟩
theorem eX6_pay_43 : zD cX6_pay 43 (.iload_n 3) 1 44 := ⟨by decide +kernel, rfl⟩
theorem eX6_pay_44 : zD cX6_pay 44 (.invokevirtual 90) 3 47 := ⟨by decide +kernel, rfl⟩
theorem eX6_pay_47 : zJ cX6_pay 47 (.goto (4)) (4) 51 3 50 := ⟨by decide +kernel, rfl, by decide⟩
theorem eX6_pay_50 : zD cX6_pay 50 (.lconst 0) 1 51 := ⟨by decide +kernel, rfl⟩
theorem eX6_pay_51 : zD cX6_pay 51 (.lstore 6) 2 53 := ⟨by decide +kernel, rfl⟩
theorem eX6_pay_53 : zD cX6_pay 53 (.lload 4) 2 55 := ⟨by decide +kernel, rfl⟩
theorem eX6_pay_55 : zD cX6_pay 55 (.lload 6) 2 57 := ⟨by decide +kernel, rfl⟩
theorem eX6_pay_57 : zD cX6_pay 57 (.lcmp) 1 58 := ⟨by decide +kernel, rfl⟩
theorem eX6_pay_58 : zJ cX6_pay 58 (.ifCond .ge (8)) (8) 66 3 61 := ⟨by decide +kernel, rfl, by decide⟩
theorem eX6_pay_61 : zD cX6_pay 61 (.lload 4) 2 63 := ⟨by decide +kernel, rfl⟩
theorem eX6_pay_63 : zJ cX6_pay 63 (.goto (5)) (5) 68 3 66 := ⟨by decide +kernel, rfl, by decide⟩
theorem eX6_pay_66 : zD cX6_pay 66 (.lload 6) 2 68 := ⟨by decide +kernel, rfl⟩
theorem eX6_pay_68 : zD cX6_pay 68 (.lstore 8) 2 70 := ⟨by decide +kernel, rfl⟩
theorem eX6_pay_70 : zD cX6_pay 70 (.aload_n 0) 1 71 := ⟨by decide +kernel, rfl⟩
theorem eX6_pay_71 : zD cX6_pay 71 (.getfield 7) 3 74 := ⟨by decide +kernel, rfl⟩
theorem eX6_pay_74 : zD cX6_pay 74 (.iload_n 1) 1 75 := ⟨by decide +kernel, rfl⟩
theorem eX6_pay_75 : zD cX6_pay 75 (.iconst 3) 1 76 := ⟨by decide +kernel, rfl⟩
theorem eX6_pay_76 : zD cX6_pay 76 (.invokestatic 138) 3 79 := ⟨by decide +kernel, rfl⟩
theorem eX6_pay_79 : zD cX6_pay 79 (.dup2) 1 80 := ⟨by decide +kernel, rfl⟩
theorem eX6_pay_80 : zD cX6_pay 80 (.laload) 1 81 := ⟨by decide +kernel, rfl⟩
theorem eX6_pay_81 : zD cX6_pay 81 (.lload 8) 2 83 := ⟨by decide +kernel, rfl⟩
theorem eX6_pay_83 : zD cX6_pay 83 (.lsub) 1 84 := ⟨by decide +kernel, rfl⟩
theorem eX6_pay_84 : zD cX6_pay 84 (.lastore) 1 85 := ⟨by decide +kernel, rfl⟩
theorem eX6_pay_85 : zD cX6_pay 85 (.aload_n 0) 1 86 := ⟨by decide +kernel, rfl⟩
theorem eX6_pay_86 : zD cX6_pay 86 (.getfield 7) 3 89 := ⟨by decide +kernel, rfl⟩
theorem eX6_pay_89 : zD cX6_pay 89 (.iload_n 3) 1 90 := ⟨by decide +kernel, rfl⟩
theorem eX6_pay_90 : zD cX6_pay 90 (.bipush 6) 2 92 := ⟨by decide +kernel, rfl⟩
theorem eX6_pay_92 : zD cX6_pay 92 (.invokestatic 105) 3 95 := ⟨by decide +kernel, rfl⟩
theorem eX6_pay_95 : zD cX6_pay 95 (.dup2) 1 96 := ⟨by decide +kernel, rfl⟩
theorem eX6_pay_96 : zD cX6_pay 96 (.laload) 1 97 := ⟨by decide +kernel, rfl⟩
theorem eX6_pay_97 : zD cX6_pay 97 (.lload 8) 2 99 := ⟨by decide +kernel, rfl⟩
theorem eX6_pay_99 : zD cX6_pay 99 (.ladd) 1 100 := ⟨by decide +kernel, rfl⟩
theorem eX6_pay_100 : zD cX6_pay 100 (.lastore) 1 101 := ⟨by decide +kernel, rfl⟩
theorem eX6_pay_101 : zD cX6_pay 101 (.aload_n 0) 1 102 := ⟨by decide +kernel, rfl⟩
theorem eX6_pay_102 : zD cX6_pay 102 (.getfield 7) 3 105 := ⟨by decide +kernel, rfl⟩
theorem eX6_pay_105 : zD cX6_pay 105 (.iload_n 2) 1 106 := ⟨by decide +kernel, rfl⟩
theorem eX6_pay_106 : zD cX6_pay 106 (.iconst 2) 1 107 := ⟨by decide +kernel, rfl⟩
theorem eX6_pay_107 : zD cX6_pay 107 (.invokestatic 105) 3 110 := ⟨by decide +kernel, rfl⟩
theorem eX6_pay_110 : zD cX6_pay 110 (.dup2) 1 111 := ⟨by decide +kernel, rfl⟩
theorem eX6_pay_111 : zD cX6_pay 111 (.laload) 1 112 := ⟨by decide +kernel, rfl⟩
theorem eX6_pay_112 : zD cX6_pay 112 (.lload 8) 2 114 := ⟨by decide +kernel, rfl⟩
theorem eX6_pay_114 : zD cX6_pay 114 (.ladd) 1 115 := ⟨by decide +kernel, rfl⟩
theorem eX6_pay_115 : zD cX6_pay 115 (.lastore) 1 116 := ⟨by decide +kernel, rfl⟩
theorem eX6_pay_116 : zD cX6_pay 116 (.lload 8) 2 118 := ⟨by decide +kernel, rfl⟩
theorem eX6_pay_118 : zD cX6_pay 118 (.lconst 0) 1 119 := ⟨by decide +kernel, rfl⟩
theorem eX6_pay_119 : zD cX6_pay 119 (.lcmp) 1 120 := ⟨by decide +kernel, rfl⟩
theorem eX6_pay_120 : zJ cX6_pay 120 (.ifCond .le (18)) (18) 138 3 123 := ⟨by decide +kernel, rfl, by decide⟩
theorem eX6_pay_123 : zD cX6_pay 123 (.aload_n 0) 1 124 := ⟨by decide +kernel, rfl⟩
theorem eX6_pay_124 : zD cX6_pay 124 (.iload_n 3) 1 125 := ⟨by decide +kernel, rfl⟩
theorem eX6_pay_125 : zD cX6_pay 125 (.lload 8) 2 127 := ⟨by decide +kernel, rfl⟩
theorem eX6_pay_127 : zD cX6_pay 127 (.lneg) 1 128 := ⟨by decide +kernel, rfl⟩
theorem eX6_pay_128 : zD cX6_pay 128 (.invokevirtual 111) 3 131 := ⟨by decide +kernel, rfl⟩
theorem eX6_pay_131 : zD cX6_pay 131 (.aload_n 0) 1 132 := ⟨by decide +kernel, rfl⟩
theorem eX6_pay_132 : zD cX6_pay 132 (.iload_n 2) 1 133 := ⟨by decide +kernel, rfl⟩
theorem eX6_pay_133 : zD cX6_pay 133 (.lload 8) 2 135 := ⟨by decide +kernel, rfl⟩
theorem eX6_pay_135 : zD cX6_pay 135 (.invokevirtual 111) 3 138 := ⟨by decide +kernel, rfl⟩
theorem eX6_pay_138 : zD cX6_pay 138 (.return_) 1 139 := ⟨by decide +kernel, rfl⟩
theorem eX6_clearLoans_0 : zD cX6_clearLoans 0 (.iconst 0) 1 1 := ⟨by decide +kernel, rfl⟩
theorem eX6_clearLoans_1 : zD cX6_clearLoans 1 (.istore_n 1) 1 2 := ⟨by decide +kernel, rfl⟩
theorem eX6_clearLoans_2 : zD cX6_clearLoans 2 (.iconst 0) 1 3 := ⟨by decide +kernel, rfl⟩
theorem eX6_clearLoans_3 : zD cX6_clearLoans 3 (.istore_n 2) 1 4 := ⟨by decide +kernel, rfl⟩
theorem eX6_clearLoans_4 : zD cX6_clearLoans 4 (.iload_n 2) 1 5 := ⟨by decide +kernel, rfl⟩
theorem eX6_clearLoans_5 : zD cX6_clearLoans 5 (.i2l) 1 6 := ⟨by decide +kernel, rfl⟩
theorem eX6_clearLoans_6 : zD cX6_clearLoans 6 (.aload_n 0) 1 7 := ⟨by decide +kernel, rfl⟩
theorem eX6_clearLoans_7 : zD cX6_clearLoans 7 (.getfield 7) 3 10 := ⟨by decide +kernel, rfl⟩
theorem eX6_clearLoans_10 : zD cX6_clearLoans 10 (.bipush 12) 2 12 := ⟨by decide +kernel, rfl⟩
theorem eX6_clearLoans_12 : zD cX6_clearLoans 12 (.laload) 1 13 := ⟨by decide +kernel, rfl⟩
theorem eX6_clearLoans_13 : zD cX6_clearLoans 13 (.lcmp) 1 14 := ⟨by decide +kernel, rfl⟩
theorem eX6_clearLoans_14 : zJ cX6_clearLoans 14 (.ifCond .ge (60)) (60) 74 3 17 := ⟨by decide +kernel, rfl, by decide⟩
theorem eX6_clearLoans_17 : zD cX6_clearLoans 17 (.aload_n 0) 1 18 := ⟨by decide +kernel, rfl⟩
theorem eX6_clearLoans_18 : zD cX6_clearLoans 18 (.getfield 7) 3 21 := ⟨by decide +kernel, rfl⟩
theorem eX6_clearLoans_21 : zD cX6_clearLoans 21 (.iload_n 2) 1 22 := ⟨by decide +kernel, rfl⟩
theorem eX6_clearLoans_22 : zD cX6_clearLoans 22 (.iconst 3) 1 23 := ⟨by decide +kernel, rfl⟩
theorem eX6_clearLoans_23 : zD cX6_clearLoans 23 (.invokestatic 138) 3 26 := ⟨by decide +kernel, rfl⟩
theorem eX6_clearLoans_26 : zD cX6_clearLoans 26 (.laload) 1 27 := ⟨by decide +kernel, rfl⟩
theorem eX6_clearLoans_27 : zD cX6_clearLoans 27 (.lconst 0) 1 28 := ⟨by decide +kernel, rfl⟩
theorem eX6_clearLoans_28 : zD cX6_clearLoans 28 (.lcmp) 1 29 := ⟨by decide +kernel, rfl⟩
theorem eX6_clearLoans_29 : zJ cX6_clearLoans 29 (.ifCond .le (39)) (39) 68 3 32 := ⟨by decide +kernel, rfl, by decide⟩
theorem eX6_clearLoans_32 : zD cX6_clearLoans 32 (.iconst 0) 1 33 := ⟨by decide +kernel, rfl⟩
theorem eX6_clearLoans_33 : zD cX6_clearLoans 33 (.istore_n 3) 1 34 := ⟨by decide +kernel, rfl⟩
theorem eX6_clearLoans_34 : zD cX6_clearLoans 34 (.iload_n 3) 1 35 := ⟨by decide +kernel, rfl⟩
theorem eX6_clearLoans_35 : zD cX6_clearLoans 35 (.iconst 5) 1 36 := ⟨by decide +kernel, rfl⟩
theorem eX6_clearLoans_36 : zJ cX6_clearLoans 36 (.if_icmp .ge (29)) (29) 65 3 39 := ⟨by decide +kernel, rfl, by decide⟩
theorem eX6_clearLoans_39 : zD cX6_clearLoans 39 (.aload_n 0) 1 40 := ⟨by decide +kernel, rfl⟩
theorem eX6_clearLoans_40 : zD cX6_clearLoans 40 (.getfield 7) 3 43 := ⟨by decide +kernel, rfl⟩
theorem eX6_clearLoans_43 : zD cX6_clearLoans 43 (.iload_n 1) 1 44 := ⟨by decide +kernel, rfl⟩
theorem eX6_clearLoans_44 : zD cX6_clearLoans 44 (.iload_n 3) 1 45 := ⟨by decide +kernel, rfl⟩
theorem eX6_clearLoans_45 : zD cX6_clearLoans 45 (.invokestatic 138) 3 48 := ⟨by decide +kernel, rfl⟩
theorem eX6_clearLoans_48 : zD cX6_clearLoans 48 (.aload_n 0) 1 49 := ⟨by decide +kernel, rfl⟩
theorem eX6_clearLoans_49 : zD cX6_clearLoans 49 (.getfield 7) 3 52 := ⟨by decide +kernel, rfl⟩
theorem eX6_clearLoans_52 : zD cX6_clearLoans 52 (.iload_n 2) 1 53 := ⟨by decide +kernel, rfl⟩
theorem eX6_clearLoans_53 : zD cX6_clearLoans 53 (.iload_n 3) 1 54 := ⟨by decide +kernel, rfl⟩
theorem eX6_clearLoans_54 : zD cX6_clearLoans 54 (.invokestatic 138) 3 57 := ⟨by decide +kernel, rfl⟩
theorem eX6_clearLoans_57 : zD cX6_clearLoans 57 (.laload) 1 58 := ⟨by decide +kernel, rfl⟩
theorem eX6_clearLoans_58 : zD cX6_clearLoans 58 (.lastore) 1 59 := ⟨by decide +kernel, rfl⟩
theorem eX6_clearLoans_59 : zD cX6_clearLoans 59 (.iinc 3 1) 3 62 := ⟨by decide +kernel, rfl⟩
theorem eX6_clearLoans_62 : zJ cX6_clearLoans 62 (.goto (-28)) (-28) 34 3 65 := ⟨by decide +kernel, rfl, by decide⟩
theorem eX6_clearLoans_65 : zD cX6_clearLoans 65 (.iinc 1 1) 3 68 := ⟨by decide +kernel, rfl⟩
theorem eX6_clearLoans_68 : zD cX6_clearLoans 68 (.iinc 2 1) 3 71 := ⟨by decide +kernel, rfl⟩
theorem eX6_clearLoans_71 : zJ cX6_clearLoans 71 (.goto (-67)) (-67) 4 3 74 := ⟨by decide +kernel, rfl, by decide⟩
theorem eX6_clearLoans_74 : zD cX6_clearLoans 74 (.aload_n 0) 1 75 := ⟨by decide +kernel, rfl⟩
theorem eX6_clearLoans_75 : zD cX6_clearLoans 75 (.getfield 7) 3 78 := ⟨by decide +kernel, rfl⟩
theorem eX6_clearLoans_78 : zD cX6_clearLoans 78 (.bipush 12) 2 80 := ⟨by decide +kernel, rfl⟩
theorem eX6_clearLoans_80 : zD cX6_clearLoans 80 (.iload_n 1) 1 81 := ⟨by decide +kernel, rfl⟩
theorem eX6_clearLoans_81 : zD cX6_clearLoans 81 (.i2l) 1 82 := ⟨by decide +kernel, rfl⟩
theorem eX6_clearLoans_82 : zD cX6_clearLoans 82 (.lastore) 1 83 := ⟨by decide +kernel, rfl⟩
theorem eX6_clearLoans_83 : zD cX6_clearLoans 83 (.return_) 1 84 := ⟨by decide +kernel, rfl⟩
theorem eX6_isLoan_0 : zD cX6_isLoan 0 (.iload_n 1) 1 1 := ⟨by decide +kernel, rfl⟩
theorem eX6_isLoan_1 : zD cX6_isLoan 1 (.i2l) 1 2 := ⟨by decide +kernel, rfl⟩
theorem eX6_isLoan_2 : zD cX6_isLoan 2 (.lconst 0) 1 3 := ⟨by decide +kernel, rfl⟩
theorem eX6_isLoan_3 : zD cX6_isLoan 3 (.aload_n 0) 1 4 := ⟨by decide +kernel, rfl⟩
theorem eX6_isLoan_4 : zD cX6_isLoan 4 (.getfield 7) 3 7 := ⟨by decide +kernel, rfl⟩
theorem eX6_isLoan_7 : zD cX6_isLoan 7 (.bipush 12) 2 9 := ⟨by decide +kernel, rfl⟩
theorem eX6_isLoan_9 : zD cX6_isLoan 9 (.laload) 1 10 := ⟨by decide +kernel, rfl⟩
theorem eX6_isLoan_10 : zD cX6_isLoan 10 (.lconst 1) 1 11 := ⟨by decide +kernel, rfl⟩
theorem eX6_isLoan_11 : zD cX6_isLoan 11 (.lsub) 1 12 := ⟨by decide +kernel, rfl⟩
theorem eX6_isLoan_12 : zD cX6_isLoan 12 (.invokestatic 56) 3 15 := ⟨by decide +kernel, rfl⟩
theorem eX6_isLoan_15 : zD cX6_isLoan 15 (.ireturn) 1 16 := ⟨by decide +kernel, rfl⟩
theorem eX6_repay_0 : zD cX6_repay 0 (.aload_n 0) 1 1 := ⟨by decide +kernel, rfl⟩
theorem eX6_repay_1 : zD cX6_repay 1 (.iload_n 1) 1 2 := ⟨by decide +kernel, rfl⟩
theorem eX6_repay_2 : zD cX6_repay 2 (.invokevirtual 158) 3 5 := ⟨by decide +kernel, rfl⟩
theorem eX6_repay_5 : zJ cX6_repay 5 (.ifCond .ne (5)) (5) 10 3 8 := ⟨by decide +kernel, rfl, by decide⟩
theorem eX6_repay_8 : zD cX6_repay 8 (.iconst (-1)) 1 9 := ⟨by decide +kernel, rfl⟩
theorem eX6_repay_9 : zD cX6_repay 9 (.ireturn) 1 10 := ⟨by decide +kernel, rfl⟩
theorem eX6_repay_10 : zD cX6_repay 10 (.aload_n 0) 1 11 := ⟨by decide +kernel, rfl⟩
theorem eX6_repay_11 : zD cX6_repay 11 (.invokevirtual 64) 3 14 := ⟨by decide +kernel, rfl⟩
theorem eX6_repay_14 : zD cX6_repay 14 (.aload_n 0) 1 15 := ⟨by decide +kernel, rfl⟩
theorem eX6_repay_15 : zD cX6_repay 15 (.iload_n 1) 1 16 := ⟨by decide +kernel, rfl⟩
theorem eX6_repay_16 : zD cX6_repay 16 (.invokevirtual 161) 3 19 := ⟨by decide +kernel, rfl⟩
theorem eX6_repay_19 : zD cX6_repay 19 (.aload_n 0) 1 20 := ⟨by decide +kernel, rfl⟩
theorem eX6_repay_20 : zD cX6_repay 20 (.iload_n 1) 1 21 := ⟨by decide +kernel, rfl⟩
theorem eX6_repay_21 : zD cX6_repay 21 (.iconst 3) 1 22 := ⟨by decide +kernel, rfl⟩
theorem eX6_repay_22 : zD cX6_repay 22 (.invokestatic 138) 3 25 := ⟨by decide +kernel, rfl⟩
theorem eX6_repay_25 : zD cX6_repay 25 (.invokevirtual 60) 3 28 := ⟨by decide +kernel, rfl⟩
theorem eX6_repay_28 : zD cX6_repay 28 (.istore_n 2) 1 29 := ⟨by decide +kernel, rfl⟩
theorem eX6_repay_29 : zD cX6_repay 29 (.aload_n 0) 1 30 := ⟨by decide +kernel, rfl⟩
theorem eX6_repay_30 : zD cX6_repay 30 (.invokevirtual 165) 3 33 := ⟨by decide +kernel, rfl⟩
theorem eX6_repay_33 : zD cX6_repay 33 (.iload_n 2) 1 34 := ⟨by decide +kernel, rfl⟩
theorem eX6_repay_34 : zD cX6_repay 34 (.ireturn) 1 35 := ⟨by decide +kernel, rfl⟩
theorem eX6_ofPlanAt_0 : zD cX6_ofPlanAt 0 (.sipush 334) 3 3 := ⟨by decide +kernel, rfl⟩
theorem eX6_ofPlanAt_3 : zD cX6_ofPlanAt 3 (.iconst 4) 1 4 := ⟨by decide +kernel, rfl⟩
theorem eX6_ofPlanAt_4 : zD cX6_ofPlanAt 4 (.iload_n 0) 1 5 := ⟨by decide +kernel, rfl⟩
theorem eX6_ofPlanAt_5 : zD cX6_ofPlanAt 5 (.imul) 1 6 := ⟨by decide +kernel, rfl⟩
theorem eX6_ofPlanAt_6 : zD cX6_ofPlanAt 6 (.iadd) 1 7 := ⟨by decide +kernel, rfl⟩
theorem eX6_ofPlanAt_7 : zD cX6_ofPlanAt 7 (.iload_n 1) 1 8 := ⟨by decide +kernel, rfl⟩
theorem eX6_ofPlanAt_8 : zD cX6_ofPlanAt 8 (.iadd) 1 9 := ⟨by decide +kernel, rfl⟩
theorem eX6_ofPlanAt_9 : zD cX6_ofPlanAt 9 (.ireturn) 1 10 := ⟨by decide +kernel, rfl⟩
theorem eX6_isPlan_0 : zD cX6_isPlan 0 (.iload_n 1) 1 1 := ⟨by decide +kernel, rfl⟩
theorem eX6_isPlan_1 : zD cX6_isPlan 1 (.i2l) 1 2 := ⟨by decide +kernel, rfl⟩
theorem eX6_isPlan_2 : zD cX6_isPlan 2 (.lconst 0) 1 3 := ⟨by decide +kernel, rfl⟩
theorem eX6_isPlan_3 : zD cX6_isPlan 3 (.aload_n 0) 1 4 := ⟨by decide +kernel, rfl⟩
theorem eX6_isPlan_4 : zD cX6_isPlan 4 (.getfield 7) 3 7 := ⟨by decide +kernel, rfl⟩
theorem eX6_isPlan_7 : zD cX6_isPlan 7 (.bipush 13) 2 9 := ⟨by decide +kernel, rfl⟩
theorem eX6_isPlan_9 : zD cX6_isPlan 9 (.laload) 1 10 := ⟨by decide +kernel, rfl⟩
theorem eX6_isPlan_10 : zD cX6_isPlan 10 (.lconst 1) 1 11 := ⟨by decide +kernel, rfl⟩
theorem eX6_isPlan_11 : zD cX6_isPlan 11 (.lsub) 1 12 := ⟨by decide +kernel, rfl⟩
theorem eX6_isPlan_12 : zD cX6_isPlan 12 (.invokestatic 56) 3 15 := ⟨by decide +kernel, rfl⟩
theorem eX6_isPlan_15 : zD cX6_isPlan 15 (.ireturn) 1 16 := ⟨by decide +kernel, rfl⟩
theorem eX6_noPlan_0 : zD cX6_noPlan 0 (.aload_n 0) 1 1 := ⟨by decide +kernel, rfl⟩
theorem eX6_noPlan_1 : zD cX6_noPlan 1 (.iload_n 1) 1 2 := ⟨by decide +kernel, rfl⟩
theorem eX6_noPlan_2 : zD cX6_noPlan 2 (.invokevirtual 108) 3 5 := ⟨by decide +kernel, rfl⟩
theorem eX6_noPlan_5 : zJ cX6_noPlan 5 (.ifCond .ne (5)) (5) 10 3 8 := ⟨by decide +kernel, rfl, by decide⟩
theorem eX6_noPlan_8 : zD cX6_noPlan 8 (.iconst (-1)) 1 9 := ⟨by decide +kernel, rfl⟩
theorem eX6_noPlan_9 : zD cX6_noPlan 9 (.ireturn) 1 10 := ⟨by decide +kernel, rfl⟩
theorem eX6_noPlan_10 : zD cX6_noPlan 10 (.iload_n 2) 1 11 := ⟨by decide +kernel, rfl⟩
theorem eX6_noPlan_11 : zD cX6_noPlan 11 (.i2l) 1 12 := ⟨by decide +kernel, rfl⟩
theorem eX6_noPlan_12 : zD cX6_noPlan 12 (.aload_n 0) 1 13 := ⟨by decide +kernel, rfl⟩
theorem eX6_noPlan_13 : zD cX6_noPlan 13 (.getfield 7) 3 16 := ⟨by decide +kernel, rfl⟩
theorem eX6_noPlan_16 : zD cX6_noPlan 16 (.bipush 8) 2 18 := ⟨by decide +kernel, rfl⟩
theorem eX6_noPlan_18 : zD cX6_noPlan 18 (.laload) 1 19 := ⟨by decide +kernel, rfl⟩
theorem eX6_noPlan_19 : zD cX6_noPlan 19 (.lconst 1) 1 20 := ⟨by decide +kernel, rfl⟩
theorem eX6_noPlan_20 : zD cX6_noPlan 20 (.ladd) 1 21 := ⟨by decide +kernel, rfl⟩
theorem eX6_noPlan_21 : zD cX6_noPlan 21 (.aload_n 0) 1 22 := ⟨by decide +kernel, rfl⟩
theorem eX6_noPlan_22 : zD cX6_noPlan 22 (.getfield 7) 3 25 := ⟨by decide +kernel, rfl⟩
theorem eX6_noPlan_25 : zD cX6_noPlan 25 (.bipush 8) 2 27 := ⟨by decide +kernel, rfl⟩
theorem eX6_noPlan_27 : zD cX6_noPlan 27 (.laload) 1 28 := ⟨by decide +kernel, rfl⟩
theorem eX6_noPlan_28 : zD cX6_noPlan 28 (.ldc2_w 168) 3 31 := ⟨by decide +kernel, rfl⟩
theorem eX6_noPlan_31 : zD cX6_noPlan 31 (.ladd) 1 32 := ⟨by decide +kernel, rfl⟩
theorem eX6_noPlan_32 : zD cX6_noPlan 32 (.invokestatic 56) 3 35 := ⟨by decide +kernel, rfl⟩
theorem eX6_noPlan_35 : zJ cX6_noPlan 35 (.ifCond .eq (28)) (28) 63 3 38 := ⟨by decide +kernel, rfl, by decide⟩
theorem eX6_noPlan_38 : zD cX6_noPlan 38 (.iload_n 3) 1 39 := ⟨by decide +kernel, rfl⟩
theorem eX6_noPlan_39 : zD cX6_noPlan 39 (.i2l) 1 40 := ⟨by decide +kernel, rfl⟩
theorem eX6_noPlan_40 : zD cX6_noPlan 40 (.lconst 1) 1 41 := ⟨by decide +kernel, rfl⟩
theorem eX6_noPlan_41 : zD cX6_noPlan 41 (.ldc2_w 127) 3 44 := ⟨by decide +kernel, rfl⟩
theorem eX6_noPlan_44 : zD cX6_noPlan 44 (.invokestatic 56) 3 47 := ⟨by decide +kernel, rfl⟩
theorem eX6_noPlan_47 : zJ cX6_noPlan 47 (.ifCond .eq (16)) (16) 63 3 50 := ⟨by decide +kernel, rfl, by decide⟩
theorem eX6_noPlan_50 : zD cX6_noPlan 50 (.iload 4) 2 52 := ⟨by decide +kernel, rfl⟩
theorem eX6_noPlan_52 : zD cX6_noPlan 52 (.i2l) 1 53 := ⟨by decide +kernel, rfl⟩
theorem eX6_noPlan_53 : zD cX6_noPlan 53 (.lconst 0) 1 54 := ⟨by decide +kernel, rfl⟩
theorem eX6_noPlan_54 : zD cX6_noPlan 54 (.ldc2_w 76) 3 57 := ⟨by decide +kernel, rfl⟩
theorem eX6_noPlan_57 : zD cX6_noPlan 57 (.invokestatic 56) 3 60 := ⟨by decide +kernel, rfl⟩
theorem eX6_noPlan_60 : zJ cX6_noPlan 60 (.ifCond .ne (6)) (6) 66 3 63 := ⟨by decide +kernel, rfl, by decide⟩
theorem eX6_noPlan_63 : zD cX6_noPlan 63 (.bipush (-2)) 2 65 := ⟨by decide +kernel, rfl⟩
theorem eX6_noPlan_65 : zD cX6_noPlan 65 (.ireturn) 1 66 := ⟨by decide +kernel, rfl⟩
theorem eX6_noPlan_66 : zD cX6_noPlan 66 (.aload_n 0) 1 67 := ⟨by decide +kernel, rfl⟩
theorem eX6_noPlan_67 : zD cX6_noPlan 67 (.getfield 7) 3 70 := ⟨by decide +kernel, rfl⟩
theorem eX6_noPlan_70 : zD cX6_noPlan 70 (.bipush 13) 2 72 := ⟨by decide +kernel, rfl⟩
theorem eX6_noPlan_72 : zD cX6_noPlan 72 (.laload) 1 73 := ⟨by decide +kernel, rfl⟩
theorem eX6_noPlan_73 : zD cX6_noPlan 73 (.ldc2_w 170) 3 76 := ⟨by decide +kernel, rfl⟩
theorem eX6_noPlan_76 : zD cX6_noPlan 76 (.lcmp) 1 77 := ⟨by decide +kernel, rfl⟩
theorem eX6_noPlan_77 : zJ cX6_noPlan 77 (.ifCond .ne (8)) (8) 85 3 80 := ⟨by decide +kernel, rfl, by decide⟩
theorem eX6_noPlan_80 : zD cX6_noPlan 80 (.bipush (-4)) 2 82 := ⟨by decide +kernel, rfl⟩
theorem eX6_noPlan_82 : zJ cX6_noPlan 82 (.goto (4)) (4) 86 3 85 := ⟨by decide +kernel, rfl, by decide⟩
theorem eX6_noPlan_85 : zD cX6_noPlan 85 (.iconst 0) 1 86 := ⟨by decide +kernel, rfl⟩
theorem eX6_noPlan_86 : zD cX6_noPlan 86 (.ireturn) 1 87 := ⟨by decide +kernel, rfl⟩
theorem eX6_doPlan_0 : zD cX6_doPlan 0 (.aload_n 0) 1 1 := ⟨by decide +kernel, rfl⟩
theorem eX6_doPlan_1 : zD cX6_doPlan 1 (.bipush 13) 2 3 := ⟨by decide +kernel, rfl⟩
theorem eX6_doPlan_3 : zD cX6_doPlan 3 (.invokevirtual 60) 3 6 := ⟨by decide +kernel, rfl⟩
theorem eX6_doPlan_6 : zD cX6_doPlan 6 (.istore 5) 2 8 := ⟨by decide +kernel, rfl⟩
theorem eX6_doPlan_8 : zD cX6_doPlan 8 (.aload_n 0) 1 9 := ⟨by decide +kernel, rfl⟩
theorem eX6_doPlan_9 : zD cX6_doPlan 9 (.getfield 7) 3 12 := ⟨by decide +kernel, rfl⟩
theorem eX6_doPlan_12 : zD cX6_doPlan 12 (.iload 5) 2 14 := ⟨by decide +kernel, rfl⟩
theorem eX6_doPlan_14 : zD cX6_doPlan 14 (.iconst 0) 1 15 := ⟨by decide +kernel, rfl⟩
theorem eX6_doPlan_15 : zD cX6_doPlan 15 (.invokestatic 172) 3 18 := ⟨by decide +kernel, rfl⟩
theorem eX6_doPlan_18 : zD cX6_doPlan 18 (.iload_n 1) 1 19 := ⟨by decide +kernel, rfl⟩
theorem eX6_doPlan_19 : zD cX6_doPlan 19 (.i2l) 1 20 := ⟨by decide +kernel, rfl⟩
theorem eX6_doPlan_20 : zD cX6_doPlan 20 (.lastore) 1 21 := ⟨by decide +kernel, rfl⟩
theorem eX6_doPlan_21 : zD cX6_doPlan 21 (.aload_n 0) 1 22 := ⟨by decide +kernel, rfl⟩
theorem eX6_doPlan_22 : zD cX6_doPlan 22 (.getfield 7) 3 25 := ⟨by decide +kernel, rfl⟩
theorem eX6_doPlan_25 : zD cX6_doPlan 25 (.iload 5) 2 27 := ⟨by decide +kernel, rfl⟩
theorem eX6_doPlan_27 : zD cX6_doPlan 27 (.iconst 1) 1 28 := ⟨by decide +kernel, rfl⟩
theorem eX6_doPlan_28 : zD cX6_doPlan 28 (.invokestatic 172) 3 31 := ⟨by decide +kernel, rfl⟩
theorem eX6_doPlan_31 : zD cX6_doPlan 31 (.iload_n 2) 1 32 := ⟨by decide +kernel, rfl⟩
theorem eX6_doPlan_32 : zD cX6_doPlan 32 (.i2l) 1 33 := ⟨by decide +kernel, rfl⟩
theorem eX6_doPlan_33 : zD cX6_doPlan 33 (.lastore) 1 34 := ⟨by decide +kernel, rfl⟩
theorem eX6_doPlan_34 : zD cX6_doPlan 34 (.aload_n 0) 1 35 := ⟨by decide +kernel, rfl⟩
theorem eX6_doPlan_35 : zD cX6_doPlan 35 (.getfield 7) 3 38 := ⟨by decide +kernel, rfl⟩
theorem eX6_doPlan_38 : zD cX6_doPlan 38 (.iload 5) 2 40 := ⟨by decide +kernel, rfl⟩
theorem eX6_doPlan_40 : zD cX6_doPlan 40 (.iconst 2) 1 41 := ⟨by decide +kernel, rfl⟩
theorem eX6_doPlan_41 : zD cX6_doPlan 41 (.invokestatic 172) 3 44 := ⟨by decide +kernel, rfl⟩
theorem eX6_doPlan_44 : zD cX6_doPlan 44 (.iload_n 3) 1 45 := ⟨by decide +kernel, rfl⟩
theorem eX6_doPlan_45 : zD cX6_doPlan 45 (.i2l) 1 46 := ⟨by decide +kernel, rfl⟩
theorem eX6_doPlan_46 : zD cX6_doPlan 46 (.lastore) 1 47 := ⟨by decide +kernel, rfl⟩
theorem eX6_doPlan_47 : zD cX6_doPlan 47 (.aload_n 0) 1 48 := ⟨by decide +kernel, rfl⟩
theorem eX6_doPlan_48 : zD cX6_doPlan 48 (.getfield 7) 3 51 := ⟨by decide +kernel, rfl⟩
theorem eX6_doPlan_51 : zD cX6_doPlan 51 (.iload 5) 2 53 := ⟨by decide +kernel, rfl⟩
theorem eX6_doPlan_53 : zD cX6_doPlan 53 (.iconst 3) 1 54 := ⟨by decide +kernel, rfl⟩
theorem eX6_doPlan_54 : zD cX6_doPlan 54 (.invokestatic 172) 3 57 := ⟨by decide +kernel, rfl⟩
theorem eX6_doPlan_57 : zD cX6_doPlan 57 (.iload 4) 2 59 := ⟨by decide +kernel, rfl⟩
theorem eX6_doPlan_59 : zD cX6_doPlan 59 (.i2l) 1 60 := ⟨by decide +kernel, rfl⟩
theorem eX6_doPlan_60 : zD cX6_doPlan 60 (.lastore) 1 61 := ⟨by decide +kernel, rfl⟩
theorem eX6_doPlan_61 : zD cX6_doPlan 61 (.aload_n 0) 1 62 := ⟨by decide +kernel, rfl⟩
theorem eX6_doPlan_62 : zD cX6_doPlan 62 (.getfield 7) 3 65 := ⟨by decide +kernel, rfl⟩
theorem eX6_doPlan_65 : zD cX6_doPlan 65 (.bipush 13) 2 67 := ⟨by decide +kernel, rfl⟩
theorem eX6_doPlan_67 : zD cX6_doPlan 67 (.dup2) 1 68 := ⟨by decide +kernel, rfl⟩
theorem eX6_doPlan_68 : zD cX6_doPlan 68 (.laload) 1 69 := ⟨by decide +kernel, rfl⟩
theorem eX6_doPlan_69 : zD cX6_doPlan 69 (.lconst 1) 1 70 := ⟨by decide +kernel, rfl⟩
theorem eX6_doPlan_70 : zD cX6_doPlan 70 (.ladd) 1 71 := ⟨by decide +kernel, rfl⟩
theorem eX6_doPlan_71 : zD cX6_doPlan 71 (.lastore) 1 72 := ⟨by decide +kernel, rfl⟩
theorem eX6_doPlan_72 : zD cX6_doPlan 72 (.iload 5) 2 74 := ⟨by decide +kernel, rfl⟩
theorem eX6_doPlan_74 : zD cX6_doPlan 74 (.ireturn) 1 75 := ⟨by decide +kernel, rfl⟩
theorem eX6_plan_0 : zD cX6_plan 0 (.aload_n 0) 1 1 := ⟨by decide +kernel, rfl⟩
theorem eX6_plan_1 : zD cX6_plan 1 (.iload_n 1) 1 2 := ⟨by decide +kernel, rfl⟩
theorem eX6_plan_2 : zD cX6_plan 2 (.iload_n 2) 1 3 := ⟨by decide +kernel, rfl⟩
theorem eX6_plan_3 : zD cX6_plan 3 (.iload_n 3) 1 4 := ⟨by decide +kernel, rfl⟩
theorem eX6_plan_4 : zD cX6_plan 4 (.iload 4) 2 6 := ⟨by decide +kernel, rfl⟩
theorem eX6_plan_6 : zD cX6_plan 6 (.invokevirtual 175) 3 9 := ⟨by decide +kernel, rfl⟩
theorem eX6_plan_9 : zD cX6_plan 9 (.istore 5) 2 11 := ⟨by decide +kernel, rfl⟩
theorem eX6_plan_11 : zD cX6_plan 11 (.iload 5) 2 13 := ⟨by decide +kernel, rfl⟩
theorem eX6_plan_13 : zJ cX6_plan 13 (.ifCond .eq (6)) (6) 19 3 16 := ⟨by decide +kernel, rfl, by decide⟩
theorem eX6_plan_16 : zD cX6_plan 16 (.iload 5) 2 18 := ⟨by decide +kernel, rfl⟩
theorem eX6_plan_18 : zD cX6_plan 18 (.ireturn) 1 19 := ⟨by decide +kernel, rfl⟩
theorem eX6_plan_19 : zD cX6_plan 19 (.aload_n 0) 1 20 := ⟨by decide +kernel, rfl⟩
theorem eX6_plan_20 : zD cX6_plan 20 (.invokevirtual 64) 3 23 := ⟨by decide +kernel, rfl⟩
theorem eX6_plan_23 : zD cX6_plan 23 (.aload_n 0) 1 24 := ⟨by decide +kernel, rfl⟩
theorem eX6_plan_24 : zD cX6_plan 24 (.iload_n 1) 1 25 := ⟨by decide +kernel, rfl⟩
theorem eX6_plan_25 : zD cX6_plan 25 (.iload_n 2) 1 26 := ⟨by decide +kernel, rfl⟩
theorem eX6_plan_26 : zD cX6_plan 26 (.iload_n 3) 1 27 := ⟨by decide +kernel, rfl⟩
theorem eX6_plan_27 : zD cX6_plan 27 (.iload 4) 2 29 := ⟨by decide +kernel, rfl⟩
theorem eX6_plan_29 : zD cX6_plan 29 (.invokevirtual 178) 3 32 := ⟨by decide +kernel, rfl⟩
theorem eX6_plan_32 : zD cX6_plan 32 (.ireturn) 1 33 := ⟨by decide +kernel, rfl⟩
theorem eX6_clearPlans_0 : zD cX6_clearPlans 0 (.iconst 0) 1 1 := ⟨by decide +kernel, rfl⟩
theorem eX6_clearPlans_1 : zD cX6_clearPlans 1 (.istore_n 1) 1 2 := ⟨by decide +kernel, rfl⟩
theorem eX6_clearPlans_2 : zD cX6_clearPlans 2 (.aload_n 0) 1 3 := ⟨by decide +kernel, rfl⟩
theorem eX6_clearPlans_3 : zD cX6_clearPlans 3 (.getfield 21) 3 6 := ⟨by decide +kernel, rfl⟩
theorem eX6_clearPlans_6 : zD cX6_clearPlans 6 (.istore_n 2) 1 7 := ⟨by decide +kernel, rfl⟩
theorem eX6_clearPlans_7 : zD cX6_clearPlans 7 (.iconst 0) 1 8 := ⟨by decide +kernel, rfl⟩
theorem eX6_clearPlans_8 : zD cX6_clearPlans 8 (.istore_n 3) 1 9 := ⟨by decide +kernel, rfl⟩
theorem eX6_clearPlans_9 : zD cX6_clearPlans 9 (.iload_n 3) 1 10 := ⟨by decide +kernel, rfl⟩
theorem eX6_clearPlans_10 : zD cX6_clearPlans 10 (.i2l) 1 11 := ⟨by decide +kernel, rfl⟩
theorem eX6_clearPlans_11 : zD cX6_clearPlans 11 (.aload_n 0) 1 12 := ⟨by decide +kernel, rfl⟩
theorem eX6_clearPlans_12 : zD cX6_clearPlans 12 (.getfield 7) 3 15 := ⟨by decide +kernel, rfl⟩
theorem eX6_clearPlans_15 : zD cX6_clearPlans 15 (.bipush 13) 2 17 := ⟨by decide +kernel, rfl⟩
theorem eX6_clearPlans_17 : zD cX6_clearPlans 17 (.laload) 1 18 := ⟨by decide +kernel, rfl⟩
theorem eX6_clearPlans_18 : zD cX6_clearPlans 18 (.lcmp) 1 19 := ⟨by decide +kernel, rfl⟩
theorem eX6_clearPlans_19 : zJ cX6_clearPlans 19 (.ifCond .ge (96)) (96) 115 3 22 := ⟨by decide +kernel, rfl, by decide⟩
theorem eX6_clearPlans_22 : zD cX6_clearPlans 22 (.iload_n 3) 1 23 := ⟨by decide +kernel, rfl⟩
theorem eX6_clearPlans_23 : zD cX6_clearPlans 23 (.iload_n 2) 1 24 := ⟨by decide +kernel, rfl⟩
theorem eX6_clearPlans_24 : zJ cX6_clearPlans 24 (.if_icmp .ne (22)) (22) 46 3 27 := ⟨by decide +kernel, rfl, by decide⟩
theorem eX6_clearPlans_27 : zD cX6_clearPlans 27 (.aload_n 0) 1 28 := ⟨by decide +kernel, rfl⟩
theorem eX6_clearPlans_28 : zD cX6_clearPlans 28 (.aload_n 0) 1 29 := ⟨by decide +kernel, rfl⟩
theorem eX6_clearPlans_29 : zD cX6_clearPlans 29 (.getfield 25) 3 32 := ⟨by decide +kernel, rfl⟩
theorem eX6_clearPlans_32 : zD cX6_clearPlans 32 (.iload_n 3) 1 33 := ⟨by decide +kernel, rfl⟩
theorem eX6_clearPlans_33 : zD cX6_clearPlans 33 (.baload) 1 34 := ⟨by decide +kernel, rfl⟩
theorem eX6_clearPlans_34 : zJ cX6_clearPlans 34 (.ifCond .eq (8)) (8) 42 3 37 := ⟨by decide +kernel, rfl, by decide⟩
theorem eX6_clearPlans_37 : zD cX6_clearPlans 37 (.bipush (-6)) 2 39 := ⟨by decide +kernel, rfl⟩
theorem eX6_clearPlans_39 : zJ cX6_clearPlans 39 (.goto (4)) (4) 43 3 42 := ⟨by decide +kernel, rfl, by decide⟩
theorem eX6_clearPlans_42 : zD cX6_clearPlans 42 (.iload_n 1) 1 43 := ⟨by decide +kernel, rfl⟩
theorem eX6_clearPlans_43 : zD cX6_clearPlans 43 (.putfield 21) 3 46 := ⟨by decide +kernel, rfl⟩
theorem eX6_clearPlans_46 : zD cX6_clearPlans 46 (.aload_n 0) 1 47 := ⟨by decide +kernel, rfl⟩
theorem eX6_clearPlans_47 : zD cX6_clearPlans 47 (.getfield 25) 3 50 := ⟨by decide +kernel, rfl⟩
theorem eX6_clearPlans_50 : zD cX6_clearPlans 50 (.iload_n 3) 1 51 := ⟨by decide +kernel, rfl⟩
theorem eX6_clearPlans_51 : zD cX6_clearPlans 51 (.baload) 1 52 := ⟨by decide +kernel, rfl⟩
theorem eX6_clearPlans_52 : zJ cX6_clearPlans 52 (.ifCond .ne (43)) (43) 95 3 55 := ⟨by decide +kernel, rfl, by decide⟩
theorem eX6_clearPlans_55 : zD cX6_clearPlans 55 (.iconst 0) 1 56 := ⟨by decide +kernel, rfl⟩
theorem eX6_clearPlans_56 : zD cX6_clearPlans 56 (.istore 4) 2 58 := ⟨by decide +kernel, rfl⟩
theorem eX6_clearPlans_58 : zD cX6_clearPlans 58 (.iload 4) 2 60 := ⟨by decide +kernel, rfl⟩
theorem eX6_clearPlans_60 : zD cX6_clearPlans 60 (.iconst 4) 1 61 := ⟨by decide +kernel, rfl⟩
theorem eX6_clearPlans_61 : zJ cX6_clearPlans 61 (.if_icmp .ge (31)) (31) 92 3 64 := ⟨by decide +kernel, rfl, by decide⟩
theorem eX6_clearPlans_64 : zD cX6_clearPlans 64 (.aload_n 0) 1 65 := ⟨by decide +kernel, rfl⟩
theorem eX6_clearPlans_65 : zD cX6_clearPlans 65 (.getfield 7) 3 68 := ⟨by decide +kernel, rfl⟩
theorem eX6_clearPlans_68 : zD cX6_clearPlans 68 (.iload_n 1) 1 69 := ⟨by decide +kernel, rfl⟩
theorem eX6_clearPlans_69 : zD cX6_clearPlans 69 (.iload 4) 2 71 := ⟨by decide +kernel, rfl⟩
theorem eX6_clearPlans_71 : zD cX6_clearPlans 71 (.invokestatic 172) 3 74 := ⟨by decide +kernel, rfl⟩
theorem eX6_clearPlans_74 : zD cX6_clearPlans 74 (.aload_n 0) 1 75 := ⟨by decide +kernel, rfl⟩
theorem eX6_clearPlans_75 : zD cX6_clearPlans 75 (.getfield 7) 3 78 := ⟨by decide +kernel, rfl⟩
theorem eX6_clearPlans_78 : zD cX6_clearPlans 78 (.iload_n 3) 1 79 := ⟨by decide +kernel, rfl⟩
theorem eX6_clearPlans_79 : zD cX6_clearPlans 79 (.iload 4) 2 81 := ⟨by decide +kernel, rfl⟩
theorem eX6_clearPlans_81 : zD cX6_clearPlans 81 (.invokestatic 172) 3 84 := ⟨by decide +kernel, rfl⟩
theorem eX6_clearPlans_84 : zD cX6_clearPlans 84 (.laload) 1 85 := ⟨by decide +kernel, rfl⟩
theorem eX6_clearPlans_85 : zD cX6_clearPlans 85 (.lastore) 1 86 := ⟨by decide +kernel, rfl⟩
theorem eX6_clearPlans_86 : zD cX6_clearPlans 86 (.iinc 4 1) 3 89 := ⟨by decide +kernel, rfl⟩
theorem eX6_clearPlans_89 : zJ cX6_clearPlans 89 (.goto (-31)) (-31) 58 3 92 := ⟨by decide +kernel, rfl, by decide⟩
theorem eX6_clearPlans_92 : zD cX6_clearPlans 92 (.iinc 1 1) 3 95 := ⟨by decide +kernel, rfl⟩
theorem eX6_clearPlans_95 : zD cX6_clearPlans 95 (.aload_n 0) 1 96 := ⟨by decide +kernel, rfl⟩
theorem eX6_clearPlans_96 : zD cX6_clearPlans 96 (.getfield 25) 3 99 := ⟨by decide +kernel, rfl⟩
theorem eX6_clearPlans_99 : zD cX6_clearPlans 99 (.iload_n 3) 1 100 := ⟨by decide +kernel, rfl⟩
theorem eX6_clearPlans_100 : zD cX6_clearPlans 100 (.iconst 0) 1 101 := ⟨by decide +kernel, rfl⟩
theorem eX6_clearPlans_101 : zD cX6_clearPlans 101 (.bastore) 1 102 := ⟨by decide +kernel, rfl⟩
theorem eX6_clearPlans_102 : zD cX6_clearPlans 102 (.aload_n 0) 1 103 := ⟨by decide +kernel, rfl⟩
theorem eX6_clearPlans_103 : zD cX6_clearPlans 103 (.getfield 28) 3 106 := ⟨by decide +kernel, rfl⟩
theorem eX6_clearPlans_106 : zD cX6_clearPlans 106 (.iload_n 3) 1 107 := ⟨by decide +kernel, rfl⟩
theorem eX6_clearPlans_107 : zD cX6_clearPlans 107 (.iconst 0) 1 108 := ⟨by decide +kernel, rfl⟩
theorem eX6_clearPlans_108 : zD cX6_clearPlans 108 (.bastore) 1 109 := ⟨by decide +kernel, rfl⟩
theorem eX6_clearPlans_109 : zD cX6_clearPlans 109 (.iinc 3 1) 3 112 := ⟨by decide +kernel, rfl⟩
theorem eX6_clearPlans_112 : zJ cX6_clearPlans 112 (.goto (-103)) (-103) 9 3 115 := ⟨by decide +kernel, rfl, by decide⟩
theorem eX6_clearPlans_115 : zD cX6_clearPlans 115 (.aload_n 0) 1 116 := ⟨by decide +kernel, rfl⟩
theorem eX6_clearPlans_116 : zD cX6_clearPlans 116 (.getfield 7) 3 119 := ⟨by decide +kernel, rfl⟩
theorem eX6_clearPlans_119 : zD cX6_clearPlans 119 (.bipush 13) 2 121 := ⟨by decide +kernel, rfl⟩
theorem eX6_clearPlans_121 : zD cX6_clearPlans 121 (.iload_n 1) 1 122 := ⟨by decide +kernel, rfl⟩
theorem eX6_clearPlans_122 : zD cX6_clearPlans 122 (.i2l) 1 123 := ⟨by decide +kernel, rfl⟩
theorem eX6_clearPlans_123 : zD cX6_clearPlans 123 (.lastore) 1 124 := ⟨by decide +kernel, rfl⟩
theorem eX6_clearPlans_124 : zD cX6_clearPlans 124 (.return_) 1 125 := ⟨by decide +kernel, rfl⟩
theorem eX6_doDrop_0 : zD cX6_doDrop 0 (.aload_n 0) 1 1 := ⟨by decide +kernel, rfl⟩
theorem eX6_doDrop_1 : zD cX6_doDrop 1 (.getfield 25) 3 4 := ⟨by decide +kernel, rfl⟩
theorem eX6_doDrop_4 : zD cX6_doDrop 4 (.iload_n 1) 1 5 := ⟨by decide +kernel, rfl⟩
theorem eX6_doDrop_5 : zD cX6_doDrop 5 (.iconst 1) 1 6 := ⟨by decide +kernel, rfl⟩
theorem eX6_doDrop_6 : zD cX6_doDrop 6 (.bastore) 1 7 := ⟨by decide +kernel, rfl⟩
theorem eX6_doDrop_7 : zD cX6_doDrop 7 (.aload_n 0) 1 8 := ⟨by decide +kernel, rfl⟩
theorem eX6_doDrop_8 : zD cX6_doDrop 8 (.invokevirtual 181) 3 11 := ⟨by decide +kernel, rfl⟩
theorem eX6_doDrop_11 : zD cX6_doDrop 11 (.aload_n 0) 1 12 := ⟨by decide +kernel, rfl⟩
theorem eX6_doDrop_12 : zD cX6_doDrop 12 (.bipush 13) 2 14 := ⟨by decide +kernel, rfl⟩
theorem eX6_doDrop_14 : zD cX6_doDrop 14 (.invokevirtual 60) 3 17 := ⟨by decide +kernel, rfl⟩
theorem eX6_doDrop_17 : zD cX6_doDrop 17 (.ireturn) 1 18 := ⟨by decide +kernel, rfl⟩
theorem eX6_drop_0 : zD cX6_drop 0 (.aload_n 0) 1 1 := ⟨by decide +kernel, rfl⟩
theorem eX6_drop_1 : zD cX6_drop 1 (.iload_n 1) 1 2 := ⟨by decide +kernel, rfl⟩
theorem eX6_drop_2 : zD cX6_drop 2 (.invokevirtual 184) 3 5 := ⟨by decide +kernel, rfl⟩
theorem eX6_drop_5 : zJ cX6_drop 5 (.ifCond .ne (5)) (5) 10 3 8 := ⟨by decide +kernel, rfl, by decide⟩
theorem eX6_drop_8 : zD cX6_drop 8 (.iconst (-1)) 1 9 := ⟨by decide +kernel, rfl⟩
theorem eX6_drop_9 : zD cX6_drop 9 (.ireturn) 1 10 := ⟨by decide +kernel, rfl⟩
theorem eX6_drop_10 : zD cX6_drop 10 (.aload_n 0) 1 11 := ⟨by decide +kernel, rfl⟩
theorem eX6_drop_11 : zD cX6_drop 11 (.invokevirtual 64) 3 14 := ⟨by decide +kernel, rfl⟩
theorem eX6_drop_14 : zD cX6_drop 14 (.aload_n 0) 1 15 := ⟨by decide +kernel, rfl⟩
theorem eX6_drop_15 : zD cX6_drop 15 (.iload_n 1) 1 16 := ⟨by decide +kernel, rfl⟩
theorem eX6_drop_16 : zD cX6_drop 16 (.invokevirtual 187) 3 19 := ⟨by decide +kernel, rfl⟩
theorem eX6_drop_19 : zD cX6_drop 19 (.ireturn) 1 20 := ⟨by decide +kernel, rfl⟩
theorem eX6_isAhead_0 : zD cX6_isAhead 0 (.aload_n 0) 1 1 := ⟨by decide +kernel, rfl⟩
theorem eX6_isAhead_1 : zD cX6_isAhead 1 (.getfield 7) 3 4 := ⟨by decide +kernel, rfl⟩
theorem eX6_isAhead_4 : zD cX6_isAhead 4 (.iload_n 1) 1 5 := ⟨by decide +kernel, rfl⟩
theorem eX6_isAhead_5 : zD cX6_isAhead 5 (.iconst 3) 1 6 := ⟨by decide +kernel, rfl⟩
theorem eX6_isAhead_6 : zD cX6_isAhead 6 (.invokestatic 172) 3 9 := ⟨by decide +kernel, rfl⟩
theorem eX6_isAhead_9 : zD cX6_isAhead 9 (.laload) 1 10 := ⟨by decide +kernel, rfl⟩
theorem eX6_isAhead_10 : zD cX6_isAhead 10 (.aload_n 0) 1 11 := ⟨by decide +kernel, rfl⟩
theorem eX6_isAhead_11 : zD cX6_isAhead 11 (.getfield 7) 3 14 := ⟨by decide +kernel, rfl⟩
theorem eX6_isAhead_14 : zD cX6_isAhead 14 (.iload_n 2) 1 15 := ⟨by decide +kernel, rfl⟩
theorem eX6_isAhead_15 : zD cX6_isAhead 15 (.iconst 3) 1 16 := ⟨by decide +kernel, rfl⟩
theorem eX6_isAhead_16 : zD cX6_isAhead 16 (.invokestatic 172) 3 19 := ⟨by decide +kernel, rfl⟩
theorem eX6_isAhead_19 : zD cX6_isAhead 19 (.laload) 1 20 := ⟨by decide +kernel, rfl⟩
theorem eX6_isAhead_20 : zD cX6_isAhead 20 (.lsub) 1 21 := ⟨by decide +kernel, rfl⟩
theorem eX6_isAhead_21 : zD cX6_isAhead 21 (.lstore_n 3) 1 22 := ⟨by decide +kernel, rfl⟩
theorem eX6_isAhead_22 : zD cX6_isAhead 22 (.lload_n 3) 1 23 := ⟨by decide +kernel, rfl⟩
theorem eX6_isAhead_23 : zD cX6_isAhead 23 (.lconst 0) 1 24 := ⟨by decide +kernel, rfl⟩
theorem eX6_isAhead_24 : zD cX6_isAhead 24 (.lcmp) 1 25 := ⟨by decide +kernel, rfl⟩
theorem eX6_isAhead_25 : zJ cX6_isAhead 25 (.ifCond .gt (33)) (33) 58 3 28 := ⟨by decide +kernel, rfl, by decide⟩
theorem eX6_isAhead_28 : zD cX6_isAhead 28 (.lload_n 3) 1 29 := ⟨by decide +kernel, rfl⟩
theorem eX6_isAhead_29 : zD cX6_isAhead 29 (.lconst 0) 1 30 := ⟨by decide +kernel, rfl⟩
theorem eX6_isAhead_30 : zD cX6_isAhead 30 (.lcmp) 1 31 := ⟨by decide +kernel, rfl⟩
theorem eX6_isAhead_31 : zJ cX6_isAhead 31 (.ifCond .ne (31)) (31) 62 3 34 := ⟨by decide +kernel, rfl, by decide⟩
theorem eX6_isAhead_34 : zD cX6_isAhead 34 (.aload_n 0) 1 35 := ⟨by decide +kernel, rfl⟩
theorem eX6_isAhead_35 : zD cX6_isAhead 35 (.getfield 7) 3 38 := ⟨by decide +kernel, rfl⟩
theorem eX6_isAhead_38 : zD cX6_isAhead 38 (.iload_n 1) 1 39 := ⟨by decide +kernel, rfl⟩
theorem eX6_isAhead_39 : zD cX6_isAhead 39 (.iconst 1) 1 40 := ⟨by decide +kernel, rfl⟩
theorem eX6_isAhead_40 : zD cX6_isAhead 40 (.invokestatic 172) 3 43 := ⟨by decide +kernel, rfl⟩
theorem eX6_isAhead_43 : zD cX6_isAhead 43 (.laload) 1 44 := ⟨by decide +kernel, rfl⟩
theorem eX6_isAhead_44 : zD cX6_isAhead 44 (.aload_n 0) 1 45 := ⟨by decide +kernel, rfl⟩
theorem eX6_isAhead_45 : zD cX6_isAhead 45 (.getfield 7) 3 48 := ⟨by decide +kernel, rfl⟩
theorem eX6_isAhead_48 : zD cX6_isAhead 48 (.iload_n 2) 1 49 := ⟨by decide +kernel, rfl⟩
theorem eX6_isAhead_49 : zD cX6_isAhead 49 (.iconst 1) 1 50 := ⟨by decide +kernel, rfl⟩
theorem eX6_isAhead_50 : zD cX6_isAhead 50 (.invokestatic 172) 3 53 := ⟨by decide +kernel, rfl⟩
theorem eX6_isAhead_53 : zD cX6_isAhead 53 (.laload) 1 54 := ⟨by decide +kernel, rfl⟩
theorem eX6_isAhead_54 : zD cX6_isAhead 54 (.lcmp) 1 55 := ⟨by decide +kernel, rfl⟩
theorem eX6_isAhead_55 : zJ cX6_isAhead 55 (.ifCond .ge (7)) (7) 62 3 58 := ⟨by decide +kernel, rfl, by decide⟩
theorem eX6_isAhead_58 : zD cX6_isAhead 58 (.iconst 1) 1 59 := ⟨by decide +kernel, rfl⟩
theorem eX6_isAhead_59 : zJ cX6_isAhead 59 (.goto (4)) (4) 63 3 62 := ⟨by decide +kernel, rfl, by decide⟩
theorem eX6_isAhead_62 : zD cX6_isAhead 62 (.iconst 0) 1 63 := ⟨by decide +kernel, rfl⟩
theorem eX6_isAhead_63 : zD cX6_isAhead 63 (.ireturn) 1 64 := ⟨by decide +kernel, rfl⟩
theorem eX6_nextPlan_0 : zD cX6_nextPlan 0 (.bipush (-6)) 2 2 := ⟨by decide +kernel, rfl⟩
theorem eX6_nextPlan_2 : zD cX6_nextPlan 2 (.istore_n 1) 1 3 := ⟨by decide +kernel, rfl⟩
theorem eX6_nextPlan_3 : zD cX6_nextPlan 3 (.iconst 0) 1 4 := ⟨by decide +kernel, rfl⟩
theorem eX6_nextPlan_4 : zD cX6_nextPlan 4 (.istore_n 2) 1 5 := ⟨by decide +kernel, rfl⟩
theorem eX6_nextPlan_5 : zD cX6_nextPlan 5 (.iload_n 2) 1 6 := ⟨by decide +kernel, rfl⟩
theorem eX6_nextPlan_6 : zD cX6_nextPlan 6 (.i2l) 1 7 := ⟨by decide +kernel, rfl⟩
theorem eX6_nextPlan_7 : zD cX6_nextPlan 7 (.aload_n 0) 1 8 := ⟨by decide +kernel, rfl⟩
theorem eX6_nextPlan_8 : zD cX6_nextPlan 8 (.getfield 7) 3 11 := ⟨by decide +kernel, rfl⟩
theorem eX6_nextPlan_11 : zD cX6_nextPlan 11 (.bipush 13) 2 13 := ⟨by decide +kernel, rfl⟩
theorem eX6_nextPlan_13 : zD cX6_nextPlan 13 (.laload) 1 14 := ⟨by decide +kernel, rfl⟩
theorem eX6_nextPlan_14 : zD cX6_nextPlan 14 (.lcmp) 1 15 := ⟨by decide +kernel, rfl⟩
theorem eX6_nextPlan_15 : zJ cX6_nextPlan 15 (.ifCond .ge (70)) (70) 85 3 18 := ⟨by decide +kernel, rfl, by decide⟩
theorem eX6_nextPlan_18 : zD cX6_nextPlan 18 (.aload_n 0) 1 19 := ⟨by decide +kernel, rfl⟩
theorem eX6_nextPlan_19 : zD cX6_nextPlan 19 (.getfield 28) 3 22 := ⟨by decide +kernel, rfl⟩
theorem eX6_nextPlan_22 : zD cX6_nextPlan 22 (.iload_n 2) 1 23 := ⟨by decide +kernel, rfl⟩
theorem eX6_nextPlan_23 : zD cX6_nextPlan 23 (.baload) 1 24 := ⟨by decide +kernel, rfl⟩
theorem eX6_nextPlan_24 : zJ cX6_nextPlan 24 (.ifCond .ne (28)) (28) 52 3 27 := ⟨by decide +kernel, rfl, by decide⟩
theorem eX6_nextPlan_27 : zD cX6_nextPlan 27 (.aload_n 0) 1 28 := ⟨by decide +kernel, rfl⟩
theorem eX6_nextPlan_28 : zD cX6_nextPlan 28 (.getfield 7) 3 31 := ⟨by decide +kernel, rfl⟩
theorem eX6_nextPlan_31 : zD cX6_nextPlan 31 (.iload_n 2) 1 32 := ⟨by decide +kernel, rfl⟩
theorem eX6_nextPlan_32 : zD cX6_nextPlan 32 (.iconst 1) 1 33 := ⟨by decide +kernel, rfl⟩
theorem eX6_nextPlan_33 : zD cX6_nextPlan 33 (.invokestatic 172) 3 36 := ⟨by decide +kernel, rfl⟩
theorem eX6_nextPlan_36 : zD cX6_nextPlan 36 (.laload) 1 37 := ⟨by decide +kernel, rfl⟩
theorem eX6_nextPlan_37 : zD cX6_nextPlan 37 (.aload_n 0) 1 38 := ⟨by decide +kernel, rfl⟩
theorem eX6_nextPlan_38 : zD cX6_nextPlan 38 (.getfield 7) 3 41 := ⟨by decide +kernel, rfl⟩
theorem eX6_nextPlan_41 : zD cX6_nextPlan 41 (.bipush 8) 2 43 := ⟨by decide +kernel, rfl⟩
theorem eX6_nextPlan_43 : zD cX6_nextPlan 43 (.laload) 1 44 := ⟨by decide +kernel, rfl⟩
theorem eX6_nextPlan_44 : zD cX6_nextPlan 44 (.lcmp) 1 45 := ⟨by decide +kernel, rfl⟩
theorem eX6_nextPlan_45 : zJ cX6_nextPlan 45 (.ifCond .gt (7)) (7) 52 3 48 := ⟨by decide +kernel, rfl, by decide⟩
theorem eX6_nextPlan_48 : zD cX6_nextPlan 48 (.iconst 1) 1 49 := ⟨by decide +kernel, rfl⟩
theorem eX6_nextPlan_49 : zJ cX6_nextPlan 49 (.goto (4)) (4) 53 3 52 := ⟨by decide +kernel, rfl, by decide⟩
theorem eX6_nextPlan_52 : zD cX6_nextPlan 52 (.iconst 0) 1 53 := ⟨by decide +kernel, rfl⟩
theorem eX6_nextPlan_53 : zD cX6_nextPlan 53 (.istore_n 3) 1 54 := ⟨by decide +kernel, rfl⟩
theorem eX6_nextPlan_54 : zD cX6_nextPlan 54 (.iload_n 3) 1 55 := ⟨by decide +kernel, rfl⟩
theorem eX6_nextPlan_55 : zJ cX6_nextPlan 55 (.ifCond .eq (22)) (22) 77 3 58 := ⟨by decide +kernel, rfl, by decide⟩
theorem eX6_nextPlan_58 : zD cX6_nextPlan 58 (.iload_n 1) 1 59 := ⟨by decide +kernel, rfl⟩
theorem eX6_nextPlan_59 : zD cX6_nextPlan 59 (.bipush (-6)) 2 61 := ⟨by decide +kernel, rfl⟩
theorem eX6_nextPlan_61 : zJ cX6_nextPlan 61 (.if_icmp .eq (12)) (12) 73 3 64 := ⟨by decide +kernel, rfl, by decide⟩
theorem eX6_nextPlan_64 : zD cX6_nextPlan 64 (.aload_n 0) 1 65 := ⟨by decide +kernel, rfl⟩
theorem eX6_nextPlan_65 : zD cX6_nextPlan 65 (.iload_n 2) 1 66 := ⟨by decide +kernel, rfl⟩
theorem eX6_nextPlan_66 : zD cX6_nextPlan 66 (.iload_n 1) 1 67 := ⟨by decide +kernel, rfl⟩
theorem eX6_nextPlan_67 : zD cX6_nextPlan 67 (.invokevirtual 190) 3 70 := ⟨by decide +kernel, rfl⟩
theorem eX6_nextPlan_70 : zJ cX6_nextPlan 70 (.ifCond .eq (7)) (7) 77 3 73 := ⟨by decide +kernel, rfl, by decide⟩
theorem eX6_nextPlan_73 : zD cX6_nextPlan 73 (.iload_n 2) 1 74 := ⟨by decide +kernel, rfl⟩
theorem eX6_nextPlan_74 : zJ cX6_nextPlan 74 (.goto (4)) (4) 78 3 77 := ⟨by decide +kernel, rfl, by decide⟩
theorem eX6_nextPlan_77 : zD cX6_nextPlan 77 (.iload_n 1) 1 78 := ⟨by decide +kernel, rfl⟩
theorem eX6_nextPlan_78 : zD cX6_nextPlan 78 (.istore_n 1) 1 79 := ⟨by decide +kernel, rfl⟩
theorem eX6_nextPlan_79 : zD cX6_nextPlan 79 (.iinc 2 1) 3 82 := ⟨by decide +kernel, rfl⟩
theorem eX6_nextPlan_82 : zJ cX6_nextPlan 82 (.goto (-77)) (-77) 5 3 85 := ⟨by decide +kernel, rfl, by decide⟩
theorem eX6_nextPlan_85 : zD cX6_nextPlan 85 (.iload_n 1) 1 86 := ⟨by decide +kernel, rfl⟩
theorem eX6_nextPlan_86 : zD cX6_nextPlan 86 (.ireturn) 1 87 := ⟨by decide +kernel, rfl⟩
theorem eX6_doPlans_0 : zD cX6_doPlans 0 (.aload_n 0) 1 1 := ⟨by decide +kernel, rfl⟩
theorem eX6_doPlans_1 : zD cX6_doPlans 1 (.invokevirtual 193) 3 4 := ⟨by decide +kernel, rfl⟩
theorem eX6_doPlans_4 : zD cX6_doPlans 4 (.istore_n 1) 1 5 := ⟨by decide +kernel, rfl⟩
theorem eX6_doPlans_5 : zD cX6_doPlans 5 (.iload_n 1) 1 6 := ⟨by decide +kernel, rfl⟩
theorem eX6_doPlans_6 : zD cX6_doPlans 6 (.bipush (-6)) 2 8 := ⟨by decide +kernel, rfl⟩
theorem eX6_doPlans_8 : zJ cX6_doPlans 8 (.if_icmp .eq (154)) (154) 162 3 11 := ⟨by decide +kernel, rfl, by decide⟩
theorem eX6_doPlans_11 : zD cX6_doPlans 11 (.aload_n 0) 1 12 := ⟨by decide +kernel, rfl⟩
theorem eX6_doPlans_12 : zD cX6_doPlans 12 (.iload_n 1) 1 13 := ⟨by decide +kernel, rfl⟩
theorem eX6_doPlans_13 : zD cX6_doPlans 13 (.iconst 0) 1 14 := ⟨by decide +kernel, rfl⟩
theorem eX6_doPlans_14 : zD cX6_doPlans 14 (.invokestatic 172) 3 17 := ⟨by decide +kernel, rfl⟩
theorem eX6_doPlans_17 : zD cX6_doPlans 17 (.invokevirtual 60) 3 20 := ⟨by decide +kernel, rfl⟩
theorem eX6_doPlans_20 : zD cX6_doPlans 20 (.istore_n 2) 1 21 := ⟨by decide +kernel, rfl⟩
theorem eX6_doPlans_21 : zD cX6_doPlans 21 (.aload_n 0) 1 22 := ⟨by decide +kernel, rfl⟩
theorem eX6_doPlans_22 : zD cX6_doPlans 22 (.getfield 7) 3 25 := ⟨by decide +kernel, rfl⟩
theorem eX6_doPlans_25 : zD cX6_doPlans 25 (.bipush 8) 2 27 := ⟨by decide +kernel, rfl⟩
theorem eX6_doPlans_27 : zD cX6_doPlans 27 (.laload) 1 28 := ⟨by decide +kernel, rfl⟩
theorem eX6_doPlans_28 : zD cX6_doPlans 28 (.aload_n 0) 1 29 := ⟨by decide +kernel, rfl⟩
theorem eX6_doPlans_29 : zD cX6_doPlans 29 (.getfield 7) 3 32 := ⟨by decide +kernel, rfl⟩
theorem eX6_doPlans_32 : zD cX6_doPlans 32 (.iload_n 1) 1 33 := ⟨by decide +kernel, rfl⟩
theorem eX6_doPlans_33 : zD cX6_doPlans 33 (.iconst 1) 1 34 := ⟨by decide +kernel, rfl⟩
theorem eX6_doPlans_34 : zD cX6_doPlans 34 (.invokestatic 172) 3 37 := ⟨by decide +kernel, rfl⟩
theorem eX6_doPlans_37 : zD cX6_doPlans 37 (.laload) 1 38 := ⟨by decide +kernel, rfl⟩
theorem eX6_doPlans_38 : zD cX6_doPlans 38 (.lsub) 1 39 := ⟨by decide +kernel, rfl⟩
theorem eX6_doPlans_39 : zD cX6_doPlans 39 (.aload_n 0) 1 40 := ⟨by decide +kernel, rfl⟩
theorem eX6_doPlans_40 : zD cX6_doPlans 40 (.getfield 7) 3 43 := ⟨by decide +kernel, rfl⟩
theorem eX6_doPlans_43 : zD cX6_doPlans 43 (.iconst 5) 1 44 := ⟨by decide +kernel, rfl⟩
theorem eX6_doPlans_44 : zD cX6_doPlans 44 (.laload) 1 45 := ⟨by decide +kernel, rfl⟩
theorem eX6_doPlans_45 : zD cX6_doPlans 45 (.lcmp) 1 46 := ⟨by decide +kernel, rfl⟩
theorem eX6_doPlans_46 : zJ cX6_doPlans 46 (.ifCond .lt (7)) (7) 53 3 49 := ⟨by decide +kernel, rfl, by decide⟩
theorem eX6_doPlans_49 : zD cX6_doPlans 49 (.iconst 1) 1 50 := ⟨by decide +kernel, rfl⟩
theorem eX6_doPlans_50 : zJ cX6_doPlans 50 (.goto (4)) (4) 54 3 53 := ⟨by decide +kernel, rfl, by decide⟩
theorem eX6_doPlans_53 : zD cX6_doPlans 53 (.iconst 0) 1 54 := ⟨by decide +kernel, rfl⟩
theorem eX6_doPlans_54 : zD cX6_doPlans 54 (.istore_n 3) 1 55 := ⟨by decide +kernel, rfl⟩
theorem eX6_doPlans_55 : zD cX6_doPlans 55 (.aload_n 0) 1 56 := ⟨by decide +kernel, rfl⟩
theorem eX6_doPlans_56 : zD cX6_doPlans 56 (.getfield 28) 3 59 := ⟨by decide +kernel, rfl⟩
theorem eX6_doPlans_59 : zD cX6_doPlans 59 (.iload_n 1) 1 60 := ⟨by decide +kernel, rfl⟩
theorem eX6_doPlans_60 : zD cX6_doPlans 60 (.iconst 1) 1 61 := ⟨by decide +kernel, rfl⟩
theorem eX6_doPlans_61 : zD cX6_doPlans 61 (.bastore) 1 62 := ⟨by decide +kernel, rfl⟩
theorem eX6_doPlans_62 : zD cX6_doPlans 62 (.aload_n 0) 1 63 := ⟨by decide +kernel, rfl⟩
theorem eX6_doPlans_63 : zD cX6_doPlans 63 (.getfield 25) 3 66 := ⟨by decide +kernel, rfl⟩
theorem eX6_doPlans_66 : zD cX6_doPlans 66 (.iload_n 1) 1 67 := ⟨by decide +kernel, rfl⟩
theorem eX6_doPlans_67 : zD cX6_doPlans 67 (.aload_n 0) 1 68 := ⟨by decide +kernel, rfl⟩
theorem eX6_doPlans_68 : zD cX6_doPlans 68 (.iload_n 2) 1 69 := ⟨by decide +kernel, rfl⟩
theorem eX6_doPlans_69 : zD cX6_doPlans 69 (.invokevirtual 94) 3 72 := ⟨by decide +kernel, rfl⟩
theorem eX6_doPlans_72 : zJ cX6_doPlans 72 (.ifCond .eq (7)) (7) 79 3 75 := ⟨by decide +kernel, rfl, by decide⟩
theorem eX6_doPlans_75 : zD cX6_doPlans 75 (.iload_n 3) 1 76 := ⟨by decide +kernel, rfl⟩
theorem eX6_doPlans_76 : zJ cX6_doPlans 76 (.ifCond .eq (7)) (7) 83 3 79 := ⟨by decide +kernel, rfl, by decide⟩
theorem eX6_doPlans_79 : zD cX6_doPlans 79 (.iconst 1) 1 80 := ⟨by decide +kernel, rfl⟩
theorem eX6_doPlans_80 : zJ cX6_doPlans 80 (.goto (4)) (4) 84 3 83 := ⟨by decide +kernel, rfl, by decide⟩
theorem eX6_doPlans_83 : zD cX6_doPlans 83 (.iconst 0) 1 84 := ⟨by decide +kernel, rfl⟩
theorem eX6_doPlans_84 : zD cX6_doPlans 84 (.bastore) 1 85 := ⟨by decide +kernel, rfl⟩
theorem eX6_doPlans_85 : zD cX6_doPlans 85 (.aload_n 0) 1 86 := ⟨by decide +kernel, rfl⟩
theorem eX6_doPlans_86 : zD cX6_doPlans 86 (.iload_n 2) 1 87 := ⟨by decide +kernel, rfl⟩
theorem eX6_doPlans_87 : zD cX6_doPlans 87 (.invokevirtual 94) 3 90 := ⟨by decide +kernel, rfl⟩
theorem eX6_doPlans_90 : zJ cX6_doPlans 90 (.ifCond .ne (46)) (46) 136 3 93 := ⟨by decide +kernel, rfl, by decide⟩
theorem eX6_doPlans_93 : zD cX6_doPlans 93 (.aload_n 0) 1 94 := ⟨by decide +kernel, rfl⟩
theorem eX6_doPlans_94 : zD cX6_doPlans 94 (.iload_n 1) 1 95 := ⟨by decide +kernel, rfl⟩
theorem eX6_doPlans_95 : zD cX6_doPlans 95 (.aload_n 0) 1 96 := ⟨by decide +kernel, rfl⟩
theorem eX6_doPlans_96 : zD cX6_doPlans 96 (.getfield 21) 3 99 := ⟨by decide +kernel, rfl⟩
theorem eX6_doPlans_99 : zJ cX6_doPlans 99 (.if_icmp .ne (12)) (12) 111 3 102 := ⟨by decide +kernel, rfl, by decide⟩
theorem eX6_doPlans_102 : zD cX6_doPlans 102 (.aload_n 0) 1 103 := ⟨by decide +kernel, rfl⟩
theorem eX6_doPlans_103 : zD cX6_doPlans 103 (.bipush 8) 2 105 := ⟨by decide +kernel, rfl⟩
theorem eX6_doPlans_105 : zD cX6_doPlans 105 (.invokevirtual 60) 3 108 := ⟨by decide +kernel, rfl⟩
theorem eX6_doPlans_108 : zJ cX6_doPlans 108 (.goto (7)) (7) 115 3 111 := ⟨by decide +kernel, rfl, by decide⟩
theorem eX6_doPlans_111 : zD cX6_doPlans 111 (.aload_n 0) 1 112 := ⟨by decide +kernel, rfl⟩
theorem eX6_doPlans_112 : zD cX6_doPlans 112 (.getfield 197) 3 115 := ⟨by decide +kernel, rfl⟩
theorem eX6_doPlans_115 : zD cX6_doPlans 115 (.putfield 197) 3 118 := ⟨by decide +kernel, rfl⟩
theorem eX6_doPlans_118 : zD cX6_doPlans 118 (.aload_n 0) 1 119 := ⟨by decide +kernel, rfl⟩
theorem eX6_doPlans_119 : zD cX6_doPlans 119 (.iload_n 2) 1 120 := ⟨by decide +kernel, rfl⟩
theorem eX6_doPlans_120 : zD cX6_doPlans 120 (.aload_n 0) 1 121 := ⟨by decide +kernel, rfl⟩
theorem eX6_doPlans_121 : zD cX6_doPlans 121 (.getfield 7) 3 124 := ⟨by decide +kernel, rfl⟩
theorem eX6_doPlans_124 : zD cX6_doPlans 124 (.iload_n 1) 1 125 := ⟨by decide +kernel, rfl⟩
theorem eX6_doPlans_125 : zD cX6_doPlans 125 (.iconst 2) 1 126 := ⟨by decide +kernel, rfl⟩
theorem eX6_doPlans_126 : zD cX6_doPlans 126 (.invokestatic 172) 3 129 := ⟨by decide +kernel, rfl⟩
theorem eX6_doPlans_129 : zD cX6_doPlans 129 (.laload) 1 130 := ⟨by decide +kernel, rfl⟩
theorem eX6_doPlans_130 : zD cX6_doPlans 130 (.invokevirtual 124) 3 133 := ⟨by decide +kernel, rfl⟩
theorem eX6_doPlans_133 : zJ cX6_doPlans 133 (.goto (21)) (21) 154 3 136 := ⟨by decide +kernel, rfl, by decide⟩
theorem eX6_doPlans_136 : zD cX6_doPlans 136 (.iload_n 3) 1 137 := ⟨by decide +kernel, rfl⟩
theorem eX6_doPlans_137 : zJ cX6_doPlans 137 (.ifCond .eq (17)) (17) 154 3 140 := ⟨by decide +kernel, rfl, by decide⟩
theorem eX6_doPlans_140 : zD cX6_doPlans 140 (.aload_n 0) 1 141 := ⟨by decide +kernel, rfl⟩
theorem eX6_doPlans_141 : zD cX6_doPlans 141 (.getfield 7) 3 144 := ⟨by decide +kernel, rfl⟩
theorem eX6_doPlans_144 : zD cX6_doPlans 144 (.iload_n 2) 1 145 := ⟨by decide +kernel, rfl⟩
theorem eX6_doPlans_145 : zD cX6_doPlans 145 (.iconst 5) 1 146 := ⟨by decide +kernel, rfl⟩
theorem eX6_doPlans_146 : zD cX6_doPlans 146 (.invokestatic 86) 3 149 := ⟨by decide +kernel, rfl⟩
theorem eX6_doPlans_149 : zD cX6_doPlans 149 (.dup2) 1 150 := ⟨by decide +kernel, rfl⟩
theorem eX6_doPlans_150 : zD cX6_doPlans 150 (.laload) 1 151 := ⟨by decide +kernel, rfl⟩
theorem eX6_doPlans_151 : zD cX6_doPlans 151 (.lconst 1) 1 152 := ⟨by decide +kernel, rfl⟩
theorem eX6_doPlans_152 : zD cX6_doPlans 152 (.ladd) 1 153 := ⟨by decide +kernel, rfl⟩
theorem eX6_doPlans_153 : zD cX6_doPlans 153 (.lastore) 1 154 := ⟨by decide +kernel, rfl⟩
theorem eX6_doPlans_154 : zD cX6_doPlans 154 (.aload_n 0) 1 155 := ⟨by decide +kernel, rfl⟩
theorem eX6_doPlans_155 : zD cX6_doPlans 155 (.invokevirtual 193) 3 158 := ⟨by decide +kernel, rfl⟩
theorem eX6_doPlans_158 : zD cX6_doPlans 158 (.istore_n 1) 1 159 := ⟨by decide +kernel, rfl⟩
theorem eX6_doPlans_159 : zJ cX6_doPlans 159 (.goto (-154)) (-154) 5 3 162 := ⟨by decide +kernel, rfl, by decide⟩
theorem eX6_doPlans_162 : zD cX6_doPlans 162 (.aload_n 0) 1 163 := ⟨by decide +kernel, rfl⟩
theorem eX6_doPlans_163 : zD cX6_doPlans 163 (.invokevirtual 181) 3 166 := ⟨by decide +kernel, rfl⟩
theorem eX6_doPlans_166 : zD cX6_doPlans 166 (.return_) 1 167 := ⟨by decide +kernel, rfl⟩
theorem eX6_grant_0 : zD cX6_grant 0 (.aload_n 0) 1 1 := ⟨by decide +kernel, rfl⟩
theorem eX6_grant_1 : zD cX6_grant 1 (.getfield 7) 3 4 := ⟨by decide +kernel, rfl⟩
theorem eX6_grant_4 : zD cX6_grant 4 (.iload_n 1) 1 5 := ⟨by decide +kernel, rfl⟩
theorem eX6_grant_5 : zD cX6_grant 5 (.iconst 0) 1 6 := ⟨by decide +kernel, rfl⟩
theorem eX6_grant_6 : zD cX6_grant 6 (.invokestatic 86) 3 9 := ⟨by decide +kernel, rfl⟩
theorem eX6_grant_9 : zD cX6_grant 9 (.laload) 1 10 := ⟨by decide +kernel, rfl⟩
theorem eX6_grant_10 : zD cX6_grant 10 (.lstore_n 2) 1 11 := ⟨by decide +kernel, rfl⟩
theorem eX6_grant_11 : zD cX6_grant 11 (.aload_n 0) 1 12 := ⟨by decide +kernel, rfl⟩
theorem eX6_grant_12 : zD cX6_grant 12 (.iload_n 1) 1 13 := ⟨by decide +kernel, rfl⟩
theorem eX6_grant_13 : zD cX6_grant 13 (.invokevirtual 90) 3 16 := ⟨by decide +kernel, rfl⟩
theorem eX6_grant_16 : zD cX6_grant 16 (.lload_n 2) 1 17 := ⟨by decide +kernel, rfl⟩
theorem eX6_grant_17 : zD cX6_grant 17 (.lcmp) 1 18 := ⟨by decide +kernel, rfl⟩
theorem eX6_grant_18 : zJ cX6_grant 18 (.ifCond .ge (11)) (11) 29 3 21 := ⟨by decide +kernel, rfl, by decide⟩
theorem eX6_grant_21 : zD cX6_grant 21 (.aload_n 0) 1 22 := ⟨by decide +kernel, rfl⟩
theorem eX6_grant_22 : zD cX6_grant 22 (.iload_n 1) 1 23 := ⟨by decide +kernel, rfl⟩
theorem eX6_grant_23 : zD cX6_grant 23 (.invokevirtual 90) 3 26 := ⟨by decide +kernel, rfl⟩
theorem eX6_grant_26 : zJ cX6_grant 26 (.goto (4)) (4) 30 3 29 := ⟨by decide +kernel, rfl, by decide⟩
theorem eX6_grant_29 : zD cX6_grant 29 (.lload_n 2) 1 30 := ⟨by decide +kernel, rfl⟩
theorem eX6_grant_30 : zD cX6_grant 30 (.lstore 4) 2 32 := ⟨by decide +kernel, rfl⟩
theorem eX6_grant_32 : zD cX6_grant 32 (.aload_n 0) 1 33 := ⟨by decide +kernel, rfl⟩
theorem eX6_grant_33 : zD cX6_grant 33 (.iload_n 1) 1 34 := ⟨by decide +kernel, rfl⟩
theorem eX6_grant_34 : zD cX6_grant 34 (.invokevirtual 90) 3 37 := ⟨by decide +kernel, rfl⟩
theorem eX6_grant_37 : zD cX6_grant 37 (.lconst 0) 1 38 := ⟨by decide +kernel, rfl⟩
theorem eX6_grant_38 : zD cX6_grant 38 (.lcmp) 1 39 := ⟨by decide +kernel, rfl⟩
theorem eX6_grant_39 : zJ cX6_grant 39 (.ifCond .le (25)) (25) 64 3 42 := ⟨by decide +kernel, rfl, by decide⟩
theorem eX6_grant_42 : zD cX6_grant 42 (.aload_n 0) 1 43 := ⟨by decide +kernel, rfl⟩
theorem eX6_grant_43 : zD cX6_grant 43 (.iload_n 1) 1 44 := ⟨by decide +kernel, rfl⟩
theorem eX6_grant_44 : zD cX6_grant 44 (.invokevirtual 90) 3 47 := ⟨by decide +kernel, rfl⟩
theorem eX6_grant_47 : zD cX6_grant 47 (.lload 4) 2 49 := ⟨by decide +kernel, rfl⟩
theorem eX6_grant_49 : zD cX6_grant 49 (.aload_n 0) 1 50 := ⟨by decide +kernel, rfl⟩
theorem eX6_grant_50 : zD cX6_grant 50 (.getfield 7) 3 53 := ⟨by decide +kernel, rfl⟩
theorem eX6_grant_53 : zD cX6_grant 53 (.iconst 1) 1 54 := ⟨by decide +kernel, rfl⟩
theorem eX6_grant_54 : zD cX6_grant 54 (.laload) 1 55 := ⟨by decide +kernel, rfl⟩
theorem eX6_grant_55 : zD cX6_grant 55 (.lmul) 1 56 := ⟨by decide +kernel, rfl⟩
theorem eX6_grant_56 : zD cX6_grant 56 (.ldc2_w 80) 3 59 := ⟨by decide +kernel, rfl⟩
theorem eX6_grant_59 : zD cX6_grant 59 (.ldiv) 1 60 := ⟨by decide +kernel, rfl⟩
theorem eX6_grant_60 : zD cX6_grant 60 (.lsub) 1 61 := ⟨by decide +kernel, rfl⟩
theorem eX6_grant_61 : zJ cX6_grant 61 (.goto (4)) (4) 65 3 64 := ⟨by decide +kernel, rfl, by decide⟩
theorem eX6_grant_64 : zD cX6_grant 64 (.lconst 0) 1 65 := ⟨by decide +kernel, rfl⟩
theorem eX6_grant_65 : zD cX6_grant 65 (.lstore 6) 2 67 := ⟨by decide +kernel, rfl⟩
theorem eX6_grant_67 : zD cX6_grant 67 (.aload_n 0) 1 68 := ⟨by decide +kernel, rfl⟩
theorem eX6_grant_68 : zD cX6_grant 68 (.getfield 7) 3 71 := ⟨by decide +kernel, rfl⟩
theorem eX6_grant_71 : zD cX6_grant 71 (.iload_n 1) 1 72 := ⟨by decide +kernel, rfl⟩
theorem eX6_grant_72 : zD cX6_grant 72 (.bipush 7) 2 74 := ⟨by decide +kernel, rfl⟩
theorem eX6_grant_74 : zD cX6_grant 74 (.invokestatic 105) 3 77 := ⟨by decide +kernel, rfl⟩
theorem eX6_grant_77 : zD cX6_grant 77 (.dup2) 1 78 := ⟨by decide +kernel, rfl⟩
theorem eX6_grant_78 : zD cX6_grant 78 (.laload) 1 79 := ⟨by decide +kernel, rfl⟩
theorem eX6_grant_79 : zD cX6_grant 79 (.lload 6) 2 81 := ⟨by decide +kernel, rfl⟩
theorem eX6_grant_81 : zD cX6_grant 81 (.ladd) 1 82 := ⟨by decide +kernel, rfl⟩
theorem eX6_grant_82 : zD cX6_grant 82 (.lastore) 1 83 := ⟨by decide +kernel, rfl⟩
theorem eX6_grant_83 : zD cX6_grant 83 (.aload_n 0) 1 84 := ⟨by decide +kernel, rfl⟩
theorem eX6_grant_84 : zD cX6_grant 84 (.getfield 7) 3 87 := ⟨by decide +kernel, rfl⟩
theorem eX6_grant_87 : zD cX6_grant 87 (.iload_n 1) 1 88 := ⟨by decide +kernel, rfl⟩
theorem eX6_grant_88 : zD cX6_grant 88 (.iconst 0) 1 89 := ⟨by decide +kernel, rfl⟩
theorem eX6_grant_89 : zD cX6_grant 89 (.invokestatic 105) 3 92 := ⟨by decide +kernel, rfl⟩
theorem eX6_grant_92 : zD cX6_grant 92 (.dup2) 1 93 := ⟨by decide +kernel, rfl⟩
theorem eX6_grant_93 : zD cX6_grant 93 (.laload) 1 94 := ⟨by decide +kernel, rfl⟩
theorem eX6_grant_94 : zD cX6_grant 94 (.lload_n 2) 1 95 := ⟨by decide +kernel, rfl⟩
theorem eX6_grant_95 : zD cX6_grant 95 (.ladd) 1 96 := ⟨by decide +kernel, rfl⟩
theorem eX6_grant_96 : zD cX6_grant 96 (.lastore) 1 97 := ⟨by decide +kernel, rfl⟩
theorem eX6_grant_97 : zD cX6_grant 97 (.aload_n 0) 1 98 := ⟨by decide +kernel, rfl⟩
theorem eX6_grant_98 : zD cX6_grant 98 (.getfield 7) 3 101 := ⟨by decide +kernel, rfl⟩
theorem eX6_grant_101 : zD cX6_grant 101 (.iload_n 1) 1 102 := ⟨by decide +kernel, rfl⟩
theorem eX6_grant_102 : zD cX6_grant 102 (.iconst 2) 1 103 := ⟨by decide +kernel, rfl⟩
theorem eX6_grant_103 : zD cX6_grant 103 (.invokestatic 86) 3 106 := ⟨by decide +kernel, rfl⟩
theorem eX6_grant_106 : zD cX6_grant 106 (.aload_n 0) 1 107 := ⟨by decide +kernel, rfl⟩
theorem eX6_grant_107 : zD cX6_grant 107 (.getfield 7) 3 110 := ⟨by decide +kernel, rfl⟩
theorem eX6_grant_110 : zD cX6_grant 110 (.bipush 7) 2 112 := ⟨by decide +kernel, rfl⟩
theorem eX6_grant_112 : zD cX6_grant 112 (.laload) 1 113 := ⟨by decide +kernel, rfl⟩
theorem eX6_grant_113 : zD cX6_grant 113 (.lastore) 1 114 := ⟨by decide +kernel, rfl⟩
theorem eX6_grant_114 : zD cX6_grant 114 (.aload_n 0) 1 115 := ⟨by decide +kernel, rfl⟩
theorem eX6_grant_115 : zD cX6_grant 115 (.iload_n 1) 1 116 := ⟨by decide +kernel, rfl⟩
theorem eX6_grant_116 : zD cX6_grant 116 (.lload_n 2) 1 117 := ⟨by decide +kernel, rfl⟩
theorem eX6_grant_117 : zD cX6_grant 117 (.lload 6) 2 119 := ⟨by decide +kernel, rfl⟩
theorem eX6_grant_119 : zD cX6_grant 119 (.lsub) 1 120 := ⟨by decide +kernel, rfl⟩
theorem eX6_grant_120 : zD cX6_grant 120 (.invokevirtual 111) 3 123 := ⟨by decide +kernel, rfl⟩
theorem eX6_grant_123 : zD cX6_grant 123 (.return_) 1 124 := ⟨by decide +kernel, rfl⟩
theorem eX6_nextLoan_0 : zD cX6_nextLoan 0 (.bipush (-6)) 2 2 := ⟨by decide +kernel, rfl⟩
theorem eX6_nextLoan_2 : zD cX6_nextLoan 2 (.istore_n 1) 1 3 := ⟨by decide +kernel, rfl⟩
theorem eX6_nextLoan_3 : zD cX6_nextLoan 3 (.iconst 0) 1 4 := ⟨by decide +kernel, rfl⟩
theorem eX6_nextLoan_4 : zD cX6_nextLoan 4 (.istore_n 2) 1 5 := ⟨by decide +kernel, rfl⟩
theorem eX6_nextLoan_5 : zD cX6_nextLoan 5 (.iload_n 2) 1 6 := ⟨by decide +kernel, rfl⟩
theorem eX6_nextLoan_6 : zD cX6_nextLoan 6 (.i2l) 1 7 := ⟨by decide +kernel, rfl⟩
theorem eX6_nextLoan_7 : zD cX6_nextLoan 7 (.aload_n 0) 1 8 := ⟨by decide +kernel, rfl⟩
theorem eX6_nextLoan_8 : zD cX6_nextLoan 8 (.getfield 7) 3 11 := ⟨by decide +kernel, rfl⟩
theorem eX6_nextLoan_11 : zD cX6_nextLoan 11 (.bipush 12) 2 13 := ⟨by decide +kernel, rfl⟩
theorem eX6_nextLoan_13 : zD cX6_nextLoan 13 (.laload) 1 14 := ⟨by decide +kernel, rfl⟩
theorem eX6_nextLoan_14 : zD cX6_nextLoan 14 (.lcmp) 1 15 := ⟨by decide +kernel, rfl⟩
theorem eX6_nextLoan_15 : zJ cX6_nextLoan 15 (.ifCond .ge (91)) (91) 106 3 18 := ⟨by decide +kernel, rfl, by decide⟩
theorem eX6_nextLoan_18 : zD cX6_nextLoan 18 (.aload_n 0) 1 19 := ⟨by decide +kernel, rfl⟩
theorem eX6_nextLoan_19 : zD cX6_nextLoan 19 (.getfield 7) 3 22 := ⟨by decide +kernel, rfl⟩
theorem eX6_nextLoan_22 : zD cX6_nextLoan 22 (.iload_n 2) 1 23 := ⟨by decide +kernel, rfl⟩
theorem eX6_nextLoan_23 : zD cX6_nextLoan 23 (.iconst 3) 1 24 := ⟨by decide +kernel, rfl⟩
theorem eX6_nextLoan_24 : zD cX6_nextLoan 24 (.invokestatic 138) 3 27 := ⟨by decide +kernel, rfl⟩
theorem eX6_nextLoan_27 : zD cX6_nextLoan 27 (.laload) 1 28 := ⟨by decide +kernel, rfl⟩
theorem eX6_nextLoan_28 : zD cX6_nextLoan 28 (.lconst 0) 1 29 := ⟨by decide +kernel, rfl⟩
theorem eX6_nextLoan_29 : zD cX6_nextLoan 29 (.lcmp) 1 30 := ⟨by decide +kernel, rfl⟩
theorem eX6_nextLoan_30 : zJ cX6_nextLoan 30 (.ifCond .le (28)) (28) 58 3 33 := ⟨by decide +kernel, rfl, by decide⟩
theorem eX6_nextLoan_33 : zD cX6_nextLoan 33 (.aload_n 0) 1 34 := ⟨by decide +kernel, rfl⟩
theorem eX6_nextLoan_34 : zD cX6_nextLoan 34 (.getfield 7) 3 37 := ⟨by decide +kernel, rfl⟩
theorem eX6_nextLoan_37 : zD cX6_nextLoan 37 (.iload_n 2) 1 38 := ⟨by decide +kernel, rfl⟩
theorem eX6_nextLoan_38 : zD cX6_nextLoan 38 (.iconst 4) 1 39 := ⟨by decide +kernel, rfl⟩
theorem eX6_nextLoan_39 : zD cX6_nextLoan 39 (.invokestatic 138) 3 42 := ⟨by decide +kernel, rfl⟩
theorem eX6_nextLoan_42 : zD cX6_nextLoan 42 (.laload) 1 43 := ⟨by decide +kernel, rfl⟩
theorem eX6_nextLoan_43 : zD cX6_nextLoan 43 (.aload_n 0) 1 44 := ⟨by decide +kernel, rfl⟩
theorem eX6_nextLoan_44 : zD cX6_nextLoan 44 (.getfield 7) 3 47 := ⟨by decide +kernel, rfl⟩
theorem eX6_nextLoan_47 : zD cX6_nextLoan 47 (.bipush 9) 2 49 := ⟨by decide +kernel, rfl⟩
theorem eX6_nextLoan_49 : zD cX6_nextLoan 49 (.laload) 1 50 := ⟨by decide +kernel, rfl⟩
theorem eX6_nextLoan_50 : zD cX6_nextLoan 50 (.lcmp) 1 51 := ⟨by decide +kernel, rfl⟩
theorem eX6_nextLoan_51 : zJ cX6_nextLoan 51 (.ifCond .gt (7)) (7) 58 3 54 := ⟨by decide +kernel, rfl, by decide⟩
theorem eX6_nextLoan_54 : zD cX6_nextLoan 54 (.iconst 1) 1 55 := ⟨by decide +kernel, rfl⟩
theorem eX6_nextLoan_55 : zJ cX6_nextLoan 55 (.goto (4)) (4) 59 3 58 := ⟨by decide +kernel, rfl, by decide⟩
theorem eX6_nextLoan_58 : zD cX6_nextLoan 58 (.iconst 0) 1 59 := ⟨by decide +kernel, rfl⟩
theorem eX6_nextLoan_59 : zD cX6_nextLoan 59 (.istore_n 3) 1 60 := ⟨by decide +kernel, rfl⟩
theorem eX6_nextLoan_60 : zD cX6_nextLoan 60 (.iload_n 3) 1 61 := ⟨by decide +kernel, rfl⟩
theorem eX6_nextLoan_61 : zJ cX6_nextLoan 61 (.ifCond .eq (37)) (37) 98 3 64 := ⟨by decide +kernel, rfl, by decide⟩
theorem eX6_nextLoan_64 : zD cX6_nextLoan 64 (.iload_n 1) 1 65 := ⟨by decide +kernel, rfl⟩
theorem eX6_nextLoan_65 : zD cX6_nextLoan 65 (.bipush (-6)) 2 67 := ⟨by decide +kernel, rfl⟩
theorem eX6_nextLoan_67 : zJ cX6_nextLoan 67 (.if_icmp .eq (27)) (27) 94 3 70 := ⟨by decide +kernel, rfl, by decide⟩
theorem eX6_nextLoan_70 : zD cX6_nextLoan 70 (.aload_n 0) 1 71 := ⟨by decide +kernel, rfl⟩
theorem eX6_nextLoan_71 : zD cX6_nextLoan 71 (.getfield 7) 3 74 := ⟨by decide +kernel, rfl⟩
theorem eX6_nextLoan_74 : zD cX6_nextLoan 74 (.iload_n 2) 1 75 := ⟨by decide +kernel, rfl⟩
theorem eX6_nextLoan_75 : zD cX6_nextLoan 75 (.iconst 4) 1 76 := ⟨by decide +kernel, rfl⟩
theorem eX6_nextLoan_76 : zD cX6_nextLoan 76 (.invokestatic 138) 3 79 := ⟨by decide +kernel, rfl⟩
theorem eX6_nextLoan_79 : zD cX6_nextLoan 79 (.laload) 1 80 := ⟨by decide +kernel, rfl⟩
theorem eX6_nextLoan_80 : zD cX6_nextLoan 80 (.aload_n 0) 1 81 := ⟨by decide +kernel, rfl⟩
theorem eX6_nextLoan_81 : zD cX6_nextLoan 81 (.getfield 7) 3 84 := ⟨by decide +kernel, rfl⟩
theorem eX6_nextLoan_84 : zD cX6_nextLoan 84 (.iload_n 1) 1 85 := ⟨by decide +kernel, rfl⟩
theorem eX6_nextLoan_85 : zD cX6_nextLoan 85 (.iconst 4) 1 86 := ⟨by decide +kernel, rfl⟩
theorem eX6_nextLoan_86 : zD cX6_nextLoan 86 (.invokestatic 138) 3 89 := ⟨by decide +kernel, rfl⟩
theorem eX6_nextLoan_89 : zD cX6_nextLoan 89 (.laload) 1 90 := ⟨by decide +kernel, rfl⟩
theorem eX6_nextLoan_90 : zD cX6_nextLoan 90 (.lcmp) 1 91 := ⟨by decide +kernel, rfl⟩
theorem eX6_nextLoan_91 : zJ cX6_nextLoan 91 (.ifCond .ge (7)) (7) 98 3 94 := ⟨by decide +kernel, rfl, by decide⟩
theorem eX6_nextLoan_94 : zD cX6_nextLoan 94 (.iload_n 2) 1 95 := ⟨by decide +kernel, rfl⟩
theorem eX6_nextLoan_95 : zJ cX6_nextLoan 95 (.goto (4)) (4) 99 3 98 := ⟨by decide +kernel, rfl, by decide⟩
theorem eX6_nextLoan_98 : zD cX6_nextLoan 98 (.iload_n 1) 1 99 := ⟨by decide +kernel, rfl⟩
theorem eX6_nextLoan_99 : zD cX6_nextLoan 99 (.istore_n 1) 1 100 := ⟨by decide +kernel, rfl⟩
theorem eX6_nextLoan_100 : zD cX6_nextLoan 100 (.iinc 2 1) 3 103 := ⟨by decide +kernel, rfl⟩
theorem eX6_nextLoan_103 : zJ cX6_nextLoan 103 (.goto (-98)) (-98) 5 3 106 := ⟨by decide +kernel, rfl, by decide⟩
theorem eX6_nextLoan_106 : zD cX6_nextLoan 106 (.iload_n 1) 1 107 := ⟨by decide +kernel, rfl⟩
theorem eX6_nextLoan_107 : zD cX6_nextLoan 107 (.ireturn) 1 108 := ⟨by decide +kernel, rfl⟩
theorem eX6_beginWindow_0 : zD cX6_beginWindow 0 (.aload_n 0) 1 1 := ⟨by decide +kernel, rfl⟩
theorem eX6_beginWindow_1 : zD cX6_beginWindow 1 (.getfield 7) 3 4 := ⟨by decide +kernel, rfl⟩
theorem eX6_beginWindow_4 : zD cX6_beginWindow 4 (.bipush 9) 2 6 := ⟨by decide +kernel, rfl⟩
theorem eX6_beginWindow_6 : zD cX6_beginWindow 6 (.dup2) 1 7 := ⟨by decide +kernel, rfl⟩
theorem eX6_beginWindow_7 : zD cX6_beginWindow 7 (.laload) 1 8 := ⟨by decide +kernel, rfl⟩
theorem eX6_beginWindow_8 : zD cX6_beginWindow 8 (.lconst 1) 1 9 := ⟨by decide +kernel, rfl⟩
theorem eX6_beginWindow_9 : zD cX6_beginWindow 9 (.ladd) 1 10 := ⟨by decide +kernel, rfl⟩
theorem eX6_beginWindow_10 : zD cX6_beginWindow 10 (.lastore) 1 11 := ⟨by decide +kernel, rfl⟩
theorem eX6_beginWindow_11 : zD cX6_beginWindow 11 (.aload_n 0) 1 12 := ⟨by decide +kernel, rfl⟩
theorem eX6_beginWindow_12 : zD cX6_beginWindow 12 (.getfield 7) 3 15 := ⟨by decide +kernel, rfl⟩
theorem eX6_beginWindow_15 : zD cX6_beginWindow 15 (.bipush 10) 2 17 := ⟨by decide +kernel, rfl⟩
theorem eX6_beginWindow_17 : zD cX6_beginWindow 17 (.aload_n 0) 1 18 := ⟨by decide +kernel, rfl⟩
theorem eX6_beginWindow_18 : zD cX6_beginWindow 18 (.getfield 7) 3 21 := ⟨by decide +kernel, rfl⟩
theorem eX6_beginWindow_21 : zD cX6_beginWindow 21 (.bipush 8) 2 23 := ⟨by decide +kernel, rfl⟩
theorem eX6_beginWindow_23 : zD cX6_beginWindow 23 (.laload) 1 24 := ⟨by decide +kernel, rfl⟩
theorem eX6_beginWindow_24 : zD cX6_beginWindow 24 (.lastore) 1 25 := ⟨by decide +kernel, rfl⟩
theorem eX6_beginWindow_25 : zD cX6_beginWindow 25 (.iconst 0) 1 26 := ⟨by decide +kernel, rfl⟩
theorem eX6_beginWindow_26 : zD cX6_beginWindow 26 (.istore_n 1) 1 27 := ⟨by decide +kernel, rfl⟩
theorem eX6_beginWindow_27 : zD cX6_beginWindow 27 (.iload_n 1) 1 28 := ⟨by decide +kernel, rfl⟩
theorem eX6_beginWindow_28 : zD cX6_beginWindow 28 (.i2l) 1 29 := ⟨by decide +kernel, rfl⟩
theorem eX6_beginWindow_29 : zD cX6_beginWindow 29 (.aload_n 0) 1 30 := ⟨by decide +kernel, rfl⟩
theorem eX6_beginWindow_30 : zD cX6_beginWindow 30 (.getfield 7) 3 33 := ⟨by decide +kernel, rfl⟩
theorem eX6_beginWindow_33 : zD cX6_beginWindow 33 (.bipush 11) 2 35 := ⟨by decide +kernel, rfl⟩
theorem eX6_beginWindow_35 : zD cX6_beginWindow 35 (.laload) 1 36 := ⟨by decide +kernel, rfl⟩
theorem eX6_beginWindow_36 : zD cX6_beginWindow 36 (.lcmp) 1 37 := ⟨by decide +kernel, rfl⟩
theorem eX6_beginWindow_37 : zJ cX6_beginWindow 37 (.ifCond .ge (14)) (14) 51 3 40 := ⟨by decide +kernel, rfl, by decide⟩
theorem eX6_beginWindow_40 : zD cX6_beginWindow 40 (.aload_n 0) 1 41 := ⟨by decide +kernel, rfl⟩
theorem eX6_beginWindow_41 : zD cX6_beginWindow 41 (.iload_n 1) 1 42 := ⟨by decide +kernel, rfl⟩
theorem eX6_beginWindow_42 : zD cX6_beginWindow 42 (.invokevirtual 200) 3 45 := ⟨by decide +kernel, rfl⟩
theorem eX6_beginWindow_45 : zD cX6_beginWindow 45 (.iinc 1 1) 3 48 := ⟨by decide +kernel, rfl⟩
theorem eX6_beginWindow_48 : zJ cX6_beginWindow 48 (.goto (-21)) (-21) 27 3 51 := ⟨by decide +kernel, rfl, by decide⟩
theorem eX6_beginWindow_51 : zD cX6_beginWindow 51 (.aload_n 0) 1 52 := ⟨by decide +kernel, rfl⟩
theorem eX6_beginWindow_52 : zD cX6_beginWindow 52 (.invokevirtual 203) 3 55 := ⟨by decide +kernel, rfl⟩
theorem eX6_beginWindow_55 : zD cX6_beginWindow 55 (.istore_n 1) 1 56 := ⟨by decide +kernel, rfl⟩
theorem eX6_beginWindow_56 : zD cX6_beginWindow 56 (.iload_n 1) 1 57 := ⟨by decide +kernel, rfl⟩
theorem eX6_beginWindow_57 : zD cX6_beginWindow 57 (.bipush (-6)) 2 59 := ⟨by decide +kernel, rfl⟩
theorem eX6_beginWindow_59 : zJ cX6_beginWindow 59 (.if_icmp .eq (86)) (86) 145 3 62 := ⟨by decide +kernel, rfl, by decide⟩
theorem eX6_beginWindow_62 : zD cX6_beginWindow 62 (.aload_n 0) 1 63 := ⟨by decide +kernel, rfl⟩
theorem eX6_beginWindow_63 : zD cX6_beginWindow 63 (.iload_n 1) 1 64 := ⟨by decide +kernel, rfl⟩
theorem eX6_beginWindow_64 : zD cX6_beginWindow 64 (.invokevirtual 161) 3 67 := ⟨by decide +kernel, rfl⟩
theorem eX6_beginWindow_67 : zD cX6_beginWindow 67 (.aload_n 0) 1 68 := ⟨by decide +kernel, rfl⟩
theorem eX6_beginWindow_68 : zD cX6_beginWindow 68 (.getfield 7) 3 71 := ⟨by decide +kernel, rfl⟩
theorem eX6_beginWindow_71 : zD cX6_beginWindow 71 (.iload_n 1) 1 72 := ⟨by decide +kernel, rfl⟩
theorem eX6_beginWindow_72 : zD cX6_beginWindow 72 (.iconst 3) 1 73 := ⟨by decide +kernel, rfl⟩
theorem eX6_beginWindow_73 : zD cX6_beginWindow 73 (.invokestatic 138) 3 76 := ⟨by decide +kernel, rfl⟩
theorem eX6_beginWindow_76 : zD cX6_beginWindow 76 (.laload) 1 77 := ⟨by decide +kernel, rfl⟩
theorem eX6_beginWindow_77 : zD cX6_beginWindow 77 (.lstore_n 2) 1 78 := ⟨by decide +kernel, rfl⟩
theorem eX6_beginWindow_78 : zD cX6_beginWindow 78 (.lload_n 2) 1 79 := ⟨by decide +kernel, rfl⟩
theorem eX6_beginWindow_79 : zD cX6_beginWindow 79 (.lload_n 2) 1 80 := ⟨by decide +kernel, rfl⟩
theorem eX6_beginWindow_80 : zD cX6_beginWindow 80 (.aload_n 0) 1 81 := ⟨by decide +kernel, rfl⟩
theorem eX6_beginWindow_81 : zD cX6_beginWindow 81 (.getfield 7) 3 84 := ⟨by decide +kernel, rfl⟩
theorem eX6_beginWindow_84 : zD cX6_beginWindow 84 (.iconst 4) 1 85 := ⟨by decide +kernel, rfl⟩
theorem eX6_beginWindow_85 : zD cX6_beginWindow 85 (.laload) 1 86 := ⟨by decide +kernel, rfl⟩
theorem eX6_beginWindow_86 : zD cX6_beginWindow 86 (.lmul) 1 87 := ⟨by decide +kernel, rfl⟩
theorem eX6_beginWindow_87 : zD cX6_beginWindow 87 (.ldc2_w 80) 3 90 := ⟨by decide +kernel, rfl⟩
theorem eX6_beginWindow_90 : zD cX6_beginWindow 90 (.ldiv) 1 91 := ⟨by decide +kernel, rfl⟩
theorem eX6_beginWindow_91 : zD cX6_beginWindow 91 (.ladd) 1 92 := ⟨by decide +kernel, rfl⟩
theorem eX6_beginWindow_92 : zD cX6_beginWindow 92 (.lstore_n 2) 1 93 := ⟨by decide +kernel, rfl⟩
theorem eX6_beginWindow_93 : zD cX6_beginWindow 93 (.aload_n 0) 1 94 := ⟨by decide +kernel, rfl⟩
theorem eX6_beginWindow_94 : zD cX6_beginWindow 94 (.getfield 7) 3 97 := ⟨by decide +kernel, rfl⟩
theorem eX6_beginWindow_97 : zD cX6_beginWindow 97 (.iload_n 1) 1 98 := ⟨by decide +kernel, rfl⟩
theorem eX6_beginWindow_98 : zD cX6_beginWindow 98 (.iconst 3) 1 99 := ⟨by decide +kernel, rfl⟩
theorem eX6_beginWindow_99 : zD cX6_beginWindow 99 (.invokestatic 138) 3 102 := ⟨by decide +kernel, rfl⟩
theorem eX6_beginWindow_102 : zD cX6_beginWindow 102 (.lload_n 2) 1 103 := ⟨by decide +kernel, rfl⟩
theorem eX6_beginWindow_103 : zD cX6_beginWindow 103 (.ldc2_w 206) 3 106 := ⟨by decide +kernel, rfl⟩
theorem eX6_beginWindow_106 : zD cX6_beginWindow 106 (.lcmp) 1 107 := ⟨by decide +kernel, rfl⟩
theorem eX6_beginWindow_107 : zJ cX6_beginWindow 107 (.ifCond .ge (7)) (7) 114 3 110 := ⟨by decide +kernel, rfl, by decide⟩
theorem eX6_beginWindow_110 : zD cX6_beginWindow 110 (.lload_n 2) 1 111 := ⟨by decide +kernel, rfl⟩
theorem eX6_beginWindow_111 : zJ cX6_beginWindow 111 (.goto (6)) (6) 117 3 114 := ⟨by decide +kernel, rfl, by decide⟩
theorem eX6_beginWindow_114 : zD cX6_beginWindow 114 (.ldc2_w 206) 3 117 := ⟨by decide +kernel, rfl⟩
theorem eX6_beginWindow_117 : zD cX6_beginWindow 117 (.lastore) 1 118 := ⟨by decide +kernel, rfl⟩
theorem eX6_beginWindow_118 : zD cX6_beginWindow 118 (.aload_n 0) 1 119 := ⟨by decide +kernel, rfl⟩
theorem eX6_beginWindow_119 : zD cX6_beginWindow 119 (.getfield 7) 3 122 := ⟨by decide +kernel, rfl⟩
theorem eX6_beginWindow_122 : zD cX6_beginWindow 122 (.iload_n 1) 1 123 := ⟨by decide +kernel, rfl⟩
theorem eX6_beginWindow_123 : zD cX6_beginWindow 123 (.iconst 4) 1 124 := ⟨by decide +kernel, rfl⟩
theorem eX6_beginWindow_124 : zD cX6_beginWindow 124 (.invokestatic 138) 3 127 := ⟨by decide +kernel, rfl⟩
theorem eX6_beginWindow_127 : zD cX6_beginWindow 127 (.aload_n 0) 1 128 := ⟨by decide +kernel, rfl⟩
theorem eX6_beginWindow_128 : zD cX6_beginWindow 128 (.getfield 7) 3 131 := ⟨by decide +kernel, rfl⟩
theorem eX6_beginWindow_131 : zD cX6_beginWindow 131 (.bipush 9) 2 133 := ⟨by decide +kernel, rfl⟩
theorem eX6_beginWindow_133 : zD cX6_beginWindow 133 (.laload) 1 134 := ⟨by decide +kernel, rfl⟩
theorem eX6_beginWindow_134 : zD cX6_beginWindow 134 (.lconst 1) 1 135 := ⟨by decide +kernel, rfl⟩
theorem eX6_beginWindow_135 : zD cX6_beginWindow 135 (.ladd) 1 136 := ⟨by decide +kernel, rfl⟩
theorem eX6_beginWindow_136 : zD cX6_beginWindow 136 (.lastore) 1 137 := ⟨by decide +kernel, rfl⟩
theorem eX6_beginWindow_137 : zD cX6_beginWindow 137 (.aload_n 0) 1 138 := ⟨by decide +kernel, rfl⟩
theorem eX6_beginWindow_138 : zD cX6_beginWindow 138 (.invokevirtual 203) 3 141 := ⟨by decide +kernel, rfl⟩
theorem eX6_beginWindow_141 : zD cX6_beginWindow 141 (.istore_n 1) 1 142 := ⟨by decide +kernel, rfl⟩
theorem eX6_beginWindow_142 : zJ cX6_beginWindow 142 (.goto (-86)) (-86) 56 3 145 := ⟨by decide +kernel, rfl, by decide⟩
theorem eX6_beginWindow_145 : zD cX6_beginWindow 145 (.aload_n 0) 1 146 := ⟨by decide +kernel, rfl⟩
theorem eX6_beginWindow_146 : zD cX6_beginWindow 146 (.invokevirtual 165) 3 149 := ⟨by decide +kernel, rfl⟩
theorem eX6_beginWindow_149 : zD cX6_beginWindow 149 (.return_) 1 150 := ⟨by decide +kernel, rfl⟩
theorem eX6_passHour_0 : zD cX6_passHour 0 (.aload_n 0) 1 1 := ⟨by decide +kernel, rfl⟩
theorem eX6_passHour_1 : zD cX6_passHour 1 (.getfield 7) 3 4 := ⟨by decide +kernel, rfl⟩
theorem eX6_passHour_4 : zD cX6_passHour 4 (.bipush 8) 2 6 := ⟨by decide +kernel, rfl⟩
theorem eX6_passHour_6 : zD cX6_passHour 6 (.dup2) 1 7 := ⟨by decide +kernel, rfl⟩
theorem eX6_passHour_7 : zD cX6_passHour 7 (.laload) 1 8 := ⟨by decide +kernel, rfl⟩
theorem eX6_passHour_8 : zD cX6_passHour 8 (.lconst 1) 1 9 := ⟨by decide +kernel, rfl⟩
theorem eX6_passHour_9 : zD cX6_passHour 9 (.ladd) 1 10 := ⟨by decide +kernel, rfl⟩
theorem eX6_passHour_10 : zD cX6_passHour 10 (.lastore) 1 11 := ⟨by decide +kernel, rfl⟩
theorem eX6_passHour_11 : zD cX6_passHour 11 (.aload_n 0) 1 12 := ⟨by decide +kernel, rfl⟩
theorem eX6_passHour_12 : zD cX6_passHour 12 (.getfield 7) 3 15 := ⟨by decide +kernel, rfl⟩
theorem eX6_passHour_15 : zD cX6_passHour 15 (.bipush 8) 2 17 := ⟨by decide +kernel, rfl⟩
theorem eX6_passHour_17 : zD cX6_passHour 17 (.laload) 1 18 := ⟨by decide +kernel, rfl⟩
theorem eX6_passHour_18 : zD cX6_passHour 18 (.aload_n 0) 1 19 := ⟨by decide +kernel, rfl⟩
theorem eX6_passHour_19 : zD cX6_passHour 19 (.getfield 7) 3 22 := ⟨by decide +kernel, rfl⟩
theorem eX6_passHour_22 : zD cX6_passHour 22 (.bipush 10) 2 24 := ⟨by decide +kernel, rfl⟩
theorem eX6_passHour_24 : zD cX6_passHour 24 (.laload) 1 25 := ⟨by decide +kernel, rfl⟩
theorem eX6_passHour_25 : zD cX6_passHour 25 (.lsub) 1 26 := ⟨by decide +kernel, rfl⟩
theorem eX6_passHour_26 : zD cX6_passHour 26 (.aload_n 0) 1 27 := ⟨by decide +kernel, rfl⟩
theorem eX6_passHour_27 : zD cX6_passHour 27 (.getfield 7) 3 30 := ⟨by decide +kernel, rfl⟩
theorem eX6_passHour_30 : zD cX6_passHour 30 (.iconst 0) 1 31 := ⟨by decide +kernel, rfl⟩
theorem eX6_passHour_31 : zD cX6_passHour 31 (.laload) 1 32 := ⟨by decide +kernel, rfl⟩
theorem eX6_passHour_32 : zD cX6_passHour 32 (.lcmp) 1 33 := ⟨by decide +kernel, rfl⟩
theorem eX6_passHour_33 : zJ cX6_passHour 33 (.ifCond .lt (7)) (7) 40 3 36 := ⟨by decide +kernel, rfl, by decide⟩
theorem eX6_passHour_36 : zD cX6_passHour 36 (.aload_n 0) 1 37 := ⟨by decide +kernel, rfl⟩
theorem eX6_passHour_37 : zD cX6_passHour 37 (.invokevirtual 208) 3 40 := ⟨by decide +kernel, rfl⟩
theorem eX6_passHour_40 : zD cX6_passHour 40 (.aload_n 0) 1 41 := ⟨by decide +kernel, rfl⟩
theorem eX6_passHour_41 : zD cX6_passHour 41 (.invokevirtual 211) 3 44 := ⟨by decide +kernel, rfl⟩
theorem eX6_passHour_44 : zD cX6_passHour 44 (.return_) 1 45 := ⟨by decide +kernel, rfl⟩
theorem eX6_pass_0 : zD cX6_pass 0 (.iconst 0) 1 1 := ⟨by decide +kernel, rfl⟩
theorem eX6_pass_1 : zD cX6_pass 1 (.istore_n 2) 1 2 := ⟨by decide +kernel, rfl⟩
theorem eX6_pass_2 : zD cX6_pass 2 (.iload_n 2) 1 3 := ⟨by decide +kernel, rfl⟩
theorem eX6_pass_3 : zD cX6_pass 3 (.iload_n 1) 1 4 := ⟨by decide +kernel, rfl⟩
theorem eX6_pass_4 : zJ cX6_pass 4 (.if_icmp .ge (13)) (13) 17 3 7 := ⟨by decide +kernel, rfl, by decide⟩
theorem eX6_pass_7 : zD cX6_pass 7 (.aload_n 0) 1 8 := ⟨by decide +kernel, rfl⟩
theorem eX6_pass_8 : zD cX6_pass 8 (.invokevirtual 214) 3 11 := ⟨by decide +kernel, rfl⟩
theorem eX6_pass_11 : zD cX6_pass 11 (.iinc 2 1) 3 14 := ⟨by decide +kernel, rfl⟩
theorem eX6_pass_14 : zJ cX6_pass 14 (.goto (-12)) (-12) 2 3 17 := ⟨by decide +kernel, rfl, by decide⟩
theorem eX6_pass_17 : zD cX6_pass 17 (.aload_n 0) 1 18 := ⟨by decide +kernel, rfl⟩
theorem eX6_pass_18 : zD cX6_pass 18 (.bipush 8) 2 20 := ⟨by decide +kernel, rfl⟩
theorem eX6_pass_20 : zD cX6_pass 20 (.invokevirtual 60) 3 23 := ⟨by decide +kernel, rfl⟩
theorem eX6_pass_23 : zD cX6_pass 23 (.ireturn) 1 24 := ⟨by decide +kernel, rfl⟩
theorem eX6_hours_0 : zD cX6_hours 0 (.iload_n 1) 1 1 := ⟨by decide +kernel, rfl⟩
theorem eX6_hours_1 : zD cX6_hours 1 (.i2l) 1 2 := ⟨by decide +kernel, rfl⟩
theorem eX6_hours_2 : zD cX6_hours 2 (.lconst 1) 1 3 := ⟨by decide +kernel, rfl⟩
theorem eX6_hours_3 : zD cX6_hours 3 (.ldc2_w 217) 3 6 := ⟨by decide +kernel, rfl⟩
theorem eX6_hours_6 : zD cX6_hours 6 (.invokestatic 56) 3 9 := ⟨by decide +kernel, rfl⟩
theorem eX6_hours_9 : zJ cX6_hours 9 (.ifCond .ne (6)) (6) 15 3 12 := ⟨by decide +kernel, rfl, by decide⟩
theorem eX6_hours_12 : zD cX6_hours 12 (.bipush (-2)) 2 14 := ⟨by decide +kernel, rfl⟩
theorem eX6_hours_14 : zD cX6_hours 14 (.ireturn) 1 15 := ⟨by decide +kernel, rfl⟩
theorem eX6_hours_15 : zD cX6_hours 15 (.aload_n 0) 1 16 := ⟨by decide +kernel, rfl⟩
theorem eX6_hours_16 : zD cX6_hours 16 (.invokevirtual 64) 3 19 := ⟨by decide +kernel, rfl⟩
theorem eX6_hours_19 : zD cX6_hours 19 (.aload_n 0) 1 20 := ⟨by decide +kernel, rfl⟩
theorem eX6_hours_20 : zD cX6_hours 20 (.iload_n 1) 1 21 := ⟨by decide +kernel, rfl⟩
theorem eX6_hours_21 : zD cX6_hours 21 (.invokevirtual 219) 3 24 := ⟨by decide +kernel, rfl⟩
theorem eX6_hours_24 : zD cX6_hours 24 (.ireturn) 1 25 := ⟨by decide +kernel, rfl⟩
theorem eX6_plansOf_0 : zD cX6_plansOf 0 (.iconst 0) 1 1 := ⟨by decide +kernel, rfl⟩
theorem eX6_plansOf_1 : zD cX6_plansOf 1 (.istore_n 2) 1 2 := ⟨by decide +kernel, rfl⟩
theorem eX6_plansOf_2 : zD cX6_plansOf 2 (.iconst 0) 1 3 := ⟨by decide +kernel, rfl⟩
theorem eX6_plansOf_3 : zD cX6_plansOf 3 (.istore_n 3) 1 4 := ⟨by decide +kernel, rfl⟩
theorem eX6_plansOf_4 : zD cX6_plansOf 4 (.iload_n 3) 1 5 := ⟨by decide +kernel, rfl⟩
theorem eX6_plansOf_5 : zD cX6_plansOf 5 (.i2l) 1 6 := ⟨by decide +kernel, rfl⟩
theorem eX6_plansOf_6 : zD cX6_plansOf 6 (.aload_n 0) 1 7 := ⟨by decide +kernel, rfl⟩
theorem eX6_plansOf_7 : zD cX6_plansOf 7 (.getfield 7) 3 10 := ⟨by decide +kernel, rfl⟩
theorem eX6_plansOf_10 : zD cX6_plansOf 10 (.bipush 13) 2 12 := ⟨by decide +kernel, rfl⟩
theorem eX6_plansOf_12 : zD cX6_plansOf 12 (.laload) 1 13 := ⟨by decide +kernel, rfl⟩
theorem eX6_plansOf_13 : zD cX6_plansOf 13 (.lcmp) 1 14 := ⟨by decide +kernel, rfl⟩
theorem eX6_plansOf_14 : zJ cX6_plansOf 14 (.ifCond .ge (33)) (33) 47 3 17 := ⟨by decide +kernel, rfl, by decide⟩
theorem eX6_plansOf_17 : zD cX6_plansOf 17 (.iload_n 2) 1 18 := ⟨by decide +kernel, rfl⟩
theorem eX6_plansOf_18 : zD cX6_plansOf 18 (.aload_n 0) 1 19 := ⟨by decide +kernel, rfl⟩
theorem eX6_plansOf_19 : zD cX6_plansOf 19 (.getfield 7) 3 22 := ⟨by decide +kernel, rfl⟩
theorem eX6_plansOf_22 : zD cX6_plansOf 22 (.iload_n 3) 1 23 := ⟨by decide +kernel, rfl⟩
theorem eX6_plansOf_23 : zD cX6_plansOf 23 (.iconst 0) 1 24 := ⟨by decide +kernel, rfl⟩
theorem eX6_plansOf_24 : zD cX6_plansOf 24 (.invokestatic 172) 3 27 := ⟨by decide +kernel, rfl⟩
theorem eX6_plansOf_27 : zD cX6_plansOf 27 (.laload) 1 28 := ⟨by decide +kernel, rfl⟩
theorem eX6_plansOf_28 : zD cX6_plansOf 28 (.iload_n 1) 1 29 := ⟨by decide +kernel, rfl⟩
theorem eX6_plansOf_29 : zD cX6_plansOf 29 (.i2l) 1 30 := ⟨by decide +kernel, rfl⟩
theorem eX6_plansOf_30 : zD cX6_plansOf 30 (.lcmp) 1 31 := ⟨by decide +kernel, rfl⟩
theorem eX6_plansOf_31 : zJ cX6_plansOf 31 (.ifCond .ne (7)) (7) 38 3 34 := ⟨by decide +kernel, rfl, by decide⟩
theorem eX6_plansOf_34 : zD cX6_plansOf 34 (.iconst 1) 1 35 := ⟨by decide +kernel, rfl⟩
theorem eX6_plansOf_35 : zJ cX6_plansOf 35 (.goto (4)) (4) 39 3 38 := ⟨by decide +kernel, rfl, by decide⟩
theorem eX6_plansOf_38 : zD cX6_plansOf 38 (.iconst 0) 1 39 := ⟨by decide +kernel, rfl⟩
theorem eX6_plansOf_39 : zD cX6_plansOf 39 (.iadd) 1 40 := ⟨by decide +kernel, rfl⟩
theorem eX6_plansOf_40 : zD cX6_plansOf 40 (.istore_n 2) 1 41 := ⟨by decide +kernel, rfl⟩
theorem eX6_plansOf_41 : zD cX6_plansOf 41 (.iinc 3 1) 3 44 := ⟨by decide +kernel, rfl⟩
theorem eX6_plansOf_44 : zJ cX6_plansOf 44 (.goto (-40)) (-40) 4 3 47 := ⟨by decide +kernel, rfl, by decide⟩
theorem eX6_plansOf_47 : zD cX6_plansOf 47 (.iload_n 2) 1 48 := ⟨by decide +kernel, rfl⟩
theorem eX6_plansOf_48 : zD cX6_plansOf 48 (.ireturn) 1 49 := ⟨by decide +kernel, rfl⟩
theorem eX6_ofService_0 : zD cX6_ofService 0 (.aload_n 0) 1 1 := ⟨by decide +kernel, rfl⟩
theorem eX6_ofService_1 : zD cX6_ofService 1 (.iload_n 1) 1 2 := ⟨by decide +kernel, rfl⟩
theorem eX6_ofService_2 : zD cX6_ofService 2 (.invokevirtual 108) 3 5 := ⟨by decide +kernel, rfl⟩
theorem eX6_ofService_5 : zJ cX6_ofService 5 (.ifCond .ne (5)) (5) 10 3 8 := ⟨by decide +kernel, rfl, by decide⟩
theorem eX6_ofService_8 : zD cX6_ofService 8 (.iconst (-1)) 1 9 := ⟨by decide +kernel, rfl⟩
theorem eX6_ofService_9 : zD cX6_ofService 9 (.ireturn) 1 10 := ⟨by decide +kernel, rfl⟩
theorem eX6_ofService_10 : zD cX6_ofService 10 (.iload_n 2) 1 11 := ⟨by decide +kernel, rfl⟩
theorem eX6_ofService_11 : zD cX6_ofService 11 (.tableswitch 137 0 10 #[57, 67, 77, 87, 87, 103, 103, 119, 125, 125, 125]) 57 68 := ⟨by decide +kernel, rfl⟩
theorem eX6_ofService_68 : zD cX6_ofService 68 (.aload_n 0) 1 69 := ⟨by decide +kernel, rfl⟩
theorem eX6_ofService_69 : zD cX6_ofService 69 (.iload_n 1) 1 70 := ⟨by decide +kernel, rfl⟩
theorem eX6_ofService_70 : zD cX6_ofService 70 (.iconst 0) 1 71 := ⟨by decide +kernel, rfl⟩
theorem eX6_ofService_71 : zD cX6_ofService 71 (.invokestatic 86) 3 74 := ⟨by decide +kernel, rfl⟩
theorem eX6_ofService_74 : zD cX6_ofService 74 (.invokevirtual 60) 3 77 := ⟨by decide +kernel, rfl⟩
theorem eX6_ofService_77 : zD cX6_ofService 77 (.ireturn) 1 78 := ⟨by decide +kernel, rfl⟩
theorem eX6_ofService_78 : zD cX6_ofService 78 (.aload_n 0) 1 79 := ⟨by decide +kernel, rfl⟩
theorem eX6_ofService_79 : zD cX6_ofService 79 (.iload_n 1) 1 80 := ⟨by decide +kernel, rfl⟩
theorem eX6_ofService_80 : zD cX6_ofService 80 (.iconst 3) 1 81 := ⟨by decide +kernel, rfl⟩
theorem eX6_ofService_81 : zD cX6_ofService 81 (.invokestatic 86) 3 84 := ⟨by decide +kernel, rfl⟩
theorem eX6_ofService_84 : zD cX6_ofService 84 (.invokevirtual 60) 3 87 := ⟨by decide +kernel, rfl⟩
theorem eX6_ofService_87 : zD cX6_ofService 87 (.ireturn) 1 88 := ⟨by decide +kernel, rfl⟩
theorem eX6_ofService_88 : zD cX6_ofService 88 (.aload_n 0) 1 89 := ⟨by decide +kernel, rfl⟩
theorem eX6_ofService_89 : zD cX6_ofService 89 (.iload_n 1) 1 90 := ⟨by decide +kernel, rfl⟩
theorem eX6_ofService_90 : zD cX6_ofService 90 (.iconst 2) 1 91 := ⟨by decide +kernel, rfl⟩
theorem eX6_ofService_91 : zD cX6_ofService 91 (.invokestatic 86) 3 94 := ⟨by decide +kernel, rfl⟩
theorem eX6_ofService_94 : zD cX6_ofService 94 (.invokevirtual 60) 3 97 := ⟨by decide +kernel, rfl⟩
theorem eX6_ofService_97 : zD cX6_ofService 97 (.ireturn) 1 98 := ⟨by decide +kernel, rfl⟩
theorem eX6_ofService_98 : zD cX6_ofService 98 (.aload_n 0) 1 99 := ⟨by decide +kernel, rfl⟩
theorem eX6_ofService_99 : zD cX6_ofService 99 (.iload_n 1) 1 100 := ⟨by decide +kernel, rfl⟩
theorem eX6_ofService_100 : zD cX6_ofService 100 (.iload_n 2) 1 101 := ⟨by decide +kernel, rfl⟩
theorem eX6_ofService_101 : zD cX6_ofService 101 (.iconst 3) 1 102 := ⟨by decide +kernel, rfl⟩
theorem eX6_ofService_102 : zJ cX6_ofService 102 (.if_icmp .ne (7)) (7) 109 3 105 := ⟨by decide +kernel, rfl, by decide⟩
theorem eX6_ofService_105 : zD cX6_ofService 105 (.iconst 1) 1 106 := ⟨by decide +kernel, rfl⟩
theorem eX6_ofService_106 : zJ cX6_ofService 106 (.goto (4)) (4) 110 3 109 := ⟨by decide +kernel, rfl, by decide⟩
theorem eX6_ofService_109 : zD cX6_ofService 109 (.iconst 0) 1 110 := ⟨by decide +kernel, rfl⟩
theorem eX6_ofService_110 : zD cX6_ofService 110 (.invokevirtual 141) 3 113 := ⟨by decide +kernel, rfl⟩
theorem eX6_ofService_113 : zD cX6_ofService 113 (.ireturn) 1 114 := ⟨by decide +kernel, rfl⟩
theorem eX6_ofService_114 : zD cX6_ofService 114 (.aload_n 0) 1 115 := ⟨by decide +kernel, rfl⟩
theorem eX6_ofService_115 : zD cX6_ofService 115 (.iload_n 1) 1 116 := ⟨by decide +kernel, rfl⟩
theorem eX6_ofService_116 : zD cX6_ofService 116 (.iload_n 2) 1 117 := ⟨by decide +kernel, rfl⟩
theorem eX6_ofService_117 : zD cX6_ofService 117 (.iconst 5) 1 118 := ⟨by decide +kernel, rfl⟩
theorem eX6_ofService_118 : zJ cX6_ofService 118 (.if_icmp .ne (7)) (7) 125 3 121 := ⟨by decide +kernel, rfl, by decide⟩
theorem eX6_ofService_121 : zD cX6_ofService 121 (.iconst 1) 1 122 := ⟨by decide +kernel, rfl⟩
theorem eX6_ofService_122 : zJ cX6_ofService 122 (.goto (4)) (4) 126 3 125 := ⟨by decide +kernel, rfl, by decide⟩
theorem eX6_ofService_125 : zD cX6_ofService 125 (.iconst 0) 1 126 := ⟨by decide +kernel, rfl⟩
theorem eX6_ofService_126 : zD cX6_ofService 126 (.invokevirtual 222) 3 129 := ⟨by decide +kernel, rfl⟩
theorem eX6_ofService_129 : zD cX6_ofService 129 (.ireturn) 1 130 := ⟨by decide +kernel, rfl⟩
theorem eX6_ofService_130 : zD cX6_ofService 130 (.aload_n 0) 1 131 := ⟨by decide +kernel, rfl⟩
theorem eX6_ofService_131 : zD cX6_ofService 131 (.iload_n 1) 1 132 := ⟨by decide +kernel, rfl⟩
theorem eX6_ofService_132 : zD cX6_ofService 132 (.invokevirtual 225) 3 135 := ⟨by decide +kernel, rfl⟩
theorem eX6_ofService_135 : zD cX6_ofService 135 (.ireturn) 1 136 := ⟨by decide +kernel, rfl⟩
theorem eX6_ofService_136 : zD cX6_ofService 136 (.aload_n 0) 1 137 := ⟨by decide +kernel, rfl⟩
theorem eX6_ofService_137 : zD cX6_ofService 137 (.iload_n 1) 1 138 := ⟨by decide +kernel, rfl⟩
theorem eX6_ofService_138 : zD cX6_ofService 138 (.iload_n 2) 1 139 := ⟨by decide +kernel, rfl⟩
theorem eX6_ofService_139 : zD cX6_ofService 139 (.iconst 4) 1 140 := ⟨by decide +kernel, rfl⟩
theorem eX6_ofService_140 : zD cX6_ofService 140 (.isub) 1 141 := ⟨by decide +kernel, rfl⟩
theorem eX6_ofService_141 : zD cX6_ofService 141 (.invokestatic 86) 3 144 := ⟨by decide +kernel, rfl⟩
theorem eX6_ofService_144 : zD cX6_ofService 144 (.invokevirtual 60) 3 147 := ⟨by decide +kernel, rfl⟩
theorem eX6_ofService_147 : zD cX6_ofService 147 (.ireturn) 1 148 := ⟨by decide +kernel, rfl⟩
theorem eX6_ofService_148 : zD cX6_ofService 148 (.bipush (-2)) 2 150 := ⟨by decide +kernel, rfl⟩
theorem eX6_ofService_150 : zD cX6_ofService 150 (.ireturn) 1 151 := ⟨by decide +kernel, rfl⟩
theorem eX6_account_0 : zD cX6_account 0 (.aload_n 0) 1 1 := ⟨by decide +kernel, rfl⟩
theorem eX6_account_1 : zD cX6_account 1 (.iload_n 1) 1 2 := ⟨by decide +kernel, rfl⟩
theorem eX6_account_2 : zD cX6_account 2 (.invokevirtual 108) 3 5 := ⟨by decide +kernel, rfl⟩
theorem eX6_account_5 : zJ cX6_account 5 (.ifCond .ne (7)) (7) 12 3 8 := ⟨by decide +kernel, rfl, by decide⟩
theorem eX6_account_8 : zD cX6_account 8 (.ldc2_w 228) 3 11 := ⟨by decide +kernel, rfl⟩
theorem eX6_account_11 : zD cX6_account 11 (.lreturn) 1 12 := ⟨by decide +kernel, rfl⟩
theorem eX6_account_12 : zD cX6_account 12 (.iload_n 2) 1 13 := ⟨by decide +kernel, rfl⟩
theorem eX6_account_13 : zD cX6_account 13 (.i2l) 1 14 := ⟨by decide +kernel, rfl⟩
theorem eX6_account_14 : zD cX6_account 14 (.lconst 0) 1 15 := ⟨by decide +kernel, rfl⟩
theorem eX6_account_15 : zD cX6_account 15 (.ldc2_w 230) 3 18 := ⟨by decide +kernel, rfl⟩
theorem eX6_account_18 : zD cX6_account 18 (.invokestatic 56) 3 21 := ⟨by decide +kernel, rfl⟩
theorem eX6_account_21 : zJ cX6_account 21 (.ifCond .eq (16)) (16) 37 3 24 := ⟨by decide +kernel, rfl, by decide⟩
theorem eX6_account_24 : zD cX6_account 24 (.aload_n 0) 1 25 := ⟨by decide +kernel, rfl⟩
theorem eX6_account_25 : zD cX6_account 25 (.getfield 7) 3 28 := ⟨by decide +kernel, rfl⟩
theorem eX6_account_28 : zD cX6_account 28 (.iload_n 1) 1 29 := ⟨by decide +kernel, rfl⟩
theorem eX6_account_29 : zD cX6_account 29 (.iload_n 2) 1 30 := ⟨by decide +kernel, rfl⟩
theorem eX6_account_30 : zD cX6_account 30 (.invokestatic 105) 3 33 := ⟨by decide +kernel, rfl⟩
theorem eX6_account_33 : zD cX6_account 33 (.laload) 1 34 := ⟨by decide +kernel, rfl⟩
theorem eX6_account_34 : zJ cX6_account 34 (.goto (20)) (20) 54 3 37 := ⟨by decide +kernel, rfl, by decide⟩
theorem eX6_account_37 : zD cX6_account 37 (.iload_n 2) 1 38 := ⟨by decide +kernel, rfl⟩
theorem eX6_account_38 : zD cX6_account 38 (.bipush 8) 2 40 := ⟨by decide +kernel, rfl⟩
theorem eX6_account_40 : zJ cX6_account 40 (.if_icmp .ne (11)) (11) 51 3 43 := ⟨by decide +kernel, rfl, by decide⟩
theorem eX6_account_43 : zD cX6_account 43 (.aload_n 0) 1 44 := ⟨by decide +kernel, rfl⟩
theorem eX6_account_44 : zD cX6_account 44 (.iload_n 1) 1 45 := ⟨by decide +kernel, rfl⟩
theorem eX6_account_45 : zD cX6_account 45 (.invokevirtual 90) 3 48 := ⟨by decide +kernel, rfl⟩
theorem eX6_account_48 : zJ cX6_account 48 (.goto (6)) (6) 54 3 51 := ⟨by decide +kernel, rfl, by decide⟩
theorem eX6_account_51 : zD cX6_account 51 (.ldc2_w 232) 3 54 := ⟨by decide +kernel, rfl⟩
theorem eX6_account_54 : zD cX6_account 54 (.lreturn) 1 55 := ⟨by decide +kernel, rfl⟩
theorem eX6_ofLoan_0 : zD cX6_ofLoan 0 (.aload_n 0) 1 1 := ⟨by decide +kernel, rfl⟩
theorem eX6_ofLoan_1 : zD cX6_ofLoan 1 (.iload_n 1) 1 2 := ⟨by decide +kernel, rfl⟩
theorem eX6_ofLoan_2 : zD cX6_ofLoan 2 (.invokevirtual 158) 3 5 := ⟨by decide +kernel, rfl⟩
theorem eX6_ofLoan_5 : zJ cX6_ofLoan 5 (.ifCond .ne (5)) (5) 10 3 8 := ⟨by decide +kernel, rfl, by decide⟩
theorem eX6_ofLoan_8 : zD cX6_ofLoan 8 (.iconst (-1)) 1 9 := ⟨by decide +kernel, rfl⟩
theorem eX6_ofLoan_9 : zD cX6_ofLoan 9 (.ireturn) 1 10 := ⟨by decide +kernel, rfl⟩
theorem eX6_ofLoan_10 : zD cX6_ofLoan 10 (.iload_n 2) 1 11 := ⟨by decide +kernel, rfl⟩
theorem eX6_ofLoan_11 : zD cX6_ofLoan 11 (.i2l) 1 12 := ⟨by decide +kernel, rfl⟩
theorem eX6_ofLoan_12 : zD cX6_ofLoan 12 (.lconst 0) 1 13 := ⟨by decide +kernel, rfl⟩
theorem eX6_ofLoan_13 : zD cX6_ofLoan 13 (.ldc2_w 78) 3 16 := ⟨by decide +kernel, rfl⟩
theorem eX6_ofLoan_16 : zD cX6_ofLoan 16 (.invokestatic 56) 3 19 := ⟨by decide +kernel, rfl⟩
theorem eX6_ofLoan_19 : zJ cX6_ofLoan 19 (.ifCond .eq (15)) (15) 34 3 22 := ⟨by decide +kernel, rfl, by decide⟩
theorem eX6_ofLoan_22 : zD cX6_ofLoan 22 (.aload_n 0) 1 23 := ⟨by decide +kernel, rfl⟩
theorem eX6_ofLoan_23 : zD cX6_ofLoan 23 (.iload_n 1) 1 24 := ⟨by decide +kernel, rfl⟩
theorem eX6_ofLoan_24 : zD cX6_ofLoan 24 (.iload_n 2) 1 25 := ⟨by decide +kernel, rfl⟩
theorem eX6_ofLoan_25 : zD cX6_ofLoan 25 (.invokestatic 138) 3 28 := ⟨by decide +kernel, rfl⟩
theorem eX6_ofLoan_28 : zD cX6_ofLoan 28 (.invokevirtual 60) 3 31 := ⟨by decide +kernel, rfl⟩
theorem eX6_ofLoan_31 : zJ cX6_ofLoan 31 (.goto (5)) (5) 36 3 34 := ⟨by decide +kernel, rfl, by decide⟩
theorem eX6_ofLoan_34 : zD cX6_ofLoan 34 (.bipush (-2)) 2 36 := ⟨by decide +kernel, rfl⟩
theorem eX6_ofLoan_36 : zD cX6_ofLoan 36 (.ireturn) 1 37 := ⟨by decide +kernel, rfl⟩
theorem eX6_ofPlan_0 : zD cX6_ofPlan 0 (.aload_n 0) 1 1 := ⟨by decide +kernel, rfl⟩
theorem eX6_ofPlan_1 : zD cX6_ofPlan 1 (.iload_n 1) 1 2 := ⟨by decide +kernel, rfl⟩
theorem eX6_ofPlan_2 : zD cX6_ofPlan 2 (.invokevirtual 184) 3 5 := ⟨by decide +kernel, rfl⟩
theorem eX6_ofPlan_5 : zJ cX6_ofPlan 5 (.ifCond .ne (5)) (5) 10 3 8 := ⟨by decide +kernel, rfl, by decide⟩
theorem eX6_ofPlan_8 : zD cX6_ofPlan 8 (.iconst (-1)) 1 9 := ⟨by decide +kernel, rfl⟩
theorem eX6_ofPlan_9 : zD cX6_ofPlan 9 (.ireturn) 1 10 := ⟨by decide +kernel, rfl⟩
theorem eX6_ofPlan_10 : zD cX6_ofPlan 10 (.iload_n 2) 1 11 := ⟨by decide +kernel, rfl⟩
theorem eX6_ofPlan_11 : zD cX6_ofPlan 11 (.i2l) 1 12 := ⟨by decide +kernel, rfl⟩
theorem eX6_ofPlan_12 : zD cX6_ofPlan 12 (.lconst 0) 1 13 := ⟨by decide +kernel, rfl⟩
theorem eX6_ofPlan_13 : zD cX6_ofPlan 13 (.ldc2_w 47) 3 16 := ⟨by decide +kernel, rfl⟩
theorem eX6_ofPlan_16 : zD cX6_ofPlan 16 (.invokestatic 56) 3 19 := ⟨by decide +kernel, rfl⟩
theorem eX6_ofPlan_19 : zJ cX6_ofPlan 19 (.ifCond .eq (15)) (15) 34 3 22 := ⟨by decide +kernel, rfl, by decide⟩
theorem eX6_ofPlan_22 : zD cX6_ofPlan 22 (.aload_n 0) 1 23 := ⟨by decide +kernel, rfl⟩
theorem eX6_ofPlan_23 : zD cX6_ofPlan 23 (.iload_n 1) 1 24 := ⟨by decide +kernel, rfl⟩
theorem eX6_ofPlan_24 : zD cX6_ofPlan 24 (.iload_n 2) 1 25 := ⟨by decide +kernel, rfl⟩
theorem eX6_ofPlan_25 : zD cX6_ofPlan 25 (.invokestatic 172) 3 28 := ⟨by decide +kernel, rfl⟩
theorem eX6_ofPlan_28 : zD cX6_ofPlan 28 (.invokevirtual 60) 3 31 := ⟨by decide +kernel, rfl⟩
theorem eX6_ofPlan_31 : zJ cX6_ofPlan 31 (.goto (5)) (5) 36 3 34 := ⟨by decide +kernel, rfl, by decide⟩
theorem eX6_ofPlan_34 : zD cX6_ofPlan 34 (.bipush (-2)) 2 36 := ⟨by decide +kernel, rfl⟩
theorem eX6_ofPlan_36 : zD cX6_ofPlan 36 (.ireturn) 1 37 := ⟨by decide +kernel, rfl⟩
theorem eX6_frozenSet_0 : zD cX6_frozenSet 0 (.iconst 0) 1 1 := ⟨by decide +kernel, rfl⟩
theorem eX6_frozenSet_1 : zD cX6_frozenSet 1 (.istore_n 1) 1 2 := ⟨by decide +kernel, rfl⟩
theorem eX6_frozenSet_2 : zD cX6_frozenSet 2 (.iconst 0) 1 3 := ⟨by decide +kernel, rfl⟩
theorem eX6_frozenSet_3 : zD cX6_frozenSet 3 (.istore_n 2) 1 4 := ⟨by decide +kernel, rfl⟩
theorem eX6_frozenSet_4 : zD cX6_frozenSet 4 (.iload_n 2) 1 5 := ⟨by decide +kernel, rfl⟩
theorem eX6_frozenSet_5 : zD cX6_frozenSet 5 (.i2l) 1 6 := ⟨by decide +kernel, rfl⟩
theorem eX6_frozenSet_6 : zD cX6_frozenSet 6 (.aload_n 0) 1 7 := ⟨by decide +kernel, rfl⟩
theorem eX6_frozenSet_7 : zD cX6_frozenSet 7 (.getfield 7) 3 10 := ⟨by decide +kernel, rfl⟩
theorem eX6_frozenSet_10 : zD cX6_frozenSet 10 (.bipush 11) 2 12 := ⟨by decide +kernel, rfl⟩
theorem eX6_frozenSet_12 : zD cX6_frozenSet 12 (.laload) 1 13 := ⟨by decide +kernel, rfl⟩
theorem eX6_frozenSet_13 : zD cX6_frozenSet 13 (.lcmp) 1 14 := ⟨by decide +kernel, rfl⟩
theorem eX6_frozenSet_14 : zJ cX6_frozenSet 14 (.ifCond .ge (27)) (27) 41 3 17 := ⟨by decide +kernel, rfl, by decide⟩
theorem eX6_frozenSet_17 : zD cX6_frozenSet 17 (.iload_n 1) 1 18 := ⟨by decide +kernel, rfl⟩
theorem eX6_frozenSet_18 : zD cX6_frozenSet 18 (.aload_n 0) 1 19 := ⟨by decide +kernel, rfl⟩
theorem eX6_frozenSet_19 : zD cX6_frozenSet 19 (.iload_n 2) 1 20 := ⟨by decide +kernel, rfl⟩
theorem eX6_frozenSet_20 : zD cX6_frozenSet 20 (.invokevirtual 94) 3 23 := ⟨by decide +kernel, rfl⟩
theorem eX6_frozenSet_23 : zJ cX6_frozenSet 23 (.ifCond .eq (9)) (9) 32 3 26 := ⟨by decide +kernel, rfl, by decide⟩
theorem eX6_frozenSet_26 : zD cX6_frozenSet 26 (.iconst 1) 1 27 := ⟨by decide +kernel, rfl⟩
theorem eX6_frozenSet_27 : zD cX6_frozenSet 27 (.iload_n 2) 1 28 := ⟨by decide +kernel, rfl⟩
theorem eX6_frozenSet_28 : zD cX6_frozenSet 28 (.ishl) 1 29 := ⟨by decide +kernel, rfl⟩
theorem eX6_frozenSet_29 : zJ cX6_frozenSet 29 (.goto (4)) (4) 33 3 32 := ⟨by decide +kernel, rfl, by decide⟩
theorem eX6_frozenSet_32 : zD cX6_frozenSet 32 (.iconst 0) 1 33 := ⟨by decide +kernel, rfl⟩
theorem eX6_frozenSet_33 : zD cX6_frozenSet 33 (.ior) 1 34 := ⟨by decide +kernel, rfl⟩
theorem eX6_frozenSet_34 : zD cX6_frozenSet 34 (.istore_n 1) 1 35 := ⟨by decide +kernel, rfl⟩
theorem eX6_frozenSet_35 : zD cX6_frozenSet 35 (.iinc 2 1) 3 38 := ⟨by decide +kernel, rfl⟩
theorem eX6_frozenSet_38 : zJ cX6_frozenSet 38 (.goto (-34)) (-34) 4 3 41 := ⟨by decide +kernel, rfl, by decide⟩
theorem eX6_frozenSet_41 : zD cX6_frozenSet 41 (.iload_n 1) 1 42 := ⟨by decide +kernel, rfl⟩
theorem eX6_frozenSet_42 : zD cX6_frozenSet 42 (.ireturn) 1 43 := ⟨by decide +kernel, rfl⟩
theorem eX6_count_0 : zD cX6_count 0 (.iload_n 1) 1 1 := ⟨by decide +kernel, rfl⟩
theorem eX6_count_1 : zD cX6_count 1 (.tableswitch 98 0 9 #[55, 55, 55, 55, 64, 69, 76, 83, 88, 93]) 55 56 := ⟨by decide +kernel, rfl⟩
theorem eX6_count_56 : zD cX6_count 56 (.aload_n 0) 1 57 := ⟨by decide +kernel, rfl⟩
theorem eX6_count_57 : zD cX6_count 57 (.bipush 8) 2 59 := ⟨by decide +kernel, rfl⟩
theorem eX6_count_59 : zD cX6_count 59 (.iload_n 1) 1 60 := ⟨by decide +kernel, rfl⟩
theorem eX6_count_60 : zD cX6_count 60 (.iadd) 1 61 := ⟨by decide +kernel, rfl⟩
theorem eX6_count_61 : zD cX6_count 61 (.invokevirtual 60) 3 64 := ⟨by decide +kernel, rfl⟩
theorem eX6_count_64 : zD cX6_count 64 (.ireturn) 1 65 := ⟨by decide +kernel, rfl⟩
theorem eX6_count_65 : zD cX6_count 65 (.aload_n 0) 1 66 := ⟨by decide +kernel, rfl⟩
theorem eX6_count_66 : zD cX6_count 66 (.invokevirtual 234) 3 69 := ⟨by decide +kernel, rfl⟩
theorem eX6_count_69 : zD cX6_count 69 (.ireturn) 1 70 := ⟨by decide +kernel, rfl⟩
theorem eX6_count_70 : zD cX6_count 70 (.aload_n 0) 1 71 := ⟨by decide +kernel, rfl⟩
theorem eX6_count_71 : zD cX6_count 71 (.bipush 12) 2 73 := ⟨by decide +kernel, rfl⟩
theorem eX6_count_73 : zD cX6_count 73 (.invokevirtual 60) 3 76 := ⟨by decide +kernel, rfl⟩
theorem eX6_count_76 : zD cX6_count 76 (.ireturn) 1 77 := ⟨by decide +kernel, rfl⟩
theorem eX6_count_77 : zD cX6_count 77 (.aload_n 0) 1 78 := ⟨by decide +kernel, rfl⟩
theorem eX6_count_78 : zD cX6_count 78 (.bipush 13) 2 80 := ⟨by decide +kernel, rfl⟩
theorem eX6_count_80 : zD cX6_count 80 (.invokevirtual 60) 3 83 := ⟨by decide +kernel, rfl⟩
theorem eX6_count_83 : zD cX6_count 83 (.ireturn) 1 84 := ⟨by decide +kernel, rfl⟩
theorem eX6_count_84 : zD cX6_count 84 (.aload_n 0) 1 85 := ⟨by decide +kernel, rfl⟩
theorem eX6_count_85 : zD cX6_count 85 (.getfield 67) 3 88 := ⟨by decide +kernel, rfl⟩
theorem eX6_count_88 : zD cX6_count 88 (.ireturn) 1 89 := ⟨by decide +kernel, rfl⟩
theorem eX6_count_89 : zD cX6_count 89 (.aload_n 0) 1 90 := ⟨by decide +kernel, rfl⟩
theorem eX6_count_90 : zD cX6_count 90 (.getfield 237) 3 93 := ⟨by decide +kernel, rfl⟩
theorem eX6_count_93 : zD cX6_count 93 (.ireturn) 1 94 := ⟨by decide +kernel, rfl⟩
theorem eX6_count_94 : zD cX6_count 94 (.aload_n 0) 1 95 := ⟨by decide +kernel, rfl⟩
theorem eX6_count_95 : zD cX6_count 95 (.getfield 49) 3 98 := ⟨by decide +kernel, rfl⟩
theorem eX6_count_98 : zD cX6_count 98 (.ireturn) 1 99 := ⟨by decide +kernel, rfl⟩
theorem eX6_count_99 : zD cX6_count 99 (.iload_n 1) 1 100 := ⟨by decide +kernel, rfl⟩
theorem eX6_count_100 : zD cX6_count 100 (.i2l) 1 101 := ⟨by decide +kernel, rfl⟩
theorem eX6_count_101 : zD cX6_count 101 (.ldc2_w 41) 3 104 := ⟨by decide +kernel, rfl⟩
theorem eX6_count_104 : zD cX6_count 104 (.ldc2_w 240) 3 107 := ⟨by decide +kernel, rfl⟩
theorem eX6_count_107 : zD cX6_count 107 (.invokestatic 56) 3 110 := ⟨by decide +kernel, rfl⟩
theorem eX6_count_110 : zJ cX6_count 110 (.ifCond .eq (14)) (14) 124 3 113 := ⟨by decide +kernel, rfl, by decide⟩
theorem eX6_count_113 : zD cX6_count 113 (.aload_n 0) 1 114 := ⟨by decide +kernel, rfl⟩
theorem eX6_count_114 : zD cX6_count 114 (.iload_n 1) 1 115 := ⟨by decide +kernel, rfl⟩
theorem eX6_count_115 : zD cX6_count 115 (.bipush 10) 2 117 := ⟨by decide +kernel, rfl⟩
theorem eX6_count_117 : zD cX6_count 117 (.isub) 1 118 := ⟨by decide +kernel, rfl⟩
theorem eX6_count_118 : zD cX6_count 118 (.invokevirtual 60) 3 121 := ⟨by decide +kernel, rfl⟩
theorem eX6_count_121 : zJ cX6_count 121 (.goto (5)) (5) 126 3 124 := ⟨by decide +kernel, rfl, by decide⟩
theorem eX6_count_124 : zD cX6_count 124 (.bipush (-2)) 2 126 := ⟨by decide +kernel, rfl⟩
theorem eX6_count_126 : zD cX6_count 126 (.ireturn) 1 127 := ⟨by decide +kernel, rfl⟩
theorem eX6_leftIn_0 : zD cX6_leftIn 0 (.aload_n 0) 1 1 := ⟨by decide +kernel, rfl⟩
theorem eX6_leftIn_1 : zD cX6_leftIn 1 (.iload_n 1) 1 2 := ⟨by decide +kernel, rfl⟩
theorem eX6_leftIn_2 : zD cX6_leftIn 2 (.invokevirtual 108) 3 5 := ⟨by decide +kernel, rfl⟩
theorem eX6_leftIn_5 : zJ cX6_leftIn 5 (.ifCond .ne (7)) (7) 12 3 8 := ⟨by decide +kernel, rfl, by decide⟩
theorem eX6_leftIn_8 : zD cX6_leftIn 8 (.ldc2_w 228) 3 11 := ⟨by decide +kernel, rfl⟩
theorem eX6_leftIn_11 : zD cX6_leftIn 11 (.lreturn) 1 12 := ⟨by decide +kernel, rfl⟩
theorem eX6_leftIn_12 : zD cX6_leftIn 12 (.iload_n 2) 1 13 := ⟨by decide +kernel, rfl⟩
theorem eX6_leftIn_13 : zD cX6_leftIn 13 (.i2l) 1 14 := ⟨by decide +kernel, rfl⟩
theorem eX6_leftIn_14 : zD cX6_leftIn 14 (.lconst 1) 1 15 := ⟨by decide +kernel, rfl⟩
theorem eX6_leftIn_15 : zD cX6_leftIn 15 (.ldc2_w 217) 3 18 := ⟨by decide +kernel, rfl⟩
theorem eX6_leftIn_18 : zD cX6_leftIn 18 (.invokestatic 56) 3 21 := ⟨by decide +kernel, rfl⟩
theorem eX6_leftIn_21 : zJ cX6_leftIn 21 (.ifCond .ne (7)) (7) 28 3 24 := ⟨by decide +kernel, rfl, by decide⟩
theorem eX6_leftIn_24 : zD cX6_leftIn 24 (.ldc2_w 232) 3 27 := ⟨by decide +kernel, rfl⟩
theorem eX6_leftIn_27 : zD cX6_leftIn 27 (.lreturn) 1 28 := ⟨by decide +kernel, rfl⟩
theorem eX6_leftIn_28 : zD cX6_leftIn 28 (.aload_n 0) 1 29 := ⟨by decide +kernel, rfl⟩
theorem eX6_leftIn_29 : zD cX6_leftIn 29 (.iconst 0) 1 30 := ⟨by decide +kernel, rfl⟩
theorem eX6_leftIn_30 : zD cX6_leftIn 30 (.sipush 4086) 3 33 := ⟨by decide +kernel, rfl⟩
theorem eX6_leftIn_33 : zD cX6_leftIn 33 (.invokevirtual 52) 3 36 := ⟨by decide +kernel, rfl⟩
theorem eX6_leftIn_36 : zD cX6_leftIn 36 (.aload_n 0) 1 37 := ⟨by decide +kernel, rfl⟩
theorem eX6_leftIn_37 : zD cX6_leftIn 37 (.iload_n 2) 1 38 := ⟨by decide +kernel, rfl⟩
theorem eX6_leftIn_38 : zD cX6_leftIn 38 (.invokevirtual 219) 3 41 := ⟨by decide +kernel, rfl⟩
theorem eX6_leftIn_41 : zD cX6_leftIn 41 (.pop) 1 42 := ⟨by decide +kernel, rfl⟩
theorem eX6_leftIn_42 : zD cX6_leftIn 42 (.aload_n 0) 1 43 := ⟨by decide +kernel, rfl⟩
theorem eX6_leftIn_43 : zD cX6_leftIn 43 (.iload_n 1) 1 44 := ⟨by decide +kernel, rfl⟩
theorem eX6_leftIn_44 : zD cX6_leftIn 44 (.invokevirtual 90) 3 47 := ⟨by decide +kernel, rfl⟩
theorem eX6_leftIn_47 : zD cX6_leftIn 47 (.lstore_n 3) 1 48 := ⟨by decide +kernel, rfl⟩
theorem eX6_leftIn_48 : zD cX6_leftIn 48 (.aload_n 0) 1 49 := ⟨by decide +kernel, rfl⟩
theorem eX6_leftIn_49 : zD cX6_leftIn 49 (.sipush 4086) 3 52 := ⟨by decide +kernel, rfl⟩
theorem eX6_leftIn_52 : zD cX6_leftIn 52 (.iconst 0) 1 53 := ⟨by decide +kernel, rfl⟩
theorem eX6_leftIn_53 : zD cX6_leftIn 53 (.invokevirtual 52) 3 56 := ⟨by decide +kernel, rfl⟩
theorem eX6_leftIn_56 : zD cX6_leftIn 56 (.lload_n 3) 1 57 := ⟨by decide +kernel, rfl⟩
theorem eX6_leftIn_57 : zD cX6_leftIn 57 (.lreturn) 1 58 := ⟨by decide +kernel, rfl⟩
theorem eX6_hoursTo_0 : zD cX6_hoursTo 0 (.aload_n 0) 1 1 := ⟨by decide +kernel, rfl⟩
theorem eX6_hoursTo_1 : zD cX6_hoursTo 1 (.iconst 0) 1 2 := ⟨by decide +kernel, rfl⟩
theorem eX6_hoursTo_2 : zD cX6_hoursTo 2 (.sipush 4086) 3 5 := ⟨by decide +kernel, rfl⟩
theorem eX6_hoursTo_5 : zD cX6_hoursTo 5 (.invokevirtual 52) 3 8 := ⟨by decide +kernel, rfl⟩
theorem eX6_hoursTo_8 : zD cX6_hoursTo 8 (.iconst 0) 1 9 := ⟨by decide +kernel, rfl⟩
theorem eX6_hoursTo_9 : zD cX6_hoursTo 9 (.istore_n 3) 1 10 := ⟨by decide +kernel, rfl⟩
theorem eX6_hoursTo_10 : zD cX6_hoursTo 10 (.aload_n 0) 1 11 := ⟨by decide +kernel, rfl⟩
theorem eX6_hoursTo_11 : zD cX6_hoursTo 11 (.iload_n 1) 1 12 := ⟨by decide +kernel, rfl⟩
theorem eX6_hoursTo_12 : zD cX6_hoursTo 12 (.invokevirtual 94) 3 15 := ⟨by decide +kernel, rfl⟩
theorem eX6_hoursTo_15 : zD cX6_hoursTo 15 (.iload_n 2) 1 16 := ⟨by decide +kernel, rfl⟩
theorem eX6_hoursTo_16 : zJ cX6_hoursTo 16 (.if_icmp .eq (20)) (20) 36 3 19 := ⟨by decide +kernel, rfl, by decide⟩
theorem eX6_hoursTo_19 : zD cX6_hoursTo 19 (.iload_n 3) 1 20 := ⟨by decide +kernel, rfl⟩
theorem eX6_hoursTo_20 : zD cX6_hoursTo 20 (.sipush 1000) 3 23 := ⟨by decide +kernel, rfl⟩
theorem eX6_hoursTo_23 : zJ cX6_hoursTo 23 (.if_icmp .ge (13)) (13) 36 3 26 := ⟨by decide +kernel, rfl, by decide⟩
theorem eX6_hoursTo_26 : zD cX6_hoursTo 26 (.aload_n 0) 1 27 := ⟨by decide +kernel, rfl⟩
theorem eX6_hoursTo_27 : zD cX6_hoursTo 27 (.invokevirtual 214) 3 30 := ⟨by decide +kernel, rfl⟩
theorem eX6_hoursTo_30 : zD cX6_hoursTo 30 (.iinc 3 1) 3 33 := ⟨by decide +kernel, rfl⟩
theorem eX6_hoursTo_33 : zJ cX6_hoursTo 33 (.goto (-23)) (-23) 10 3 36 := ⟨by decide +kernel, rfl, by decide⟩
theorem eX6_hoursTo_36 : zD cX6_hoursTo 36 (.aload_n 0) 1 37 := ⟨by decide +kernel, rfl⟩
theorem eX6_hoursTo_37 : zD cX6_hoursTo 37 (.iload_n 1) 1 38 := ⟨by decide +kernel, rfl⟩
theorem eX6_hoursTo_38 : zD cX6_hoursTo 38 (.invokevirtual 94) 3 41 := ⟨by decide +kernel, rfl⟩
theorem eX6_hoursTo_41 : zD cX6_hoursTo 41 (.iload_n 2) 1 42 := ⟨by decide +kernel, rfl⟩
theorem eX6_hoursTo_42 : zJ cX6_hoursTo 42 (.if_icmp .ne (7)) (7) 49 3 45 := ⟨by decide +kernel, rfl, by decide⟩
theorem eX6_hoursTo_45 : zD cX6_hoursTo 45 (.iload_n 3) 1 46 := ⟨by decide +kernel, rfl⟩
theorem eX6_hoursTo_46 : zJ cX6_hoursTo 46 (.goto (5)) (5) 51 3 49 := ⟨by decide +kernel, rfl, by decide⟩
theorem eX6_hoursTo_49 : zD cX6_hoursTo 49 (.bipush (-6)) 2 51 := ⟨by decide +kernel, rfl⟩
theorem eX6_hoursTo_51 : zD cX6_hoursTo 51 (.istore 4) 2 53 := ⟨by decide +kernel, rfl⟩
theorem eX6_hoursTo_53 : zD cX6_hoursTo 53 (.aload_n 0) 1 54 := ⟨by decide +kernel, rfl⟩
theorem eX6_hoursTo_54 : zD cX6_hoursTo 54 (.sipush 4086) 3 57 := ⟨by decide +kernel, rfl⟩
theorem eX6_hoursTo_57 : zD cX6_hoursTo 57 (.iconst 0) 1 58 := ⟨by decide +kernel, rfl⟩
theorem eX6_hoursTo_58 : zD cX6_hoursTo 58 (.invokevirtual 52) 3 61 := ⟨by decide +kernel, rfl⟩
theorem eX6_hoursTo_61 : zD cX6_hoursTo 61 (.iload 4) 2 63 := ⟨by decide +kernel, rfl⟩
theorem eX6_hoursTo_63 : zD cX6_hoursTo 63 (.ireturn) 1 64 := ⟨by decide +kernel, rfl⟩
theorem eX6_frozenIn_0 : zD cX6_frozenIn 0 (.aload_n 0) 1 1 := ⟨by decide +kernel, rfl⟩
theorem eX6_frozenIn_1 : zD cX6_frozenIn 1 (.iload_n 1) 1 2 := ⟨by decide +kernel, rfl⟩
theorem eX6_frozenIn_2 : zD cX6_frozenIn 2 (.invokevirtual 108) 3 5 := ⟨by decide +kernel, rfl⟩
theorem eX6_frozenIn_5 : zJ cX6_frozenIn 5 (.ifCond .eq (12)) (12) 17 3 8 := ⟨by decide +kernel, rfl, by decide⟩
theorem eX6_frozenIn_8 : zD cX6_frozenIn 8 (.aload_n 0) 1 9 := ⟨by decide +kernel, rfl⟩
theorem eX6_frozenIn_9 : zD cX6_frozenIn 9 (.iload_n 1) 1 10 := ⟨by decide +kernel, rfl⟩
theorem eX6_frozenIn_10 : zD cX6_frozenIn 10 (.iconst 1) 1 11 := ⟨by decide +kernel, rfl⟩
theorem eX6_frozenIn_11 : zD cX6_frozenIn 11 (.invokevirtual 242) 3 14 := ⟨by decide +kernel, rfl⟩
theorem eX6_frozenIn_14 : zJ cX6_frozenIn 14 (.goto (4)) (4) 18 3 17 := ⟨by decide +kernel, rfl, by decide⟩
theorem eX6_frozenIn_17 : zD cX6_frozenIn 17 (.iconst (-1)) 1 18 := ⟨by decide +kernel, rfl⟩
theorem eX6_frozenIn_18 : zD cX6_frozenIn 18 (.ireturn) 1 19 := ⟨by decide +kernel, rfl⟩
theorem eX6_thawsIn_0 : zD cX6_thawsIn 0 (.aload_n 0) 1 1 := ⟨by decide +kernel, rfl⟩
theorem eX6_thawsIn_1 : zD cX6_thawsIn 1 (.iload_n 1) 1 2 := ⟨by decide +kernel, rfl⟩
theorem eX6_thawsIn_2 : zD cX6_thawsIn 2 (.invokevirtual 108) 3 5 := ⟨by decide +kernel, rfl⟩
theorem eX6_thawsIn_5 : zJ cX6_thawsIn 5 (.ifCond .eq (12)) (12) 17 3 8 := ⟨by decide +kernel, rfl, by decide⟩
theorem eX6_thawsIn_8 : zD cX6_thawsIn 8 (.aload_n 0) 1 9 := ⟨by decide +kernel, rfl⟩
theorem eX6_thawsIn_9 : zD cX6_thawsIn 9 (.iload_n 1) 1 10 := ⟨by decide +kernel, rfl⟩
theorem eX6_thawsIn_10 : zD cX6_thawsIn 10 (.iconst 0) 1 11 := ⟨by decide +kernel, rfl⟩
theorem eX6_thawsIn_11 : zD cX6_thawsIn 11 (.invokevirtual 242) 3 14 := ⟨by decide +kernel, rfl⟩
theorem eX6_thawsIn_14 : zJ cX6_thawsIn 14 (.goto (4)) (4) 18 3 17 := ⟨by decide +kernel, rfl, by decide⟩
theorem eX6_thawsIn_17 : zD cX6_thawsIn 17 (.iconst (-1)) 1 18 := ⟨by decide +kernel, rfl⟩
theorem eX6_thawsIn_18 : zD cX6_thawsIn 18 (.ireturn) 1 19 := ⟨by decide +kernel, rfl⟩
theorem eX6_doneAt_0 : zD cX6_doneAt 0 (.aload_n 0) 1 1 := ⟨by decide +kernel, rfl⟩
theorem eX6_doneAt_1 : zD cX6_doneAt 1 (.iload_n 1) 1 2 := ⟨by decide +kernel, rfl⟩
theorem eX6_doneAt_2 : zD cX6_doneAt 2 (.invokevirtual 184) 3 5 := ⟨by decide +kernel, rfl⟩
theorem eX6_doneAt_5 : zJ cX6_doneAt 5 (.ifCond .ne (5)) (5) 10 3 8 := ⟨by decide +kernel, rfl, by decide⟩
theorem eX6_doneAt_8 : zD cX6_doneAt 8 (.iconst (-1)) 1 9 := ⟨by decide +kernel, rfl⟩
theorem eX6_doneAt_9 : zD cX6_doneAt 9 (.ireturn) 1 10 := ⟨by decide +kernel, rfl⟩
theorem eX6_doneAt_10 : zD cX6_doneAt 10 (.aload_n 0) 1 11 := ⟨by decide +kernel, rfl⟩
theorem eX6_doneAt_11 : zD cX6_doneAt 11 (.iconst 0) 1 12 := ⟨by decide +kernel, rfl⟩
theorem eX6_doneAt_12 : zD cX6_doneAt 12 (.sipush 4086) 3 15 := ⟨by decide +kernel, rfl⟩
theorem eX6_doneAt_15 : zD cX6_doneAt 15 (.invokevirtual 52) 3 18 := ⟨by decide +kernel, rfl⟩
theorem eX6_doneAt_18 : zD cX6_doneAt 18 (.aload_n 0) 1 19 := ⟨by decide +kernel, rfl⟩
theorem eX6_doneAt_19 : zD cX6_doneAt 19 (.iload_n 1) 1 20 := ⟨by decide +kernel, rfl⟩
theorem eX6_doneAt_20 : zD cX6_doneAt 20 (.putfield 21) 3 23 := ⟨by decide +kernel, rfl⟩
theorem eX6_doneAt_23 : zD cX6_doneAt 23 (.aload_n 0) 1 24 := ⟨by decide +kernel, rfl⟩
theorem eX6_doneAt_24 : zD cX6_doneAt 24 (.iconst 0) 1 25 := ⟨by decide +kernel, rfl⟩
theorem eX6_doneAt_25 : zD cX6_doneAt 25 (.putfield 197) 3 28 := ⟨by decide +kernel, rfl⟩
theorem eX6_doneAt_28 : zD cX6_doneAt 28 (.iconst 0) 1 29 := ⟨by decide +kernel, rfl⟩
theorem eX6_doneAt_29 : zD cX6_doneAt 29 (.istore_n 2) 1 30 := ⟨by decide +kernel, rfl⟩
theorem eX6_doneAt_30 : zD cX6_doneAt 30 (.iload_n 2) 1 31 := ⟨by decide +kernel, rfl⟩
theorem eX6_doneAt_31 : zD cX6_doneAt 31 (.sipush 1000) 3 34 := ⟨by decide +kernel, rfl⟩
theorem eX6_doneAt_34 : zJ cX6_doneAt 34 (.if_icmp .ge (22)) (22) 56 3 37 := ⟨by decide +kernel, rfl, by decide⟩
theorem eX6_doneAt_37 : zD cX6_doneAt 37 (.aload_n 0) 1 38 := ⟨by decide +kernel, rfl⟩
theorem eX6_doneAt_38 : zD cX6_doneAt 38 (.getfield 21) 3 41 := ⟨by decide +kernel, rfl⟩
theorem eX6_doneAt_41 : zD cX6_doneAt 41 (.bipush (-6)) 2 43 := ⟨by decide +kernel, rfl⟩
theorem eX6_doneAt_43 : zJ cX6_doneAt 43 (.if_icmp .eq (13)) (13) 56 3 46 := ⟨by decide +kernel, rfl, by decide⟩
theorem eX6_doneAt_46 : zD cX6_doneAt 46 (.aload_n 0) 1 47 := ⟨by decide +kernel, rfl⟩
theorem eX6_doneAt_47 : zD cX6_doneAt 47 (.invokevirtual 214) 3 50 := ⟨by decide +kernel, rfl⟩
theorem eX6_doneAt_50 : zD cX6_doneAt 50 (.iinc 2 1) 3 53 := ⟨by decide +kernel, rfl⟩
theorem eX6_doneAt_53 : zJ cX6_doneAt 53 (.goto (-23)) (-23) 30 3 56 := ⟨by decide +kernel, rfl, by decide⟩
theorem eX6_doneAt_56 : zD cX6_doneAt 56 (.aload_n 0) 1 57 := ⟨by decide +kernel, rfl⟩
theorem eX6_doneAt_57 : zD cX6_doneAt 57 (.bipush (-6)) 2 59 := ⟨by decide +kernel, rfl⟩
theorem eX6_doneAt_59 : zD cX6_doneAt 59 (.putfield 21) 3 62 := ⟨by decide +kernel, rfl⟩
theorem eX6_doneAt_62 : zD cX6_doneAt 62 (.aload_n 0) 1 63 := ⟨by decide +kernel, rfl⟩
theorem eX6_doneAt_63 : zD cX6_doneAt 63 (.sipush 4086) 3 66 := ⟨by decide +kernel, rfl⟩
theorem eX6_doneAt_66 : zD cX6_doneAt 66 (.iconst 0) 1 67 := ⟨by decide +kernel, rfl⟩
theorem eX6_doneAt_67 : zD cX6_doneAt 67 (.invokevirtual 52) 3 70 := ⟨by decide +kernel, rfl⟩
theorem eX6_doneAt_70 : zD cX6_doneAt 70 (.aload_n 0) 1 71 := ⟨by decide +kernel, rfl⟩
theorem eX6_doneAt_71 : zD cX6_doneAt 71 (.getfield 197) 3 74 := ⟨by decide +kernel, rfl⟩
theorem eX6_doneAt_74 : zJ cX6_doneAt 74 (.ifCond .ne (8)) (8) 82 3 77 := ⟨by decide +kernel, rfl, by decide⟩
theorem eX6_doneAt_77 : zD cX6_doneAt 77 (.bipush (-6)) 2 79 := ⟨by decide +kernel, rfl⟩
theorem eX6_doneAt_79 : zJ cX6_doneAt 79 (.goto (7)) (7) 86 3 82 := ⟨by decide +kernel, rfl, by decide⟩
theorem eX6_doneAt_82 : zD cX6_doneAt 82 (.aload_n 0) 1 83 := ⟨by decide +kernel, rfl⟩
theorem eX6_doneAt_83 : zD cX6_doneAt 83 (.getfield 197) 3 86 := ⟨by decide +kernel, rfl⟩
theorem eX6_doneAt_86 : zD cX6_doneAt 86 (.ireturn) 1 87 := ⟨by decide +kernel, rfl⟩
theorem eX6_bestLender_0 : zD cX6_bestLender 0 (.aload_n 0) 1 1 := ⟨by decide +kernel, rfl⟩
theorem eX6_bestLender_1 : zD cX6_bestLender 1 (.iload_n 1) 1 2 := ⟨by decide +kernel, rfl⟩
theorem eX6_bestLender_2 : zD cX6_bestLender 2 (.invokevirtual 108) 3 5 := ⟨by decide +kernel, rfl⟩
theorem eX6_bestLender_5 : zJ cX6_bestLender 5 (.ifCond .ne (5)) (5) 10 3 8 := ⟨by decide +kernel, rfl, by decide⟩
theorem eX6_bestLender_8 : zD cX6_bestLender 8 (.iconst (-1)) 1 9 := ⟨by decide +kernel, rfl⟩
theorem eX6_bestLender_9 : zD cX6_bestLender 9 (.ireturn) 1 10 := ⟨by decide +kernel, rfl⟩
theorem eX6_bestLender_10 : zD cX6_bestLender 10 (.iload_n 2) 1 11 := ⟨by decide +kernel, rfl⟩
theorem eX6_bestLender_11 : zD cX6_bestLender 11 (.i2l) 1 12 := ⟨by decide +kernel, rfl⟩
theorem eX6_bestLender_12 : zD cX6_bestLender 12 (.lconst 1) 1 13 := ⟨by decide +kernel, rfl⟩
theorem eX6_bestLender_13 : zD cX6_bestLender 13 (.ldc2_w 144) 3 16 := ⟨by decide +kernel, rfl⟩
theorem eX6_bestLender_16 : zD cX6_bestLender 16 (.invokestatic 56) 3 19 := ⟨by decide +kernel, rfl⟩
theorem eX6_bestLender_19 : zJ cX6_bestLender 19 (.ifCond .ne (6)) (6) 25 3 22 := ⟨by decide +kernel, rfl, by decide⟩
theorem eX6_bestLender_22 : zD cX6_bestLender 22 (.bipush (-2)) 2 24 := ⟨by decide +kernel, rfl⟩
theorem eX6_bestLender_24 : zD cX6_bestLender 24 (.ireturn) 1 25 := ⟨by decide +kernel, rfl⟩
theorem eX6_bestLender_25 : zD cX6_bestLender 25 (.bipush (-6)) 2 27 := ⟨by decide +kernel, rfl⟩
theorem eX6_bestLender_27 : zD cX6_bestLender 27 (.istore_n 3) 1 28 := ⟨by decide +kernel, rfl⟩
theorem eX6_bestLender_28 : zD cX6_bestLender 28 (.iconst 0) 1 29 := ⟨by decide +kernel, rfl⟩
theorem eX6_bestLender_29 : zD cX6_bestLender 29 (.istore 4) 2 31 := ⟨by decide +kernel, rfl⟩
theorem eX6_bestLender_31 : zD cX6_bestLender 31 (.iload 4) 2 33 := ⟨by decide +kernel, rfl⟩
theorem eX6_bestLender_33 : zD cX6_bestLender 33 (.i2l) 1 34 := ⟨by decide +kernel, rfl⟩
theorem eX6_bestLender_34 : zD cX6_bestLender 34 (.aload_n 0) 1 35 := ⟨by decide +kernel, rfl⟩
theorem eX6_bestLender_35 : zD cX6_bestLender 35 (.getfield 7) 3 38 := ⟨by decide +kernel, rfl⟩
theorem eX6_bestLender_38 : zD cX6_bestLender 38 (.bipush 11) 2 40 := ⟨by decide +kernel, rfl⟩
theorem eX6_bestLender_40 : zD cX6_bestLender 40 (.laload) 1 41 := ⟨by decide +kernel, rfl⟩
theorem eX6_bestLender_41 : zD cX6_bestLender 41 (.lcmp) 1 42 := ⟨by decide +kernel, rfl⟩
theorem eX6_bestLender_42 : zJ cX6_bestLender 42 (.ifCond .ge (80)) (80) 122 3 45 := ⟨by decide +kernel, rfl, by decide⟩
theorem eX6_bestLender_45 : zD cX6_bestLender 45 (.iload 4) 2 47 := ⟨by decide +kernel, rfl⟩
theorem eX6_bestLender_47 : zD cX6_bestLender 47 (.iload_n 1) 1 48 := ⟨by decide +kernel, rfl⟩
theorem eX6_bestLender_48 : zJ cX6_bestLender 48 (.if_icmp .eq (32)) (32) 80 3 51 := ⟨by decide +kernel, rfl, by decide⟩
theorem eX6_bestLender_51 : zD cX6_bestLender 51 (.aload_n 0) 1 52 := ⟨by decide +kernel, rfl⟩
theorem eX6_bestLender_52 : zD cX6_bestLender 52 (.getfield 7) 3 55 := ⟨by decide +kernel, rfl⟩
theorem eX6_bestLender_55 : zD cX6_bestLender 55 (.bipush 12) 2 57 := ⟨by decide +kernel, rfl⟩
theorem eX6_bestLender_57 : zD cX6_bestLender 57 (.laload) 1 58 := ⟨by decide +kernel, rfl⟩
theorem eX6_bestLender_58 : zD cX6_bestLender 58 (.ldc2_w 146) 3 61 := ⟨by decide +kernel, rfl⟩
theorem eX6_bestLender_61 : zD cX6_bestLender 61 (.lcmp) 1 62 := ⟨by decide +kernel, rfl⟩
theorem eX6_bestLender_62 : zJ cX6_bestLender 62 (.ifCond .ge (18)) (18) 80 3 65 := ⟨by decide +kernel, rfl, by decide⟩
theorem eX6_bestLender_65 : zD cX6_bestLender 65 (.aload_n 0) 1 66 := ⟨by decide +kernel, rfl⟩
theorem eX6_bestLender_66 : zD cX6_bestLender 66 (.iload 4) 2 68 := ⟨by decide +kernel, rfl⟩
theorem eX6_bestLender_68 : zD cX6_bestLender 68 (.iload_n 1) 1 69 := ⟨by decide +kernel, rfl⟩
theorem eX6_bestLender_69 : zD cX6_bestLender 69 (.iload_n 2) 1 70 := ⟨by decide +kernel, rfl⟩
theorem eX6_bestLender_70 : zD cX6_bestLender 70 (.invokevirtual 148) 3 73 := ⟨by decide +kernel, rfl⟩
theorem eX6_bestLender_73 : zJ cX6_bestLender 73 (.ifCond .ne (7)) (7) 80 3 76 := ⟨by decide +kernel, rfl, by decide⟩
theorem eX6_bestLender_76 : zD cX6_bestLender 76 (.iconst 1) 1 77 := ⟨by decide +kernel, rfl⟩
theorem eX6_bestLender_77 : zJ cX6_bestLender 77 (.goto (4)) (4) 81 3 80 := ⟨by decide +kernel, rfl, by decide⟩
theorem eX6_bestLender_80 : zD cX6_bestLender 80 (.iconst 0) 1 81 := ⟨by decide +kernel, rfl⟩
theorem eX6_bestLender_81 : zD cX6_bestLender 81 (.istore 5) 2 83 := ⟨by decide +kernel, rfl⟩
theorem eX6_bestLender_83 : zD cX6_bestLender 83 (.iload 5) 2 85 := ⟨by decide +kernel, rfl⟩
theorem eX6_bestLender_85 : zJ cX6_bestLender 85 (.ifCond .eq (29)) (29) 114 3 88 := ⟨by decide +kernel, rfl, by decide⟩
theorem eX6_bestLender_88 : zD cX6_bestLender 88 (.iload_n 3) 1 89 := ⟨by decide +kernel, rfl⟩
theorem eX6_bestLender_89 : zD cX6_bestLender 89 (.bipush (-6)) 2 91 := ⟨by decide +kernel, rfl⟩
theorem eX6_bestLender_91 : zJ cX6_bestLender 91 (.if_icmp .eq (18)) (18) 109 3 94 := ⟨by decide +kernel, rfl, by decide⟩
theorem eX6_bestLender_94 : zD cX6_bestLender 94 (.aload_n 0) 1 95 := ⟨by decide +kernel, rfl⟩
theorem eX6_bestLender_95 : zD cX6_bestLender 95 (.iload 4) 2 97 := ⟨by decide +kernel, rfl⟩
theorem eX6_bestLender_97 : zD cX6_bestLender 97 (.invokevirtual 90) 3 100 := ⟨by decide +kernel, rfl⟩
theorem eX6_bestLender_100 : zD cX6_bestLender 100 (.aload_n 0) 1 101 := ⟨by decide +kernel, rfl⟩
theorem eX6_bestLender_101 : zD cX6_bestLender 101 (.iload_n 3) 1 102 := ⟨by decide +kernel, rfl⟩
theorem eX6_bestLender_102 : zD cX6_bestLender 102 (.invokevirtual 90) 3 105 := ⟨by decide +kernel, rfl⟩
theorem eX6_bestLender_105 : zD cX6_bestLender 105 (.lcmp) 1 106 := ⟨by decide +kernel, rfl⟩
theorem eX6_bestLender_106 : zJ cX6_bestLender 106 (.ifCond .le (8)) (8) 114 3 109 := ⟨by decide +kernel, rfl, by decide⟩
theorem eX6_bestLender_109 : zD cX6_bestLender 109 (.iload 4) 2 111 := ⟨by decide +kernel, rfl⟩
theorem eX6_bestLender_111 : zJ cX6_bestLender 111 (.goto (4)) (4) 115 3 114 := ⟨by decide +kernel, rfl, by decide⟩
theorem eX6_bestLender_114 : zD cX6_bestLender 114 (.iload_n 3) 1 115 := ⟨by decide +kernel, rfl⟩
theorem eX6_bestLender_115 : zD cX6_bestLender 115 (.istore_n 3) 1 116 := ⟨by decide +kernel, rfl⟩
theorem eX6_bestLender_116 : zD cX6_bestLender 116 (.iinc 4 1) 3 119 := ⟨by decide +kernel, rfl⟩
theorem eX6_bestLender_119 : zJ cX6_bestLender 119 (.goto (-88)) (-88) 31 3 122 := ⟨by decide +kernel, rfl, by decide⟩
theorem eX6_bestLender_122 : zD cX6_bestLender 122 (.iload_n 3) 1 123 := ⟨by decide +kernel, rfl⟩
theorem eX6_bestLender_123 : zD cX6_bestLender 123 (.ireturn) 1 124 := ⟨by decide +kernel, rfl⟩
theorem eX6_leastLoan_0 : zD cX6_leastLoan 0 (.aload_n 0) 1 1 := ⟨by decide +kernel, rfl⟩
theorem eX6_leastLoan_1 : zD cX6_leastLoan 1 (.iload_n 1) 1 2 := ⟨by decide +kernel, rfl⟩
theorem eX6_leastLoan_2 : zD cX6_leastLoan 2 (.invokevirtual 108) 3 5 := ⟨by decide +kernel, rfl⟩
theorem eX6_leastLoan_5 : zJ cX6_leastLoan 5 (.ifCond .ne (7)) (7) 12 3 8 := ⟨by decide +kernel, rfl, by decide⟩
theorem eX6_leastLoan_8 : zD cX6_leastLoan 8 (.ldc2_w 228) 3 11 := ⟨by decide +kernel, rfl⟩
theorem eX6_leastLoan_11 : zD cX6_leastLoan 11 (.lreturn) 1 12 := ⟨by decide +kernel, rfl⟩
theorem eX6_leastLoan_12 : zD cX6_leastLoan 12 (.aload_n 0) 1 13 := ⟨by decide +kernel, rfl⟩
theorem eX6_leastLoan_13 : zD cX6_leastLoan 13 (.iload_n 1) 1 14 := ⟨by decide +kernel, rfl⟩
theorem eX6_leastLoan_14 : zD cX6_leastLoan 14 (.invokevirtual 98) 3 17 := ⟨by decide +kernel, rfl⟩
theorem eX6_leastLoan_17 : zD cX6_leastLoan 17 (.aload_n 0) 1 18 := ⟨by decide +kernel, rfl⟩
theorem eX6_leastLoan_18 : zD cX6_leastLoan 18 (.iload_n 1) 1 19 := ⟨by decide +kernel, rfl⟩
theorem eX6_leastLoan_19 : zD cX6_leastLoan 19 (.invokevirtual 90) 3 22 := ⟨by decide +kernel, rfl⟩
theorem eX6_leastLoan_22 : zD cX6_leastLoan 22 (.lsub) 1 23 := ⟨by decide +kernel, rfl⟩
theorem eX6_leastLoan_23 : zD cX6_leastLoan 23 (.lconst 1) 1 24 := ⟨by decide +kernel, rfl⟩
theorem eX6_leastLoan_24 : zD cX6_leastLoan 24 (.ladd) 1 25 := ⟨by decide +kernel, rfl⟩
theorem eX6_leastLoan_25 : zD cX6_leastLoan 25 (.lstore_n 2) 1 26 := ⟨by decide +kernel, rfl⟩
theorem eX6_leastLoan_26 : zD cX6_leastLoan 26 (.aload_n 0) 1 27 := ⟨by decide +kernel, rfl⟩
theorem eX6_leastLoan_27 : zD cX6_leastLoan 27 (.iload_n 1) 1 28 := ⟨by decide +kernel, rfl⟩
theorem eX6_leastLoan_28 : zD cX6_leastLoan 28 (.invokevirtual 94) 3 31 := ⟨by decide +kernel, rfl⟩
theorem eX6_leastLoan_31 : zJ cX6_leastLoan 31 (.ifCond .ne (7)) (7) 38 3 34 := ⟨by decide +kernel, rfl, by decide⟩
theorem eX6_leastLoan_34 : zD cX6_leastLoan 34 (.lconst 0) 1 35 := ⟨by decide +kernel, rfl⟩
theorem eX6_leastLoan_35 : zJ cX6_leastLoan 35 (.goto (14)) (14) 49 3 38 := ⟨by decide +kernel, rfl, by decide⟩
theorem eX6_leastLoan_38 : zD cX6_leastLoan 38 (.lload_n 2) 1 39 := ⟨by decide +kernel, rfl⟩
theorem eX6_leastLoan_39 : zD cX6_leastLoan 39 (.lconst 1) 1 40 := ⟨by decide +kernel, rfl⟩
theorem eX6_leastLoan_40 : zD cX6_leastLoan 40 (.lcmp) 1 41 := ⟨by decide +kernel, rfl⟩
theorem eX6_leastLoan_41 : zJ cX6_leastLoan 41 (.ifCond .le (7)) (7) 48 3 44 := ⟨by decide +kernel, rfl, by decide⟩
theorem eX6_leastLoan_44 : zD cX6_leastLoan 44 (.lload_n 2) 1 45 := ⟨by decide +kernel, rfl⟩
theorem eX6_leastLoan_45 : zJ cX6_leastLoan 45 (.goto (4)) (4) 49 3 48 := ⟨by decide +kernel, rfl, by decide⟩
theorem eX6_leastLoan_48 : zD cX6_leastLoan 48 (.lconst 1) 1 49 := ⟨by decide +kernel, rfl⟩
theorem eX6_leastLoan_49 : zD cX6_leastLoan 49 (.lreturn) 1 50 := ⟨by decide +kernel, rfl⟩
theorem eX6_safeSize_0 : zD cX6_safeSize 0 (.aload_n 0) 1 1 := ⟨by decide +kernel, rfl⟩
theorem eX6_safeSize_1 : zD cX6_safeSize 1 (.iload_n 1) 1 2 := ⟨by decide +kernel, rfl⟩
theorem eX6_safeSize_2 : zD cX6_safeSize 2 (.invokevirtual 108) 3 5 := ⟨by decide +kernel, rfl⟩
theorem eX6_safeSize_5 : zJ cX6_safeSize 5 (.ifCond .ne (5)) (5) 10 3 8 := ⟨by decide +kernel, rfl, by decide⟩
theorem eX6_safeSize_8 : zD cX6_safeSize 8 (.iconst (-1)) 1 9 := ⟨by decide +kernel, rfl⟩
theorem eX6_safeSize_9 : zD cX6_safeSize 9 (.ireturn) 1 10 := ⟨by decide +kernel, rfl⟩
theorem eX6_safeSize_10 : zD cX6_safeSize 10 (.aload_n 0) 1 11 := ⟨by decide +kernel, rfl⟩
theorem eX6_safeSize_11 : zD cX6_safeSize 11 (.iload_n 1) 1 12 := ⟨by decide +kernel, rfl⟩
theorem eX6_safeSize_12 : zD cX6_safeSize 12 (.invokevirtual 90) 3 15 := ⟨by decide +kernel, rfl⟩
theorem eX6_safeSize_15 : zD cX6_safeSize 15 (.lconst 1) 1 16 := ⟨by decide +kernel, rfl⟩
theorem eX6_safeSize_16 : zD cX6_safeSize 16 (.lsub) 1 17 := ⟨by decide +kernel, rfl⟩
theorem eX6_safeSize_17 : zD cX6_safeSize 17 (.lstore_n 2) 1 18 := ⟨by decide +kernel, rfl⟩
theorem eX6_safeSize_18 : zD cX6_safeSize 18 (.aload_n 0) 1 19 := ⟨by decide +kernel, rfl⟩
theorem eX6_safeSize_19 : zD cX6_safeSize 19 (.iload_n 1) 1 20 := ⟨by decide +kernel, rfl⟩
theorem eX6_safeSize_20 : zD cX6_safeSize 20 (.invokevirtual 94) 3 23 := ⟨by decide +kernel, rfl⟩
theorem eX6_safeSize_23 : zJ cX6_safeSize 23 (.ifCond .ne (9)) (9) 32 3 26 := ⟨by decide +kernel, rfl, by decide⟩
theorem eX6_safeSize_26 : zD cX6_safeSize 26 (.lload_n 2) 1 27 := ⟨by decide +kernel, rfl⟩
theorem eX6_safeSize_27 : zD cX6_safeSize 27 (.lconst 1) 1 28 := ⟨by decide +kernel, rfl⟩
theorem eX6_safeSize_28 : zD cX6_safeSize 28 (.lcmp) 1 29 := ⟨by decide +kernel, rfl⟩
theorem eX6_safeSize_29 : zJ cX6_safeSize 29 (.ifCond .ge (8)) (8) 37 3 32 := ⟨by decide +kernel, rfl, by decide⟩
theorem eX6_safeSize_32 : zD cX6_safeSize 32 (.bipush (-6)) 2 34 := ⟨by decide +kernel, rfl⟩
theorem eX6_safeSize_34 : zJ cX6_safeSize 34 (.goto (19)) (19) 53 3 37 := ⟨by decide +kernel, rfl, by decide⟩
theorem eX6_safeSize_37 : zD cX6_safeSize 37 (.lload_n 2) 1 38 := ⟨by decide +kernel, rfl⟩
theorem eX6_safeSize_38 : zD cX6_safeSize 38 (.ldc2_w 127) 3 41 := ⟨by decide +kernel, rfl⟩
theorem eX6_safeSize_41 : zD cX6_safeSize 41 (.lcmp) 1 42 := ⟨by decide +kernel, rfl⟩
theorem eX6_safeSize_42 : zJ cX6_safeSize 42 (.ifCond .ge (8)) (8) 50 3 45 := ⟨by decide +kernel, rfl, by decide⟩
theorem eX6_safeSize_45 : zD cX6_safeSize 45 (.lload_n 2) 1 46 := ⟨by decide +kernel, rfl⟩
theorem eX6_safeSize_46 : zD cX6_safeSize 46 (.l2i) 1 47 := ⟨by decide +kernel, rfl⟩
theorem eX6_safeSize_47 : zJ cX6_safeSize 47 (.goto (6)) (6) 53 3 50 := ⟨by decide +kernel, rfl, by decide⟩
theorem eX6_safeSize_50 : zD cX6_safeSize 50 (.sipush 200) 3 53 := ⟨by decide +kernel, rfl⟩
theorem eX6_safeSize_53 : zD cX6_safeSize 53 (.ireturn) 1 54 := ⟨by decide +kernel, rfl⟩
theorem eX6_put_0 : zD cX6_put 0 (.iconst 0) 1 1 := ⟨by decide +kernel, rfl⟩
theorem eX6_put_1 : zD cX6_put 1 (.istore_n 3) 1 2 := ⟨by decide +kernel, rfl⟩
theorem eX6_put_2 : zD cX6_put 2 (.iconst 0) 1 3 := ⟨by decide +kernel, rfl⟩
theorem eX6_put_3 : zD cX6_put 3 (.istore 4) 2 5 := ⟨by decide +kernel, rfl⟩
theorem eX6_put_5 : zD cX6_put 5 (.lload_n 1) 1 6 := ⟨by decide +kernel, rfl⟩
theorem eX6_put_6 : zD cX6_put 6 (.lconst 0) 1 7 := ⟨by decide +kernel, rfl⟩
theorem eX6_put_7 : zD cX6_put 7 (.lcmp) 1 8 := ⟨by decide +kernel, rfl⟩
theorem eX6_put_8 : zJ cX6_put 8 (.ifCond .ne (7)) (7) 15 3 11 := ⟨by decide +kernel, rfl, by decide⟩
theorem eX6_put_11 : zD cX6_put 11 (.iconst 1) 1 12 := ⟨by decide +kernel, rfl⟩
theorem eX6_put_12 : zJ cX6_put 12 (.goto (4)) (4) 16 3 15 := ⟨by decide +kernel, rfl, by decide⟩
theorem eX6_put_15 : zD cX6_put 15 (.iconst 0) 1 16 := ⟨by decide +kernel, rfl⟩
theorem eX6_put_16 : zD cX6_put 16 (.istore 5) 2 18 := ⟨by decide +kernel, rfl⟩
theorem eX6_put_18 : zD cX6_put 18 (.iconst 0) 1 19 := ⟨by decide +kernel, rfl⟩
theorem eX6_put_19 : zD cX6_put 19 (.istore 6) 2 21 := ⟨by decide +kernel, rfl⟩
theorem eX6_put_21 : zD cX6_put 21 (.iload 6) 2 23 := ⟨by decide +kernel, rfl⟩
theorem eX6_put_23 : zD cX6_put 23 (.bipush 8) 2 25 := ⟨by decide +kernel, rfl⟩
theorem eX6_put_25 : zJ cX6_put 25 (.if_icmp .ge (90)) (90) 115 3 28 := ⟨by decide +kernel, rfl, by decide⟩
theorem eX6_put_28 : zD cX6_put 28 (.lload_n 1) 1 29 := ⟨by decide +kernel, rfl⟩
theorem eX6_put_29 : zD cX6_put 29 (.bipush 8) 2 31 := ⟨by decide +kernel, rfl⟩
theorem eX6_put_31 : zD cX6_put 31 (.iload 6) 2 33 := ⟨by decide +kernel, rfl⟩
theorem eX6_put_33 : zD cX6_put 33 (.imul) 1 34 := ⟨by decide +kernel, rfl⟩
theorem eX6_put_34 : zD cX6_put 34 (.lshr) 1 35 := ⟨by decide +kernel, rfl⟩
theorem eX6_put_35 : zD cX6_put 35 (.ldc2_w 246) 3 38 := ⟨by decide +kernel, rfl⟩
theorem eX6_put_38 : zD cX6_put 38 (.land) 1 39 := ⟨by decide +kernel, rfl⟩
theorem eX6_put_39 : zD cX6_put 39 (.l2i) 1 40 := ⟨by decide +kernel, rfl⟩
theorem eX6_put_40 : zD cX6_put 40 (.istore 7) 2 42 := ⟨by decide +kernel, rfl⟩
theorem eX6_put_42 : zD cX6_put 42 (.iload 4) 2 44 := ⟨by decide +kernel, rfl⟩
theorem eX6_put_44 : zJ cX6_put 44 (.ifCond .ne (8)) (8) 52 3 47 := ⟨by decide +kernel, rfl, by decide⟩
theorem eX6_put_47 : zD cX6_put 47 (.iload 7) 2 49 := ⟨by decide +kernel, rfl⟩
theorem eX6_put_49 : zJ cX6_put 49 (.ifCond .ne (7)) (7) 56 3 52 := ⟨by decide +kernel, rfl, by decide⟩
theorem eX6_put_52 : zD cX6_put 52 (.iconst 1) 1 53 := ⟨by decide +kernel, rfl⟩
theorem eX6_put_53 : zJ cX6_put 53 (.goto (4)) (4) 57 3 56 := ⟨by decide +kernel, rfl, by decide⟩
theorem eX6_put_56 : zD cX6_put 56 (.iconst 0) 1 57 := ⟨by decide +kernel, rfl⟩
theorem eX6_put_57 : zD cX6_put 57 (.istore 4) 2 59 := ⟨by decide +kernel, rfl⟩
theorem eX6_put_59 : zD cX6_put 59 (.iload 5) 2 61 := ⟨by decide +kernel, rfl⟩
theorem eX6_put_61 : zJ cX6_put 61 (.ifCond .ne (28)) (28) 89 3 64 := ⟨by decide +kernel, rfl, by decide⟩
theorem eX6_put_64 : zD cX6_put 64 (.iload 7) 2 66 := ⟨by decide +kernel, rfl⟩
theorem eX6_put_66 : zJ cX6_put 66 (.ifCond .eq (27)) (27) 93 3 69 := ⟨by decide +kernel, rfl, by decide⟩
theorem eX6_put_69 : zD cX6_put 69 (.iload 4) 2 71 := ⟨by decide +kernel, rfl⟩
theorem eX6_put_71 : zJ cX6_put 71 (.ifCond .ne (18)) (18) 89 3 74 := ⟨by decide +kernel, rfl, by decide⟩
theorem eX6_put_74 : zD cX6_put 74 (.iload 7) 2 76 := ⟨by decide +kernel, rfl⟩
theorem eX6_put_76 : zD cX6_put 76 (.i2l) 1 77 := ⟨by decide +kernel, rfl⟩
theorem eX6_put_77 : zD cX6_put 77 (.ldc2_w 248) 3 80 := ⟨by decide +kernel, rfl⟩
theorem eX6_put_80 : zD cX6_put 80 (.ldc2_w 250) 3 83 := ⟨by decide +kernel, rfl⟩
theorem eX6_put_83 : zD cX6_put 83 (.invokestatic 56) 3 86 := ⟨by decide +kernel, rfl⟩
theorem eX6_put_86 : zJ cX6_put 86 (.ifCond .ne (7)) (7) 93 3 89 := ⟨by decide +kernel, rfl, by decide⟩
theorem eX6_put_89 : zD cX6_put 89 (.iconst 1) 1 90 := ⟨by decide +kernel, rfl⟩
theorem eX6_put_90 : zJ cX6_put 90 (.goto (4)) (4) 94 3 93 := ⟨by decide +kernel, rfl, by decide⟩
theorem eX6_put_93 : zD cX6_put 93 (.iconst 0) 1 94 := ⟨by decide +kernel, rfl⟩
theorem eX6_put_94 : zD cX6_put 94 (.istore 5) 2 96 := ⟨by decide +kernel, rfl⟩
theorem eX6_put_96 : zD cX6_put 96 (.iload_n 3) 1 97 := ⟨by decide +kernel, rfl⟩
theorem eX6_put_97 : zD cX6_put 97 (.iload 4) 2 99 := ⟨by decide +kernel, rfl⟩
theorem eX6_put_99 : zJ cX6_put 99 (.ifCond .eq (7)) (7) 106 3 102 := ⟨by decide +kernel, rfl, by decide⟩
theorem eX6_put_102 : zD cX6_put 102 (.iconst 0) 1 103 := ⟨by decide +kernel, rfl⟩
theorem eX6_put_103 : zJ cX6_put 103 (.goto (4)) (4) 107 3 106 := ⟨by decide +kernel, rfl, by decide⟩
theorem eX6_put_106 : zD cX6_put 106 (.iconst 1) 1 107 := ⟨by decide +kernel, rfl⟩
theorem eX6_put_107 : zD cX6_put 107 (.iadd) 1 108 := ⟨by decide +kernel, rfl⟩
theorem eX6_put_108 : zD cX6_put 108 (.istore_n 3) 1 109 := ⟨by decide +kernel, rfl⟩
theorem eX6_put_109 : zD cX6_put 109 (.iinc 6 1) 3 112 := ⟨by decide +kernel, rfl⟩
theorem eX6_put_112 : zJ cX6_put 112 (.goto (-91)) (-91) 21 3 115 := ⟨by decide +kernel, rfl, by decide⟩
theorem eX6_put_115 : zD cX6_put 115 (.iload 5) 2 117 := ⟨by decide +kernel, rfl⟩
theorem eX6_put_117 : zJ cX6_put 117 (.ifCond .eq (6)) (6) 123 3 120 := ⟨by decide +kernel, rfl, by decide⟩
theorem eX6_put_120 : zD cX6_put 120 (.bipush (-2)) 2 122 := ⟨by decide +kernel, rfl⟩
theorem eX6_put_122 : zD cX6_put 122 (.ireturn) 1 123 := ⟨by decide +kernel, rfl⟩
theorem eX6_put_123 : zD cX6_put 123 (.aload_n 0) 1 124 := ⟨by decide +kernel, rfl⟩
theorem eX6_put_124 : zD cX6_put 124 (.getfield 237) 3 127 := ⟨by decide +kernel, rfl⟩
theorem eX6_put_127 : zD cX6_put 127 (.iload_n 3) 1 128 := ⟨by decide +kernel, rfl⟩
theorem eX6_put_128 : zD cX6_put 128 (.iadd) 1 129 := ⟨by decide +kernel, rfl⟩
theorem eX6_put_129 : zD cX6_put 129 (.bipush 80) 2 131 := ⟨by decide +kernel, rfl⟩
theorem eX6_put_131 : zJ cX6_put 131 (.if_icmp .le (6)) (6) 137 3 134 := ⟨by decide +kernel, rfl, by decide⟩
theorem eX6_put_134 : zD cX6_put 134 (.bipush (-4)) 2 136 := ⟨by decide +kernel, rfl⟩
theorem eX6_put_136 : zD cX6_put 136 (.ireturn) 1 137 := ⟨by decide +kernel, rfl⟩
theorem eX6_put_137 : zD cX6_put 137 (.iload_n 3) 1 138 := ⟨by decide +kernel, rfl⟩
theorem eX6_put_138 : zD cX6_put 138 (.iconst 1) 1 139 := ⟨by decide +kernel, rfl⟩
theorem eX6_put_139 : zD cX6_put 139 (.isub) 1 140 := ⟨by decide +kernel, rfl⟩
theorem eX6_put_140 : zD cX6_put 140 (.istore 6) 2 142 := ⟨by decide +kernel, rfl⟩
theorem eX6_put_142 : zD cX6_put 142 (.iload 6) 2 144 := ⟨by decide +kernel, rfl⟩
theorem eX6_put_144 : zJ cX6_put 144 (.ifCond .lt (40)) (40) 184 3 147 := ⟨by decide +kernel, rfl, by decide⟩
theorem eX6_put_147 : zD cX6_put 147 (.aload_n 0) 1 148 := ⟨by decide +kernel, rfl⟩
theorem eX6_put_148 : zD cX6_put 148 (.getfield 17) 3 151 := ⟨by decide +kernel, rfl⟩
theorem eX6_put_151 : zD cX6_put 151 (.aload_n 0) 1 152 := ⟨by decide +kernel, rfl⟩
theorem eX6_put_152 : zD cX6_put 152 (.getfield 237) 3 155 := ⟨by decide +kernel, rfl⟩
theorem eX6_put_155 : zD cX6_put 155 (.lload_n 1) 1 156 := ⟨by decide +kernel, rfl⟩
theorem eX6_put_156 : zD cX6_put 156 (.bipush 8) 2 158 := ⟨by decide +kernel, rfl⟩
theorem eX6_put_158 : zD cX6_put 158 (.iload 6) 2 160 := ⟨by decide +kernel, rfl⟩
theorem eX6_put_160 : zD cX6_put 160 (.imul) 1 161 := ⟨by decide +kernel, rfl⟩
theorem eX6_put_161 : zD cX6_put 161 (.lshr) 1 162 := ⟨by decide +kernel, rfl⟩
theorem eX6_put_162 : zD cX6_put 162 (.ldc2_w 246) 3 165 := ⟨by decide +kernel, rfl⟩
theorem eX6_put_165 : zD cX6_put 165 (.land) 1 166 := ⟨by decide +kernel, rfl⟩
theorem eX6_put_166 : zD cX6_put 166 (.l2i) 1 167 := ⟨by decide +kernel, rfl⟩
theorem eX6_put_167 : zD cX6_put 167 (.iastore) 1 168 := ⟨by decide +kernel, rfl⟩
theorem eX6_put_168 : zD cX6_put 168 (.aload_n 0) 1 169 := ⟨by decide +kernel, rfl⟩
theorem eX6_put_169 : zD cX6_put 169 (.dup) 1 170 := ⟨by decide +kernel, rfl⟩
theorem eX6_put_170 : zD cX6_put 170 (.getfield 237) 3 173 := ⟨by decide +kernel, rfl⟩
theorem eX6_put_173 : zD cX6_put 173 (.iconst 1) 1 174 := ⟨by decide +kernel, rfl⟩
theorem eX6_put_174 : zD cX6_put 174 (.iadd) 1 175 := ⟨by decide +kernel, rfl⟩
theorem eX6_put_175 : zD cX6_put 175 (.putfield 237) 3 178 := ⟨by decide +kernel, rfl⟩
theorem eX6_put_178 : zD cX6_put 178 (.iinc 6 (-1)) 3 181 := ⟨by decide +kernel, rfl⟩
theorem eX6_put_181 : zJ cX6_put 181 (.goto (-39)) (-39) 142 3 184 := ⟨by decide +kernel, rfl, by decide⟩
theorem eX6_put_184 : zD cX6_put 184 (.aload_n 0) 1 185 := ⟨by decide +kernel, rfl⟩
theorem eX6_put_185 : zD cX6_put 185 (.getfield 237) 3 188 := ⟨by decide +kernel, rfl⟩
theorem eX6_put_188 : zD cX6_put 188 (.ireturn) 1 189 := ⟨by decide +kernel, rfl⟩
theorem eX6_wipe_0 : zD cX6_wipe 0 (.aload_n 0) 1 1 := ⟨by decide +kernel, rfl⟩
theorem eX6_wipe_1 : zD cX6_wipe 1 (.getfield 237) 3 4 := ⟨by decide +kernel, rfl⟩
theorem eX6_wipe_4 : zD cX6_wipe 4 (.istore_n 1) 1 5 := ⟨by decide +kernel, rfl⟩
theorem eX6_wipe_5 : zD cX6_wipe 5 (.aload_n 0) 1 6 := ⟨by decide +kernel, rfl⟩
theorem eX6_wipe_6 : zD cX6_wipe 6 (.iconst 0) 1 7 := ⟨by decide +kernel, rfl⟩
theorem eX6_wipe_7 : zD cX6_wipe 7 (.putfield 237) 3 10 := ⟨by decide +kernel, rfl⟩
theorem eX6_wipe_10 : zD cX6_wipe 10 (.iload_n 1) 1 11 := ⟨by decide +kernel, rfl⟩
theorem eX6_wipe_11 : zD cX6_wipe 11 (.ireturn) 1 12 := ⟨by decide +kernel, rfl⟩
theorem eX6_code_0 : zD cX6_code 0 (.aload_n 0) 1 1 := ⟨by decide +kernel, rfl⟩
theorem eX6_code_1 : zD cX6_code 1 (.getfield 252) 3 4 := ⟨by decide +kernel, rfl⟩
theorem eX6_code_4 : zD cX6_code 4 (.aload_n 0) 1 5 := ⟨by decide +kernel, rfl⟩
theorem eX6_code_5 : zD cX6_code 5 (.getfield 237) 3 8 := ⟨by decide +kernel, rfl⟩
theorem eX6_code_8 : zJ cX6_code 8 (.if_icmp .ge (15)) (15) 23 3 11 := ⟨by decide +kernel, rfl, by decide⟩
theorem eX6_code_11 : zD cX6_code 11 (.aload_n 0) 1 12 := ⟨by decide +kernel, rfl⟩
theorem eX6_code_12 : zD cX6_code 12 (.getfield 17) 3 15 := ⟨by decide +kernel, rfl⟩
theorem eX6_code_15 : zD cX6_code 15 (.aload_n 0) 1 16 := ⟨by decide +kernel, rfl⟩
theorem eX6_code_16 : zD cX6_code 16 (.getfield 252) 3 19 := ⟨by decide +kernel, rfl⟩
theorem eX6_code_19 : zD cX6_code 19 (.iaload) 1 20 := ⟨by decide +kernel, rfl⟩
theorem eX6_code_20 : zJ cX6_code 20 (.goto (4)) (4) 24 3 23 := ⟨by decide +kernel, rfl, by decide⟩
theorem eX6_code_23 : zD cX6_code 23 (.iconst 0) 1 24 := ⟨by decide +kernel, rfl⟩
theorem eX6_code_24 : zD cX6_code 24 (.ireturn) 1 25 := ⟨by decide +kernel, rfl⟩
theorem eX6_isDigit_0 : zD cX6_isDigit 0 (.aload_n 0) 1 1 := ⟨by decide +kernel, rfl⟩
theorem eX6_isDigit_1 : zD cX6_isDigit 1 (.invokevirtual 255) 3 4 := ⟨by decide +kernel, rfl⟩
theorem eX6_isDigit_4 : zD cX6_isDigit 4 (.i2l) 1 5 := ⟨by decide +kernel, rfl⟩
theorem eX6_isDigit_5 : zD cX6_isDigit 5 (.ldc2_w 45) 3 8 := ⟨by decide +kernel, rfl⟩
theorem eX6_isDigit_8 : zD cX6_isDigit 8 (.ldc2_w 258) 3 11 := ⟨by decide +kernel, rfl⟩
theorem eX6_isDigit_11 : zD cX6_isDigit 11 (.invokestatic 56) 3 14 := ⟨by decide +kernel, rfl⟩
theorem eX6_isDigit_14 : zD cX6_isDigit 14 (.ireturn) 1 15 := ⟨by decide +kernel, rfl⟩
theorem eX6_reads_0 : zD cX6_reads 0 (.aload_n 0) 1 1 := ⟨by decide +kernel, rfl⟩
theorem eX6_reads_1 : zD cX6_reads 1 (.invokevirtual 255) 3 4 := ⟨by decide +kernel, rfl⟩
theorem eX6_reads_4 : zD cX6_reads 4 (.iload_n 1) 1 5 := ⟨by decide +kernel, rfl⟩
theorem eX6_reads_5 : zJ cX6_reads 5 (.if_icmp .ne (7)) (7) 12 3 8 := ⟨by decide +kernel, rfl, by decide⟩
theorem eX6_reads_8 : zD cX6_reads 8 (.iconst 1) 1 9 := ⟨by decide +kernel, rfl⟩
theorem eX6_reads_9 : zJ cX6_reads 9 (.goto (4)) (4) 13 3 12 := ⟨by decide +kernel, rfl, by decide⟩
theorem eX6_reads_12 : zD cX6_reads 12 (.iconst 0) 1 13 := ⟨by decide +kernel, rfl⟩
theorem eX6_reads_13 : zD cX6_reads 13 (.istore_n 2) 1 14 := ⟨by decide +kernel, rfl⟩
theorem eX6_reads_14 : zD cX6_reads 14 (.aload_n 0) 1 15 := ⟨by decide +kernel, rfl⟩
theorem eX6_reads_15 : zD cX6_reads 15 (.dup) 1 16 := ⟨by decide +kernel, rfl⟩
theorem eX6_reads_16 : zD cX6_reads 16 (.getfield 252) 3 19 := ⟨by decide +kernel, rfl⟩
theorem eX6_reads_19 : zD cX6_reads 19 (.iload_n 2) 1 20 := ⟨by decide +kernel, rfl⟩
theorem eX6_reads_20 : zJ cX6_reads 20 (.ifCond .eq (7)) (7) 27 3 23 := ⟨by decide +kernel, rfl, by decide⟩
theorem eX6_reads_23 : zD cX6_reads 23 (.iconst 1) 1 24 := ⟨by decide +kernel, rfl⟩
theorem eX6_reads_24 : zJ cX6_reads 24 (.goto (4)) (4) 28 3 27 := ⟨by decide +kernel, rfl, by decide⟩
theorem eX6_reads_27 : zD cX6_reads 27 (.iconst 0) 1 28 := ⟨by decide +kernel, rfl⟩
theorem eX6_reads_28 : zD cX6_reads 28 (.iadd) 1 29 := ⟨by decide +kernel, rfl⟩
theorem eX6_reads_29 : zD cX6_reads 29 (.putfield 252) 3 32 := ⟨by decide +kernel, rfl⟩
theorem eX6_reads_32 : zD cX6_reads 32 (.iload_n 2) 1 33 := ⟨by decide +kernel, rfl⟩
theorem eX6_reads_33 : zD cX6_reads 33 (.ireturn) 1 34 := ⟨by decide +kernel, rfl⟩
theorem eX6_readsDigit_0 : zD cX6_readsDigit 0 (.aload_n 0) 1 1 := ⟨by decide +kernel, rfl⟩
theorem eX6_readsDigit_1 : zD cX6_readsDigit 1 (.invokevirtual 255) 3 4 := ⟨by decide +kernel, rfl⟩
theorem eX6_readsDigit_4 : zD cX6_readsDigit 4 (.i2l) 1 5 := ⟨by decide +kernel, rfl⟩
theorem eX6_readsDigit_5 : zD cX6_readsDigit 5 (.ldc2_w 45) 3 8 := ⟨by decide +kernel, rfl⟩
theorem eX6_readsDigit_8 : zD cX6_readsDigit 8 (.bipush 48) 2 10 := ⟨by decide +kernel, rfl⟩
theorem eX6_readsDigit_10 : zD cX6_readsDigit 10 (.iload_n 1) 1 11 := ⟨by decide +kernel, rfl⟩
theorem eX6_readsDigit_11 : zD cX6_readsDigit 11 (.iadd) 1 12 := ⟨by decide +kernel, rfl⟩
theorem eX6_readsDigit_12 : zD cX6_readsDigit 12 (.i2l) 1 13 := ⟨by decide +kernel, rfl⟩
theorem eX6_readsDigit_13 : zD cX6_readsDigit 13 (.invokestatic 56) 3 16 := ⟨by decide +kernel, rfl⟩
theorem eX6_readsDigit_16 : zJ cX6_readsDigit 16 (.ifCond .ne (5)) (5) 21 3 19 := ⟨by decide +kernel, rfl, by decide⟩
theorem eX6_readsDigit_19 : zD cX6_readsDigit 19 (.iconst 0) 1 20 := ⟨by decide +kernel, rfl⟩
theorem eX6_readsDigit_20 : zD cX6_readsDigit 20 (.ireturn) 1 21 := ⟨by decide +kernel, rfl⟩
theorem eX6_readsDigit_21 : zD cX6_readsDigit 21 (.aload_n 0) 1 22 := ⟨by decide +kernel, rfl⟩
theorem eX6_readsDigit_22 : zD cX6_readsDigit 22 (.getfield 34) 3 25 := ⟨by decide +kernel, rfl⟩
theorem eX6_readsDigit_25 : zD cX6_readsDigit 25 (.aload_n 0) 1 26 := ⟨by decide +kernel, rfl⟩
theorem eX6_readsDigit_26 : zD cX6_readsDigit 26 (.getfield 260) 3 29 := ⟨by decide +kernel, rfl⟩
theorem eX6_readsDigit_29 : zD cX6_readsDigit 29 (.aload_n 0) 1 30 := ⟨by decide +kernel, rfl⟩
theorem eX6_readsDigit_30 : zD cX6_readsDigit 30 (.invokevirtual 255) 3 33 := ⟨by decide +kernel, rfl⟩
theorem eX6_readsDigit_33 : zD cX6_readsDigit 33 (.bipush 48) 2 35 := ⟨by decide +kernel, rfl⟩
theorem eX6_readsDigit_35 : zD cX6_readsDigit 35 (.isub) 1 36 := ⟨by decide +kernel, rfl⟩
theorem eX6_readsDigit_36 : zD cX6_readsDigit 36 (.iastore) 1 37 := ⟨by decide +kernel, rfl⟩
theorem eX6_readsDigit_37 : zD cX6_readsDigit 37 (.aload_n 0) 1 38 := ⟨by decide +kernel, rfl⟩
theorem eX6_readsDigit_38 : zD cX6_readsDigit 38 (.dup) 1 39 := ⟨by decide +kernel, rfl⟩
theorem eX6_readsDigit_39 : zD cX6_readsDigit 39 (.getfield 260) 3 42 := ⟨by decide +kernel, rfl⟩
theorem eX6_readsDigit_42 : zD cX6_readsDigit 42 (.iconst 1) 1 43 := ⟨by decide +kernel, rfl⟩
theorem eX6_readsDigit_43 : zD cX6_readsDigit 43 (.iadd) 1 44 := ⟨by decide +kernel, rfl⟩
theorem eX6_readsDigit_44 : zD cX6_readsDigit 44 (.putfield 260) 3 47 := ⟨by decide +kernel, rfl⟩
theorem eX6_readsDigit_47 : zD cX6_readsDigit 47 (.aload_n 0) 1 48 := ⟨by decide +kernel, rfl⟩
theorem eX6_readsDigit_48 : zD cX6_readsDigit 48 (.dup) 1 49 := ⟨by decide +kernel, rfl⟩
theorem eX6_readsDigit_49 : zD cX6_readsDigit 49 (.getfield 252) 3 52 := ⟨by decide +kernel, rfl⟩
theorem eX6_readsDigit_52 : zD cX6_readsDigit 52 (.iconst 1) 1 53 := ⟨by decide +kernel, rfl⟩
theorem eX6_readsDigit_53 : zD cX6_readsDigit 53 (.iadd) 1 54 := ⟨by decide +kernel, rfl⟩
theorem eX6_readsDigit_54 : zD cX6_readsDigit 54 (.putfield 252) 3 57 := ⟨by decide +kernel, rfl⟩
theorem eX6_readsDigit_57 : zD cX6_readsDigit 57 (.iconst 1) 1 58 := ⟨by decide +kernel, rfl⟩
theorem eX6_readsDigit_58 : zD cX6_readsDigit 58 (.ireturn) 1 59 := ⟨by decide +kernel, rfl⟩
theorem eX6_readsNumber_0 : zD cX6_readsNumber 0 (.aload_n 0) 1 1 := ⟨by decide +kernel, rfl⟩
theorem eX6_readsNumber_1 : zD cX6_readsNumber 1 (.invokevirtual 263) 3 4 := ⟨by decide +kernel, rfl⟩
theorem eX6_readsNumber_4 : zJ cX6_readsNumber 4 (.ifCond .ne (5)) (5) 9 3 7 := ⟨by decide +kernel, rfl, by decide⟩
theorem eX6_readsNumber_7 : zD cX6_readsNumber 7 (.iconst 0) 1 8 := ⟨by decide +kernel, rfl⟩
theorem eX6_readsNumber_8 : zD cX6_readsNumber 8 (.ireturn) 1 9 := ⟨by decide +kernel, rfl⟩
theorem eX6_readsNumber_9 : zD cX6_readsNumber 9 (.aload_n 0) 1 10 := ⟨by decide +kernel, rfl⟩
theorem eX6_readsNumber_10 : zD cX6_readsNumber 10 (.invokevirtual 255) 3 13 := ⟨by decide +kernel, rfl⟩
theorem eX6_readsNumber_13 : zD cX6_readsNumber 13 (.bipush 48) 2 15 := ⟨by decide +kernel, rfl⟩
theorem eX6_readsNumber_15 : zD cX6_readsNumber 15 (.isub) 1 16 := ⟨by decide +kernel, rfl⟩
theorem eX6_readsNumber_16 : zD cX6_readsNumber 16 (.istore_n 1) 1 17 := ⟨by decide +kernel, rfl⟩
theorem eX6_readsNumber_17 : zD cX6_readsNumber 17 (.aload_n 0) 1 18 := ⟨by decide +kernel, rfl⟩
theorem eX6_readsNumber_18 : zD cX6_readsNumber 18 (.dup) 1 19 := ⟨by decide +kernel, rfl⟩
theorem eX6_readsNumber_19 : zD cX6_readsNumber 19 (.getfield 252) 3 22 := ⟨by decide +kernel, rfl⟩
theorem eX6_readsNumber_22 : zD cX6_readsNumber 22 (.iconst 1) 1 23 := ⟨by decide +kernel, rfl⟩
theorem eX6_readsNumber_23 : zD cX6_readsNumber 23 (.iadd) 1 24 := ⟨by decide +kernel, rfl⟩
theorem eX6_readsNumber_24 : zD cX6_readsNumber 24 (.putfield 252) 3 27 := ⟨by decide +kernel, rfl⟩
theorem eX6_readsNumber_27 : zD cX6_readsNumber 27 (.iload_n 1) 1 28 := ⟨by decide +kernel, rfl⟩
theorem eX6_readsNumber_28 : zJ cX6_readsNumber 28 (.ifCond .le (43)) (43) 71 3 31 := ⟨by decide +kernel, rfl, by decide⟩
theorem eX6_readsNumber_31 : zD cX6_readsNumber 31 (.iload_n 1) 1 32 := ⟨by decide +kernel, rfl⟩
theorem eX6_readsNumber_32 : zD cX6_readsNumber 32 (.sipush 1000) 3 35 := ⟨by decide +kernel, rfl⟩
theorem eX6_readsNumber_35 : zJ cX6_readsNumber 35 (.if_icmp .ge (36)) (36) 71 3 38 := ⟨by decide +kernel, rfl, by decide⟩
theorem eX6_readsNumber_38 : zD cX6_readsNumber 38 (.aload_n 0) 1 39 := ⟨by decide +kernel, rfl⟩
theorem eX6_readsNumber_39 : zD cX6_readsNumber 39 (.invokevirtual 263) 3 42 := ⟨by decide +kernel, rfl⟩
theorem eX6_readsNumber_42 : zJ cX6_readsNumber 42 (.ifCond .eq (29)) (29) 71 3 45 := ⟨by decide +kernel, rfl, by decide⟩
theorem eX6_readsNumber_45 : zD cX6_readsNumber 45 (.bipush 10) 2 47 := ⟨by decide +kernel, rfl⟩
theorem eX6_readsNumber_47 : zD cX6_readsNumber 47 (.iload_n 1) 1 48 := ⟨by decide +kernel, rfl⟩
theorem eX6_readsNumber_48 : zD cX6_readsNumber 48 (.imul) 1 49 := ⟨by decide +kernel, rfl⟩
theorem eX6_readsNumber_49 : zD cX6_readsNumber 49 (.aload_n 0) 1 50 := ⟨by decide +kernel, rfl⟩
theorem eX6_readsNumber_50 : zD cX6_readsNumber 50 (.invokevirtual 255) 3 53 := ⟨by decide +kernel, rfl⟩
theorem eX6_readsNumber_53 : zD cX6_readsNumber 53 (.iadd) 1 54 := ⟨by decide +kernel, rfl⟩
theorem eX6_readsNumber_54 : zD cX6_readsNumber 54 (.bipush 48) 2 56 := ⟨by decide +kernel, rfl⟩
theorem eX6_readsNumber_56 : zD cX6_readsNumber 56 (.isub) 1 57 := ⟨by decide +kernel, rfl⟩
theorem eX6_readsNumber_57 : zD cX6_readsNumber 57 (.istore_n 1) 1 58 := ⟨by decide +kernel, rfl⟩
theorem eX6_readsNumber_58 : zD cX6_readsNumber 58 (.aload_n 0) 1 59 := ⟨by decide +kernel, rfl⟩
theorem eX6_readsNumber_59 : zD cX6_readsNumber 59 (.dup) 1 60 := ⟨by decide +kernel, rfl⟩
theorem eX6_readsNumber_60 : zD cX6_readsNumber 60 (.getfield 252) 3 63 := ⟨by decide +kernel, rfl⟩
theorem eX6_readsNumber_63 : zD cX6_readsNumber 63 (.iconst 1) 1 64 := ⟨by decide +kernel, rfl⟩
theorem eX6_readsNumber_64 : zD cX6_readsNumber 64 (.iadd) 1 65 := ⟨by decide +kernel, rfl⟩
theorem eX6_readsNumber_65 : zD cX6_readsNumber 65 (.putfield 252) 3 68 := ⟨by decide +kernel, rfl⟩
theorem eX6_readsNumber_68 : zJ cX6_readsNumber 68 (.goto (-41)) (-41) 27 3 71 := ⟨by decide +kernel, rfl, by decide⟩
theorem eX6_readsNumber_71 : zD cX6_readsNumber 71 (.aload_n 0) 1 72 := ⟨by decide +kernel, rfl⟩
theorem eX6_readsNumber_72 : zD cX6_readsNumber 72 (.getfield 34) 3 75 := ⟨by decide +kernel, rfl⟩
theorem eX6_readsNumber_75 : zD cX6_readsNumber 75 (.aload_n 0) 1 76 := ⟨by decide +kernel, rfl⟩
theorem eX6_readsNumber_76 : zD cX6_readsNumber 76 (.getfield 260) 3 79 := ⟨by decide +kernel, rfl⟩
theorem eX6_readsNumber_79 : zD cX6_readsNumber 79 (.iload_n 1) 1 80 := ⟨by decide +kernel, rfl⟩
theorem eX6_readsNumber_80 : zD cX6_readsNumber 80 (.iastore) 1 81 := ⟨by decide +kernel, rfl⟩
theorem eX6_readsNumber_81 : zD cX6_readsNumber 81 (.aload_n 0) 1 82 := ⟨by decide +kernel, rfl⟩
theorem eX6_readsNumber_82 : zD cX6_readsNumber 82 (.dup) 1 83 := ⟨by decide +kernel, rfl⟩
theorem eX6_readsNumber_83 : zD cX6_readsNumber 83 (.getfield 260) 3 86 := ⟨by decide +kernel, rfl⟩
theorem eX6_readsNumber_86 : zD cX6_readsNumber 86 (.iconst 1) 1 87 := ⟨by decide +kernel, rfl⟩
theorem eX6_readsNumber_87 : zD cX6_readsNumber 87 (.iadd) 1 88 := ⟨by decide +kernel, rfl⟩
theorem eX6_readsNumber_88 : zD cX6_readsNumber 88 (.putfield 260) 3 91 := ⟨by decide +kernel, rfl⟩
theorem eX6_readsNumber_91 : zD cX6_readsNumber 91 (.iconst 1) 1 92 := ⟨by decide +kernel, rfl⟩
theorem eX6_readsNumber_92 : zD cX6_readsNumber 92 (.ireturn) 1 93 := ⟨by decide +kernel, rfl⟩
theorem eX6_orderOf_0 : zD cX6_orderOf 0 (.iload_n 1) 1 1 := ⟨by decide +kernel, rfl⟩
theorem eX6_orderOf_1 : zD cX6_orderOf 1 (.bipush 111) 2 3 := ⟨by decide +kernel, rfl⟩
theorem eX6_orderOf_3 : zJ cX6_orderOf 3 (.if_icmp .ne (7)) (7) 10 3 6 := ⟨by decide +kernel, rfl, by decide⟩
theorem eX6_orderOf_6 : zD cX6_orderOf 6 (.iconst 0) 1 7 := ⟨by decide +kernel, rfl⟩
theorem eX6_orderOf_7 : zJ cX6_orderOf 7 (.goto (55)) (55) 62 3 10 := ⟨by decide +kernel, rfl, by decide⟩
theorem eX6_orderOf_10 : zD cX6_orderOf 10 (.iload_n 1) 1 11 := ⟨by decide +kernel, rfl⟩
theorem eX6_orderOf_11 : zD cX6_orderOf 11 (.bipush 114) 2 13 := ⟨by decide +kernel, rfl⟩
theorem eX6_orderOf_13 : zJ cX6_orderOf 13 (.if_icmp .ne (7)) (7) 20 3 16 := ⟨by decide +kernel, rfl, by decide⟩
theorem eX6_orderOf_16 : zD cX6_orderOf 16 (.iconst 1) 1 17 := ⟨by decide +kernel, rfl⟩
theorem eX6_orderOf_17 : zJ cX6_orderOf 17 (.goto (45)) (45) 62 3 20 := ⟨by decide +kernel, rfl, by decide⟩
theorem eX6_orderOf_20 : zD cX6_orderOf 20 (.iload_n 1) 1 21 := ⟨by decide +kernel, rfl⟩
theorem eX6_orderOf_21 : zD cX6_orderOf 21 (.bipush 108) 2 23 := ⟨by decide +kernel, rfl⟩
theorem eX6_orderOf_23 : zJ cX6_orderOf 23 (.if_icmp .ne (7)) (7) 30 3 26 := ⟨by decide +kernel, rfl, by decide⟩
theorem eX6_orderOf_26 : zD cX6_orderOf 26 (.iconst 2) 1 27 := ⟨by decide +kernel, rfl⟩
theorem eX6_orderOf_27 : zJ cX6_orderOf 27 (.goto (35)) (35) 62 3 30 := ⟨by decide +kernel, rfl, by decide⟩
theorem eX6_orderOf_30 : zD cX6_orderOf 30 (.iload_n 1) 1 31 := ⟨by decide +kernel, rfl⟩
theorem eX6_orderOf_31 : zD cX6_orderOf 31 (.bipush 112) 2 33 := ⟨by decide +kernel, rfl⟩
theorem eX6_orderOf_33 : zJ cX6_orderOf 33 (.if_icmp .ne (7)) (7) 40 3 36 := ⟨by decide +kernel, rfl, by decide⟩
theorem eX6_orderOf_36 : zD cX6_orderOf 36 (.iconst 3) 1 37 := ⟨by decide +kernel, rfl⟩
theorem eX6_orderOf_37 : zJ cX6_orderOf 37 (.goto (25)) (25) 62 3 40 := ⟨by decide +kernel, rfl, by decide⟩
theorem eX6_orderOf_40 : zD cX6_orderOf 40 (.iload_n 1) 1 41 := ⟨by decide +kernel, rfl⟩
theorem eX6_orderOf_41 : zD cX6_orderOf 41 (.bipush 120) 2 43 := ⟨by decide +kernel, rfl⟩
theorem eX6_orderOf_43 : zJ cX6_orderOf 43 (.if_icmp .ne (7)) (7) 50 3 46 := ⟨by decide +kernel, rfl, by decide⟩
theorem eX6_orderOf_46 : zD cX6_orderOf 46 (.iconst 4) 1 47 := ⟨by decide +kernel, rfl⟩
theorem eX6_orderOf_47 : zJ cX6_orderOf 47 (.goto (15)) (15) 62 3 50 := ⟨by decide +kernel, rfl, by decide⟩
theorem eX6_orderOf_50 : zD cX6_orderOf 50 (.iload_n 1) 1 51 := ⟨by decide +kernel, rfl⟩
theorem eX6_orderOf_51 : zD cX6_orderOf 51 (.bipush 104) 2 53 := ⟨by decide +kernel, rfl⟩
theorem eX6_orderOf_53 : zJ cX6_orderOf 53 (.if_icmp .ne (7)) (7) 60 3 56 := ⟨by decide +kernel, rfl, by decide⟩
theorem eX6_orderOf_56 : zD cX6_orderOf 56 (.iconst 5) 1 57 := ⟨by decide +kernel, rfl⟩
theorem eX6_orderOf_57 : zJ cX6_orderOf 57 (.goto (5)) (5) 62 3 60 := ⟨by decide +kernel, rfl, by decide⟩
theorem eX6_orderOf_60 : zD cX6_orderOf 60 (.bipush (-6)) 2 62 := ⟨by decide +kernel, rfl⟩
theorem eX6_orderOf_62 : zD cX6_orderOf 62 (.ireturn) 1 63 := ⟨by decide +kernel, rfl⟩
theorem eX6_readsPart_0 : zD cX6_readsPart 0 (.iload_n 1) 1 1 := ⟨by decide +kernel, rfl⟩
theorem eX6_readsPart_1 : zD cX6_readsPart 1 (.iconst 1) 1 2 := ⟨by decide +kernel, rfl⟩
theorem eX6_readsPart_2 : zJ cX6_readsPart 2 (.if_icmp .ne (12)) (12) 14 3 5 := ⟨by decide +kernel, rfl, by decide⟩
theorem eX6_readsPart_5 : zD cX6_readsPart 5 (.aload_n 0) 1 6 := ⟨by decide +kernel, rfl⟩
theorem eX6_readsPart_6 : zD cX6_readsPart 6 (.bipush 7) 2 8 := ⟨by decide +kernel, rfl⟩
theorem eX6_readsPart_8 : zD cX6_readsPart 8 (.invokevirtual 267) 3 11 := ⟨by decide +kernel, rfl⟩
theorem eX6_readsPart_11 : zJ cX6_readsPart 11 (.goto (46)) (46) 57 3 14 := ⟨by decide +kernel, rfl, by decide⟩
theorem eX6_readsPart_14 : zD cX6_readsPart 14 (.iload_n 1) 1 15 := ⟨by decide +kernel, rfl⟩
theorem eX6_readsPart_15 : zD cX6_readsPart 15 (.iconst 2) 1 16 := ⟨by decide +kernel, rfl⟩
theorem eX6_readsPart_16 : zJ cX6_readsPart 16 (.if_icmp .ne (12)) (12) 28 3 19 := ⟨by decide +kernel, rfl, by decide⟩
theorem eX6_readsPart_19 : zD cX6_readsPart 19 (.aload_n 0) 1 20 := ⟨by decide +kernel, rfl⟩
theorem eX6_readsPart_20 : zD cX6_readsPart 20 (.bipush 9) 2 22 := ⟨by decide +kernel, rfl⟩
theorem eX6_readsPart_22 : zD cX6_readsPart 22 (.invokevirtual 267) 3 25 := ⟨by decide +kernel, rfl⟩
theorem eX6_readsPart_25 : zJ cX6_readsPart 25 (.goto (32)) (32) 57 3 28 := ⟨by decide +kernel, rfl, by decide⟩
theorem eX6_readsPart_28 : zD cX6_readsPart 28 (.iload_n 1) 1 29 := ⟨by decide +kernel, rfl⟩
theorem eX6_readsPart_29 : zD cX6_readsPart 29 (.iconst 3) 1 30 := ⟨by decide +kernel, rfl⟩
theorem eX6_readsPart_30 : zJ cX6_readsPart 30 (.if_icmp .ne (10)) (10) 40 3 33 := ⟨by decide +kernel, rfl, by decide⟩
theorem eX6_readsPart_33 : zD cX6_readsPart 33 (.aload_n 0) 1 34 := ⟨by decide +kernel, rfl⟩
theorem eX6_readsPart_34 : zD cX6_readsPart 34 (.invokevirtual 270) 3 37 := ⟨by decide +kernel, rfl⟩
theorem eX6_readsPart_37 : zJ cX6_readsPart 37 (.goto (20)) (20) 57 3 40 := ⟨by decide +kernel, rfl, by decide⟩
theorem eX6_readsPart_40 : zD cX6_readsPart 40 (.iload_n 1) 1 41 := ⟨by decide +kernel, rfl⟩
theorem eX6_readsPart_41 : zJ cX6_readsPart 41 (.ifCond .eq (11)) (11) 52 3 44 := ⟨by decide +kernel, rfl, by decide⟩
theorem eX6_readsPart_44 : zD cX6_readsPart 44 (.aload_n 0) 1 45 := ⟨by decide +kernel, rfl⟩
theorem eX6_readsPart_45 : zD cX6_readsPart 45 (.iload_n 1) 1 46 := ⟨by decide +kernel, rfl⟩
theorem eX6_readsPart_46 : zD cX6_readsPart 46 (.invokevirtual 273) 3 49 := ⟨by decide +kernel, rfl⟩
theorem eX6_readsPart_49 : zJ cX6_readsPart 49 (.ifCond .eq (7)) (7) 56 3 52 := ⟨by decide +kernel, rfl, by decide⟩
theorem eX6_readsPart_52 : zD cX6_readsPart 52 (.iconst 1) 1 53 := ⟨by decide +kernel, rfl⟩
theorem eX6_readsPart_53 : zJ cX6_readsPart 53 (.goto (4)) (4) 57 3 56 := ⟨by decide +kernel, rfl, by decide⟩
theorem eX6_readsPart_56 : zD cX6_readsPart 56 (.iconst 0) 1 57 := ⟨by decide +kernel, rfl⟩
theorem eX6_readsPart_57 : zD cX6_readsPart 57 (.ireturn) 1 58 := ⟨by decide +kernel, rfl⟩
theorem eX6_readsOrder_0 : zD cX6_readsOrder 0 (.aload_n 0) 1 1 := ⟨by decide +kernel, rfl⟩
theorem eX6_readsOrder_1 : zD cX6_readsOrder 1 (.aload_n 0) 1 2 := ⟨by decide +kernel, rfl⟩
theorem eX6_readsOrder_2 : zD cX6_readsOrder 2 (.invokevirtual 255) 3 5 := ⟨by decide +kernel, rfl⟩
theorem eX6_readsOrder_5 : zD cX6_readsOrder 5 (.invokevirtual 276) 3 8 := ⟨by decide +kernel, rfl⟩
theorem eX6_readsOrder_8 : zD cX6_readsOrder 8 (.istore_n 1) 1 9 := ⟨by decide +kernel, rfl⟩
theorem eX6_readsOrder_9 : zD cX6_readsOrder 9 (.iload_n 1) 1 10 := ⟨by decide +kernel, rfl⟩
theorem eX6_readsOrder_10 : zD cX6_readsOrder 10 (.bipush (-6)) 2 12 := ⟨by decide +kernel, rfl⟩
theorem eX6_readsOrder_12 : zJ cX6_readsOrder 12 (.if_icmp .eq (7)) (7) 19 3 15 := ⟨by decide +kernel, rfl, by decide⟩
theorem eX6_readsOrder_15 : zD cX6_readsOrder 15 (.iconst 1) 1 16 := ⟨by decide +kernel, rfl⟩
theorem eX6_readsOrder_16 : zJ cX6_readsOrder 16 (.goto (4)) (4) 20 3 19 := ⟨by decide +kernel, rfl, by decide⟩
theorem eX6_readsOrder_19 : zD cX6_readsOrder 19 (.iconst 0) 1 20 := ⟨by decide +kernel, rfl⟩
theorem eX6_readsOrder_20 : zD cX6_readsOrder 20 (.istore_n 2) 1 21 := ⟨by decide +kernel, rfl⟩
theorem eX6_readsOrder_21 : zD cX6_readsOrder 21 (.aload_n 0) 1 22 := ⟨by decide +kernel, rfl⟩
theorem eX6_readsOrder_22 : zD cX6_readsOrder 22 (.dup) 1 23 := ⟨by decide +kernel, rfl⟩
theorem eX6_readsOrder_23 : zD cX6_readsOrder 23 (.getfield 252) 3 26 := ⟨by decide +kernel, rfl⟩
theorem eX6_readsOrder_26 : zD cX6_readsOrder 26 (.iload_n 2) 1 27 := ⟨by decide +kernel, rfl⟩
theorem eX6_readsOrder_27 : zJ cX6_readsOrder 27 (.ifCond .eq (7)) (7) 34 3 30 := ⟨by decide +kernel, rfl, by decide⟩
theorem eX6_readsOrder_30 : zD cX6_readsOrder 30 (.iconst 1) 1 31 := ⟨by decide +kernel, rfl⟩
theorem eX6_readsOrder_31 : zJ cX6_readsOrder 31 (.goto (4)) (4) 35 3 34 := ⟨by decide +kernel, rfl, by decide⟩
theorem eX6_readsOrder_34 : zD cX6_readsOrder 34 (.iconst 0) 1 35 := ⟨by decide +kernel, rfl⟩
theorem eX6_readsOrder_35 : zD cX6_readsOrder 35 (.iadd) 1 36 := ⟨by decide +kernel, rfl⟩
theorem eX6_readsOrder_36 : zD cX6_readsOrder 36 (.putfield 252) 3 39 := ⟨by decide +kernel, rfl⟩
theorem eX6_readsOrder_39 : zD cX6_readsOrder 39 (.aload_n 0) 1 40 := ⟨by decide +kernel, rfl⟩
theorem eX6_readsOrder_40 : zD cX6_readsOrder 40 (.iconst 0) 1 41 := ⟨by decide +kernel, rfl⟩
theorem eX6_readsOrder_41 : zD cX6_readsOrder 41 (.putfield 260) 3 44 := ⟨by decide +kernel, rfl⟩
theorem eX6_readsOrder_44 : zD cX6_readsOrder 44 (.iconst 0) 1 45 := ⟨by decide +kernel, rfl⟩
theorem eX6_readsOrder_45 : zD cX6_readsOrder 45 (.istore_n 3) 1 46 := ⟨by decide +kernel, rfl⟩
theorem eX6_readsOrder_46 : zD cX6_readsOrder 46 (.iload_n 3) 1 47 := ⟨by decide +kernel, rfl⟩
theorem eX6_readsOrder_47 : zD cX6_readsOrder 47 (.bipush 7) 2 49 := ⟨by decide +kernel, rfl⟩
theorem eX6_readsOrder_49 : zJ cX6_readsOrder 49 (.if_icmp .ge (29)) (29) 78 3 52 := ⟨by decide +kernel, rfl, by decide⟩
theorem eX6_readsOrder_52 : zD cX6_readsOrder 52 (.iload_n 2) 1 53 := ⟨by decide +kernel, rfl⟩
theorem eX6_readsOrder_53 : zJ cX6_readsOrder 53 (.ifCond .eq (25)) (25) 78 3 56 := ⟨by decide +kernel, rfl, by decide⟩
theorem eX6_readsOrder_56 : zD cX6_readsOrder 56 (.aload_n 0) 1 57 := ⟨by decide +kernel, rfl⟩
theorem eX6_readsOrder_57 : zD cX6_readsOrder 57 (.aload_n 0) 1 58 := ⟨by decide +kernel, rfl⟩
theorem eX6_readsOrder_58 : zD cX6_readsOrder 58 (.getfield 31) 3 61 := ⟨by decide +kernel, rfl⟩
theorem eX6_readsOrder_61 : zD cX6_readsOrder 61 (.bipush 7) 2 63 := ⟨by decide +kernel, rfl⟩
theorem eX6_readsOrder_63 : zD cX6_readsOrder 63 (.iload_n 1) 1 64 := ⟨by decide +kernel, rfl⟩
theorem eX6_readsOrder_64 : zD cX6_readsOrder 64 (.imul) 1 65 := ⟨by decide +kernel, rfl⟩
theorem eX6_readsOrder_65 : zD cX6_readsOrder 65 (.iload_n 3) 1 66 := ⟨by decide +kernel, rfl⟩
theorem eX6_readsOrder_66 : zD cX6_readsOrder 66 (.iadd) 1 67 := ⟨by decide +kernel, rfl⟩
theorem eX6_readsOrder_67 : zD cX6_readsOrder 67 (.iaload) 1 68 := ⟨by decide +kernel, rfl⟩
theorem eX6_readsOrder_68 : zD cX6_readsOrder 68 (.invokevirtual 279) 3 71 := ⟨by decide +kernel, rfl⟩
theorem eX6_readsOrder_71 : zD cX6_readsOrder 71 (.istore_n 2) 1 72 := ⟨by decide +kernel, rfl⟩
theorem eX6_readsOrder_72 : zD cX6_readsOrder 72 (.iinc 3 1) 3 75 := ⟨by decide +kernel, rfl⟩
theorem eX6_readsOrder_75 : zJ cX6_readsOrder 75 (.goto (-29)) (-29) 46 3 78 := ⟨by decide +kernel, rfl, by decide⟩
theorem eX6_readsOrder_78 : zD cX6_readsOrder 78 (.iload_n 2) 1 79 := ⟨by decide +kernel, rfl⟩
theorem eX6_readsOrder_79 : zJ cX6_readsOrder 79 (.ifCond .eq (41)) (41) 120 3 82 := ⟨by decide +kernel, rfl, by decide⟩
theorem eX6_readsOrder_82 : zD cX6_readsOrder 82 (.iload_n 1) 1 83 := ⟨by decide +kernel, rfl⟩
theorem eX6_readsOrder_83 : zD cX6_readsOrder 83 (.iconst 1) 1 84 := ⟨by decide +kernel, rfl⟩
theorem eX6_readsOrder_84 : zJ cX6_readsOrder 84 (.if_icmp .ne (36)) (36) 120 3 87 := ⟨by decide +kernel, rfl, by decide⟩
theorem eX6_readsOrder_87 : zD cX6_readsOrder 87 (.aload_n 0) 1 88 := ⟨by decide +kernel, rfl⟩
theorem eX6_readsOrder_88 : zD cX6_readsOrder 88 (.getfield 34) 3 91 := ⟨by decide +kernel, rfl⟩
theorem eX6_readsOrder_91 : zD cX6_readsOrder 91 (.aload_n 0) 1 92 := ⟨by decide +kernel, rfl⟩
theorem eX6_readsOrder_92 : zD cX6_readsOrder 92 (.getfield 260) 3 95 := ⟨by decide +kernel, rfl⟩
theorem eX6_readsOrder_95 : zD cX6_readsOrder 95 (.aload_n 0) 1 96 := ⟨by decide +kernel, rfl⟩
theorem eX6_readsOrder_96 : zD cX6_readsOrder 96 (.bipush 33) 2 98 := ⟨by decide +kernel, rfl⟩
theorem eX6_readsOrder_98 : zD cX6_readsOrder 98 (.invokevirtual 273) 3 101 := ⟨by decide +kernel, rfl⟩
theorem eX6_readsOrder_101 : zJ cX6_readsOrder 101 (.ifCond .eq (7)) (7) 108 3 104 := ⟨by decide +kernel, rfl, by decide⟩
theorem eX6_readsOrder_104 : zD cX6_readsOrder 104 (.iconst 1) 1 105 := ⟨by decide +kernel, rfl⟩
theorem eX6_readsOrder_105 : zJ cX6_readsOrder 105 (.goto (4)) (4) 109 3 108 := ⟨by decide +kernel, rfl, by decide⟩
theorem eX6_readsOrder_108 : zD cX6_readsOrder 108 (.iconst 0) 1 109 := ⟨by decide +kernel, rfl⟩
theorem eX6_readsOrder_109 : zD cX6_readsOrder 109 (.iastore) 1 110 := ⟨by decide +kernel, rfl⟩
theorem eX6_readsOrder_110 : zD cX6_readsOrder 110 (.aload_n 0) 1 111 := ⟨by decide +kernel, rfl⟩
theorem eX6_readsOrder_111 : zD cX6_readsOrder 111 (.dup) 1 112 := ⟨by decide +kernel, rfl⟩
theorem eX6_readsOrder_112 : zD cX6_readsOrder 112 (.getfield 260) 3 115 := ⟨by decide +kernel, rfl⟩
theorem eX6_readsOrder_115 : zD cX6_readsOrder 115 (.iconst 1) 1 116 := ⟨by decide +kernel, rfl⟩
theorem eX6_readsOrder_116 : zD cX6_readsOrder 116 (.iadd) 1 117 := ⟨by decide +kernel, rfl⟩
theorem eX6_readsOrder_117 : zD cX6_readsOrder 117 (.putfield 260) 3 120 := ⟨by decide +kernel, rfl⟩
theorem eX6_readsOrder_120 : zD cX6_readsOrder 120 (.iload_n 2) 1 121 := ⟨by decide +kernel, rfl⟩
theorem eX6_readsOrder_121 : zJ cX6_readsOrder 121 (.ifCond .eq (7)) (7) 128 3 124 := ⟨by decide +kernel, rfl, by decide⟩
theorem eX6_readsOrder_124 : zD cX6_readsOrder 124 (.iload_n 1) 1 125 := ⟨by decide +kernel, rfl⟩
theorem eX6_readsOrder_125 : zJ cX6_readsOrder 125 (.goto (5)) (5) 130 3 128 := ⟨by decide +kernel, rfl, by decide⟩
theorem eX6_readsOrder_128 : zD cX6_readsOrder 128 (.bipush (-6)) 2 130 := ⟨by decide +kernel, rfl⟩
theorem eX6_readsOrder_130 : zD cX6_readsOrder 130 (.ireturn) 1 131 := ⟨by decide +kernel, rfl⟩
theorem eX6_faultOf_0 : zD cX6_faultOf 0 (.aload_n 0) 1 1 := ⟨by decide +kernel, rfl⟩
theorem eX6_faultOf_1 : zD cX6_faultOf 1 (.iconst 0) 1 2 := ⟨by decide +kernel, rfl⟩
theorem eX6_faultOf_2 : zD cX6_faultOf 2 (.putfield 252) 3 5 := ⟨by decide +kernel, rfl⟩
theorem eX6_faultOf_5 : zD cX6_faultOf 5 (.aload_n 0) 1 6 := ⟨by decide +kernel, rfl⟩
theorem eX6_faultOf_6 : zD cX6_faultOf 6 (.invokevirtual 282) 3 9 := ⟨by decide +kernel, rfl⟩
theorem eX6_faultOf_9 : zD cX6_faultOf 9 (.bipush (-6)) 2 11 := ⟨by decide +kernel, rfl⟩
theorem eX6_faultOf_11 : zJ cX6_faultOf 11 (.if_icmp .eq (7)) (7) 18 3 14 := ⟨by decide +kernel, rfl, by decide⟩
theorem eX6_faultOf_14 : zD cX6_faultOf 14 (.iconst 1) 1 15 := ⟨by decide +kernel, rfl⟩
theorem eX6_faultOf_15 : zJ cX6_faultOf 15 (.goto (4)) (4) 19 3 18 := ⟨by decide +kernel, rfl, by decide⟩
theorem eX6_faultOf_18 : zD cX6_faultOf 18 (.iconst 0) 1 19 := ⟨by decide +kernel, rfl⟩
theorem eX6_faultOf_19 : zD cX6_faultOf 19 (.istore_n 1) 1 20 := ⟨by decide +kernel, rfl⟩
theorem eX6_faultOf_20 : zD cX6_faultOf 20 (.iload_n 1) 1 21 := ⟨by decide +kernel, rfl⟩
theorem eX6_faultOf_21 : zJ cX6_faultOf 21 (.ifCond .eq (41)) (41) 62 3 24 := ⟨by decide +kernel, rfl, by decide⟩
theorem eX6_faultOf_24 : zD cX6_faultOf 24 (.aload_n 0) 1 25 := ⟨by decide +kernel, rfl⟩
theorem eX6_faultOf_25 : zD cX6_faultOf 25 (.getfield 252) 3 28 := ⟨by decide +kernel, rfl⟩
theorem eX6_faultOf_28 : zD cX6_faultOf 28 (.aload_n 0) 1 29 := ⟨by decide +kernel, rfl⟩
theorem eX6_faultOf_29 : zD cX6_faultOf 29 (.getfield 237) 3 32 := ⟨by decide +kernel, rfl⟩
theorem eX6_faultOf_32 : zJ cX6_faultOf 32 (.if_icmp .ge (30)) (30) 62 3 35 := ⟨by decide +kernel, rfl, by decide⟩
theorem eX6_faultOf_35 : zD cX6_faultOf 35 (.aload_n 0) 1 36 := ⟨by decide +kernel, rfl⟩
theorem eX6_faultOf_36 : zD cX6_faultOf 36 (.bipush 59) 2 38 := ⟨by decide +kernel, rfl⟩
theorem eX6_faultOf_38 : zD cX6_faultOf 38 (.invokevirtual 273) 3 41 := ⟨by decide +kernel, rfl⟩
theorem eX6_faultOf_41 : zJ cX6_faultOf 41 (.ifCond .eq (16)) (16) 57 3 44 := ⟨by decide +kernel, rfl, by decide⟩
theorem eX6_faultOf_44 : zD cX6_faultOf 44 (.aload_n 0) 1 45 := ⟨by decide +kernel, rfl⟩
theorem eX6_faultOf_45 : zD cX6_faultOf 45 (.invokevirtual 282) 3 48 := ⟨by decide +kernel, rfl⟩
theorem eX6_faultOf_48 : zD cX6_faultOf 48 (.bipush (-6)) 2 50 := ⟨by decide +kernel, rfl⟩
theorem eX6_faultOf_50 : zJ cX6_faultOf 50 (.if_icmp .eq (7)) (7) 57 3 53 := ⟨by decide +kernel, rfl, by decide⟩
theorem eX6_faultOf_53 : zD cX6_faultOf 53 (.iconst 1) 1 54 := ⟨by decide +kernel, rfl⟩
theorem eX6_faultOf_54 : zJ cX6_faultOf 54 (.goto (4)) (4) 58 3 57 := ⟨by decide +kernel, rfl, by decide⟩
theorem eX6_faultOf_57 : zD cX6_faultOf 57 (.iconst 0) 1 58 := ⟨by decide +kernel, rfl⟩
theorem eX6_faultOf_58 : zD cX6_faultOf 58 (.istore_n 1) 1 59 := ⟨by decide +kernel, rfl⟩
theorem eX6_faultOf_59 : zJ cX6_faultOf 59 (.goto (-39)) (-39) 20 3 62 := ⟨by decide +kernel, rfl, by decide⟩
theorem eX6_faultOf_62 : zD cX6_faultOf 62 (.iload_n 1) 1 63 := ⟨by decide +kernel, rfl⟩
theorem eX6_faultOf_63 : zJ cX6_faultOf 63 (.ifCond .eq (8)) (8) 71 3 66 := ⟨by decide +kernel, rfl, by decide⟩
theorem eX6_faultOf_66 : zD cX6_faultOf 66 (.bipush (-6)) 2 68 := ⟨by decide +kernel, rfl⟩
theorem eX6_faultOf_68 : zJ cX6_faultOf 68 (.goto (7)) (7) 75 3 71 := ⟨by decide +kernel, rfl, by decide⟩
theorem eX6_faultOf_71 : zD cX6_faultOf 71 (.aload_n 0) 1 72 := ⟨by decide +kernel, rfl⟩
theorem eX6_faultOf_72 : zD cX6_faultOf 72 (.getfield 252) 3 75 := ⟨by decide +kernel, rfl⟩
theorem eX6_faultOf_75 : zD cX6_faultOf 75 (.ireturn) 1 76 := ⟨by decide +kernel, rfl⟩
theorem eX6_fault_0 : zD cX6_fault 0 (.aload_n 0) 1 1 := ⟨by decide +kernel, rfl⟩
theorem eX6_fault_1 : zD cX6_fault 1 (.invokevirtual 285) 3 4 := ⟨by decide +kernel, rfl⟩
theorem eX6_fault_4 : zD cX6_fault 4 (.ireturn) 1 5 := ⟨by decide +kernel, rfl⟩
theorem eX6_does_0 : zD cX6_does 0 (.aload_n 0) 1 1 := ⟨by decide +kernel, rfl⟩
theorem eX6_does_1 : zD cX6_does 1 (.getfield 34) 3 4 := ⟨by decide +kernel, rfl⟩
theorem eX6_does_4 : zD cX6_does 4 (.iconst 0) 1 5 := ⟨by decide +kernel, rfl⟩
theorem eX6_does_5 : zD cX6_does 5 (.iaload) 1 6 := ⟨by decide +kernel, rfl⟩
theorem eX6_does_6 : zD cX6_does 6 (.istore_n 2) 1 7 := ⟨by decide +kernel, rfl⟩
theorem eX6_does_7 : zD cX6_does 7 (.aload_n 0) 1 8 := ⟨by decide +kernel, rfl⟩
theorem eX6_does_8 : zD cX6_does 8 (.getfield 34) 3 11 := ⟨by decide +kernel, rfl⟩
theorem eX6_does_11 : zD cX6_does 11 (.iconst 1) 1 12 := ⟨by decide +kernel, rfl⟩
theorem eX6_does_12 : zD cX6_does 12 (.iaload) 1 13 := ⟨by decide +kernel, rfl⟩
theorem eX6_does_13 : zD cX6_does 13 (.istore_n 3) 1 14 := ⟨by decide +kernel, rfl⟩
theorem eX6_does_14 : zD cX6_does 14 (.aload_n 0) 1 15 := ⟨by decide +kernel, rfl⟩
theorem eX6_does_15 : zD cX6_does 15 (.getfield 34) 3 18 := ⟨by decide +kernel, rfl⟩
theorem eX6_does_18 : zD cX6_does 18 (.iconst 2) 1 19 := ⟨by decide +kernel, rfl⟩
theorem eX6_does_19 : zD cX6_does 19 (.iaload) 1 20 := ⟨by decide +kernel, rfl⟩
theorem eX6_does_20 : zD cX6_does 20 (.istore 4) 2 22 := ⟨by decide +kernel, rfl⟩
theorem eX6_does_22 : zD cX6_does 22 (.aload_n 0) 1 23 := ⟨by decide +kernel, rfl⟩
theorem eX6_does_23 : zD cX6_does 23 (.getfield 34) 3 26 := ⟨by decide +kernel, rfl⟩
theorem eX6_does_26 : zD cX6_does 26 (.iconst 3) 1 27 := ⟨by decide +kernel, rfl⟩
theorem eX6_does_27 : zD cX6_does 27 (.iaload) 1 28 := ⟨by decide +kernel, rfl⟩
theorem eX6_does_28 : zD cX6_does 28 (.istore 5) 2 30 := ⟨by decide +kernel, rfl⟩
theorem eX6_does_30 : zD cX6_does 30 (.iconst 0) 1 31 := ⟨by decide +kernel, rfl⟩
theorem eX6_does_31 : zD cX6_does 31 (.istore 6) 2 33 := ⟨by decide +kernel, rfl⟩
theorem eX6_does_33 : zD cX6_does 33 (.iload_n 1) 1 34 := ⟨by decide +kernel, rfl⟩
theorem eX6_does_34 : zD cX6_does 34 (.tableswitch 215 0 4 #[34, 69, 102, 141, 194]) 34 68 := ⟨by decide +kernel, rfl⟩
theorem eX6_does_68 : zD cX6_does 68 (.aload_n 0) 1 69 := ⟨by decide +kernel, rfl⟩
theorem eX6_does_69 : zD cX6_does 69 (.iload_n 2) 1 70 := ⟨by decide +kernel, rfl⟩
theorem eX6_does_70 : zD cX6_does 70 (.iload_n 3) 1 71 := ⟨by decide +kernel, rfl⟩
theorem eX6_does_71 : zD cX6_does 71 (.iload 4) 2 73 := ⟨by decide +kernel, rfl⟩
theorem eX6_does_73 : zD cX6_does 73 (.invokevirtual 117) 3 76 := ⟨by decide +kernel, rfl⟩
theorem eX6_does_76 : zJ cX6_does 76 (.ifCond .ne (7)) (7) 83 3 79 := ⟨by decide +kernel, rfl, by decide⟩
theorem eX6_does_79 : zD cX6_does 79 (.iconst 1) 1 80 := ⟨by decide +kernel, rfl⟩
theorem eX6_does_80 : zJ cX6_does 80 (.goto (4)) (4) 84 3 83 := ⟨by decide +kernel, rfl, by decide⟩
theorem eX6_does_83 : zD cX6_does 83 (.iconst 0) 1 84 := ⟨by decide +kernel, rfl⟩
theorem eX6_does_84 : zD cX6_does 84 (.istore 6) 2 86 := ⟨by decide +kernel, rfl⟩
theorem eX6_does_86 : zD cX6_does 86 (.iload 6) 2 88 := ⟨by decide +kernel, rfl⟩
theorem eX6_does_88 : zJ cX6_does 88 (.ifCond .eq (183)) (183) 271 3 91 := ⟨by decide +kernel, rfl, by decide⟩
theorem eX6_does_91 : zD cX6_does 91 (.aload_n 0) 1 92 := ⟨by decide +kernel, rfl⟩
theorem eX6_does_92 : zD cX6_does 92 (.iload_n 2) 1 93 := ⟨by decide +kernel, rfl⟩
theorem eX6_does_93 : zD cX6_does 93 (.iload_n 3) 1 94 := ⟨by decide +kernel, rfl⟩
theorem eX6_does_94 : zD cX6_does 94 (.iload 4) 2 96 := ⟨by decide +kernel, rfl⟩
theorem eX6_does_96 : zD cX6_does 96 (.invokevirtual 121) 3 99 := ⟨by decide +kernel, rfl⟩
theorem eX6_does_99 : zD cX6_does 99 (.pop) 1 100 := ⟨by decide +kernel, rfl⟩
theorem eX6_does_100 : zJ cX6_does 100 (.goto (171)) (171) 271 3 103 := ⟨by decide +kernel, rfl, by decide⟩
theorem eX6_does_103 : zD cX6_does 103 (.aload_n 0) 1 104 := ⟨by decide +kernel, rfl⟩
theorem eX6_does_104 : zD cX6_does 104 (.iload_n 2) 1 105 := ⟨by decide +kernel, rfl⟩
theorem eX6_does_105 : zD cX6_does 105 (.iload_n 3) 1 106 := ⟨by decide +kernel, rfl⟩
theorem eX6_does_106 : zD cX6_does 106 (.iload 4) 2 108 := ⟨by decide +kernel, rfl⟩
theorem eX6_does_108 : zD cX6_does 108 (.invokevirtual 132) 3 111 := ⟨by decide +kernel, rfl⟩
theorem eX6_does_111 : zJ cX6_does 111 (.ifCond .ne (7)) (7) 118 3 114 := ⟨by decide +kernel, rfl, by decide⟩
theorem eX6_does_114 : zD cX6_does 114 (.iconst 1) 1 115 := ⟨by decide +kernel, rfl⟩
theorem eX6_does_115 : zJ cX6_does 115 (.goto (4)) (4) 119 3 118 := ⟨by decide +kernel, rfl, by decide⟩
theorem eX6_does_118 : zD cX6_does 118 (.iconst 0) 1 119 := ⟨by decide +kernel, rfl⟩
theorem eX6_does_119 : zD cX6_does 119 (.istore 6) 2 121 := ⟨by decide +kernel, rfl⟩
theorem eX6_does_121 : zD cX6_does 121 (.iload 6) 2 123 := ⟨by decide +kernel, rfl⟩
theorem eX6_does_123 : zJ cX6_does 123 (.ifCond .eq (148)) (148) 271 3 126 := ⟨by decide +kernel, rfl, by decide⟩
theorem eX6_does_126 : zD cX6_does 126 (.aload_n 0) 1 127 := ⟨by decide +kernel, rfl⟩
theorem eX6_does_127 : zD cX6_does 127 (.iload_n 2) 1 128 := ⟨by decide +kernel, rfl⟩
theorem eX6_does_128 : zD cX6_does 128 (.iload_n 3) 1 129 := ⟨by decide +kernel, rfl⟩
theorem eX6_does_129 : zD cX6_does 129 (.invokevirtual 135) 3 132 := ⟨by decide +kernel, rfl⟩
theorem eX6_does_132 : zD cX6_does 132 (.pop) 1 133 := ⟨by decide +kernel, rfl⟩
theorem eX6_does_133 : zJ cX6_does 133 (.goto (138)) (138) 271 3 136 := ⟨by decide +kernel, rfl, by decide⟩
theorem eX6_does_136 : zD cX6_does 136 (.aload_n 0) 1 137 := ⟨by decide +kernel, rfl⟩
theorem eX6_does_137 : zD cX6_does 137 (.iload_n 2) 1 138 := ⟨by decide +kernel, rfl⟩
theorem eX6_does_138 : zD cX6_does 138 (.iload_n 3) 1 139 := ⟨by decide +kernel, rfl⟩
theorem eX6_does_139 : zD cX6_does 139 (.iload 4) 2 141 := ⟨by decide +kernel, rfl⟩
theorem eX6_does_141 : zD cX6_does 141 (.iload 5) 2 143 := ⟨by decide +kernel, rfl⟩
theorem eX6_does_143 : zD cX6_does 143 (.invokevirtual 151) 3 146 := ⟨by decide +kernel, rfl⟩
theorem eX6_does_146 : zJ cX6_does 146 (.ifCond .ne (7)) (7) 153 3 149 := ⟨by decide +kernel, rfl, by decide⟩
theorem eX6_does_149 : zD cX6_does 149 (.iconst 1) 1 150 := ⟨by decide +kernel, rfl⟩
theorem eX6_does_150 : zJ cX6_does 150 (.goto (4)) (4) 154 3 153 := ⟨by decide +kernel, rfl, by decide⟩
theorem eX6_does_153 : zD cX6_does 153 (.iconst 0) 1 154 := ⟨by decide +kernel, rfl⟩
theorem eX6_does_154 : zD cX6_does 154 (.istore 6) 2 156 := ⟨by decide +kernel, rfl⟩
theorem eX6_does_156 : zD cX6_does 156 (.iload 6) 2 158 := ⟨by decide +kernel, rfl⟩
theorem eX6_does_158 : zJ cX6_does 158 (.ifCond .eq (113)) (113) 271 3 161 := ⟨by decide +kernel, rfl, by decide⟩
theorem eX6_does_161 : zD cX6_does 161 (.aload_n 0) 1 162 := ⟨by decide +kernel, rfl⟩
theorem eX6_does_162 : zD cX6_does 162 (.iload_n 2) 1 163 := ⟨by decide +kernel, rfl⟩
theorem eX6_does_163 : zD cX6_does 163 (.iload_n 3) 1 164 := ⟨by decide +kernel, rfl⟩
theorem eX6_does_164 : zD cX6_does 164 (.iload 4) 2 166 := ⟨by decide +kernel, rfl⟩
theorem eX6_does_166 : zD cX6_does 166 (.iload 5) 2 168 := ⟨by decide +kernel, rfl⟩
theorem eX6_does_168 : zD cX6_does 168 (.invokevirtual 155) 3 171 := ⟨by decide +kernel, rfl⟩
theorem eX6_does_171 : zD cX6_does 171 (.pop) 1 172 := ⟨by decide +kernel, rfl⟩
theorem eX6_does_172 : zJ cX6_does 172 (.goto (99)) (99) 271 3 175 := ⟨by decide +kernel, rfl, by decide⟩
theorem eX6_does_175 : zD cX6_does 175 (.aload_n 0) 1 176 := ⟨by decide +kernel, rfl⟩
theorem eX6_does_176 : zD cX6_does 176 (.iload_n 2) 1 177 := ⟨by decide +kernel, rfl⟩
theorem eX6_does_177 : zD cX6_does 177 (.aload_n 0) 1 178 := ⟨by decide +kernel, rfl⟩
theorem eX6_does_178 : zD cX6_does 178 (.bipush 8) 2 180 := ⟨by decide +kernel, rfl⟩
theorem eX6_does_180 : zD cX6_does 180 (.invokevirtual 60) 3 183 := ⟨by decide +kernel, rfl⟩
theorem eX6_does_183 : zD cX6_does 183 (.iload_n 3) 1 184 := ⟨by decide +kernel, rfl⟩
theorem eX6_does_184 : zD cX6_does 184 (.iadd) 1 185 := ⟨by decide +kernel, rfl⟩
theorem eX6_does_185 : zD cX6_does 185 (.iload 4) 2 187 := ⟨by decide +kernel, rfl⟩
theorem eX6_does_187 : zD cX6_does 187 (.iload 5) 2 189 := ⟨by decide +kernel, rfl⟩
theorem eX6_does_189 : zD cX6_does 189 (.invokevirtual 175) 3 192 := ⟨by decide +kernel, rfl⟩
theorem eX6_does_192 : zJ cX6_does 192 (.ifCond .ne (7)) (7) 199 3 195 := ⟨by decide +kernel, rfl, by decide⟩
theorem eX6_does_195 : zD cX6_does 195 (.iconst 1) 1 196 := ⟨by decide +kernel, rfl⟩
theorem eX6_does_196 : zJ cX6_does 196 (.goto (4)) (4) 200 3 199 := ⟨by decide +kernel, rfl, by decide⟩
theorem eX6_does_199 : zD cX6_does 199 (.iconst 0) 1 200 := ⟨by decide +kernel, rfl⟩
theorem eX6_does_200 : zD cX6_does 200 (.istore 6) 2 202 := ⟨by decide +kernel, rfl⟩
theorem eX6_does_202 : zD cX6_does 202 (.iload 6) 2 204 := ⟨by decide +kernel, rfl⟩
theorem eX6_does_204 : zJ cX6_does 204 (.ifCond .eq (67)) (67) 271 3 207 := ⟨by decide +kernel, rfl, by decide⟩
theorem eX6_does_207 : zD cX6_does 207 (.aload_n 0) 1 208 := ⟨by decide +kernel, rfl⟩
theorem eX6_does_208 : zD cX6_does 208 (.iload_n 2) 1 209 := ⟨by decide +kernel, rfl⟩
theorem eX6_does_209 : zD cX6_does 209 (.aload_n 0) 1 210 := ⟨by decide +kernel, rfl⟩
theorem eX6_does_210 : zD cX6_does 210 (.bipush 8) 2 212 := ⟨by decide +kernel, rfl⟩
theorem eX6_does_212 : zD cX6_does 212 (.invokevirtual 60) 3 215 := ⟨by decide +kernel, rfl⟩
theorem eX6_does_215 : zD cX6_does 215 (.iload_n 3) 1 216 := ⟨by decide +kernel, rfl⟩
theorem eX6_does_216 : zD cX6_does 216 (.iadd) 1 217 := ⟨by decide +kernel, rfl⟩
theorem eX6_does_217 : zD cX6_does 217 (.iload 4) 2 219 := ⟨by decide +kernel, rfl⟩
theorem eX6_does_219 : zD cX6_does 219 (.iload 5) 2 221 := ⟨by decide +kernel, rfl⟩
theorem eX6_does_221 : zD cX6_does 221 (.invokevirtual 178) 3 224 := ⟨by decide +kernel, rfl⟩
theorem eX6_does_224 : zD cX6_does 224 (.pop) 1 225 := ⟨by decide +kernel, rfl⟩
theorem eX6_does_225 : zJ cX6_does 225 (.goto (46)) (46) 271 3 228 := ⟨by decide +kernel, rfl, by decide⟩
theorem eX6_does_228 : zD cX6_does 228 (.aload_n 0) 1 229 := ⟨by decide +kernel, rfl⟩
theorem eX6_does_229 : zD cX6_does 229 (.iload_n 2) 1 230 := ⟨by decide +kernel, rfl⟩
theorem eX6_does_230 : zD cX6_does 230 (.invokevirtual 184) 3 233 := ⟨by decide +kernel, rfl⟩
theorem eX6_does_233 : zD cX6_does 233 (.istore 6) 2 235 := ⟨by decide +kernel, rfl⟩
theorem eX6_does_235 : zD cX6_does 235 (.iload 6) 2 237 := ⟨by decide +kernel, rfl⟩
theorem eX6_does_237 : zJ cX6_does 237 (.ifCond .eq (34)) (34) 271 3 240 := ⟨by decide +kernel, rfl, by decide⟩
theorem eX6_does_240 : zD cX6_does 240 (.aload_n 0) 1 241 := ⟨by decide +kernel, rfl⟩
theorem eX6_does_241 : zD cX6_does 241 (.iload_n 2) 1 242 := ⟨by decide +kernel, rfl⟩
theorem eX6_does_242 : zD cX6_does 242 (.invokevirtual 187) 3 245 := ⟨by decide +kernel, rfl⟩
theorem eX6_does_245 : zD cX6_does 245 (.pop) 1 246 := ⟨by decide +kernel, rfl⟩
theorem eX6_does_246 : zJ cX6_does 246 (.goto (25)) (25) 271 3 249 := ⟨by decide +kernel, rfl, by decide⟩
theorem eX6_does_249 : zD cX6_does 249 (.iload_n 2) 1 250 := ⟨by decide +kernel, rfl⟩
theorem eX6_does_250 : zD cX6_does 250 (.i2l) 1 251 := ⟨by decide +kernel, rfl⟩
theorem eX6_does_251 : zD cX6_does 251 (.lconst 1) 1 252 := ⟨by decide +kernel, rfl⟩
theorem eX6_does_252 : zD cX6_does 252 (.ldc2_w 217) 3 255 := ⟨by decide +kernel, rfl⟩
theorem eX6_does_255 : zD cX6_does 255 (.invokestatic 56) 3 258 := ⟨by decide +kernel, rfl⟩
theorem eX6_does_258 : zD cX6_does 258 (.istore 6) 2 260 := ⟨by decide +kernel, rfl⟩
theorem eX6_does_260 : zD cX6_does 260 (.iload 6) 2 262 := ⟨by decide +kernel, rfl⟩
theorem eX6_does_262 : zJ cX6_does 262 (.ifCond .eq (9)) (9) 271 3 265 := ⟨by decide +kernel, rfl, by decide⟩
theorem eX6_does_265 : zD cX6_does 265 (.aload_n 0) 1 266 := ⟨by decide +kernel, rfl⟩
theorem eX6_does_266 : zD cX6_does 266 (.iload_n 2) 1 267 := ⟨by decide +kernel, rfl⟩
theorem eX6_does_267 : zD cX6_does 267 (.invokevirtual 219) 3 270 := ⟨by decide +kernel, rfl⟩
theorem eX6_does_270 : zD cX6_does 270 (.pop) 1 271 := ⟨by decide +kernel, rfl⟩
theorem eX6_does_271 : zD cX6_does 271 (.iload 6) 2 273 := ⟨by decide +kernel, rfl⟩
theorem eX6_does_273 : zD cX6_does 273 (.ireturn) 1 274 := ⟨by decide +kernel, rfl⟩
theorem eX6_carryOut_0 : zD cX6_carryOut 0 (.aload_n 0) 1 1 := ⟨by decide +kernel, rfl⟩
theorem eX6_carryOut_1 : zD cX6_carryOut 1 (.invokevirtual 285) 3 4 := ⟨by decide +kernel, rfl⟩
theorem eX6_carryOut_4 : zD cX6_carryOut 4 (.bipush (-6)) 2 6 := ⟨by decide +kernel, rfl⟩
theorem eX6_carryOut_6 : zJ cX6_carryOut 6 (.if_icmp .eq (6)) (6) 12 3 9 := ⟨by decide +kernel, rfl, by decide⟩
theorem eX6_carryOut_9 : zD cX6_carryOut 9 (.bipush (-3)) 2 11 := ⟨by decide +kernel, rfl⟩
theorem eX6_carryOut_11 : zD cX6_carryOut 11 (.ireturn) 1 12 := ⟨by decide +kernel, rfl⟩
theorem eX6_carryOut_12 : zD cX6_carryOut 12 (.aload_n 0) 1 13 := ⟨by decide +kernel, rfl⟩
theorem eX6_carryOut_13 : zD cX6_carryOut 13 (.invokevirtual 64) 3 16 := ⟨by decide +kernel, rfl⟩
theorem eX6_carryOut_16 : zD cX6_carryOut 16 (.aload_n 0) 1 17 := ⟨by decide +kernel, rfl⟩
theorem eX6_carryOut_17 : zD cX6_carryOut 17 (.iconst 0) 1 18 := ⟨by decide +kernel, rfl⟩
theorem eX6_carryOut_18 : zD cX6_carryOut 18 (.putfield 252) 3 21 := ⟨by decide +kernel, rfl⟩
theorem eX6_carryOut_21 : zD cX6_carryOut 21 (.iconst 0) 1 22 := ⟨by decide +kernel, rfl⟩
theorem eX6_carryOut_22 : zD cX6_carryOut 22 (.istore_n 1) 1 23 := ⟨by decide +kernel, rfl⟩
theorem eX6_carryOut_23 : zD cX6_carryOut 23 (.aload_n 0) 1 24 := ⟨by decide +kernel, rfl⟩
theorem eX6_carryOut_24 : zD cX6_carryOut 24 (.getfield 252) 3 27 := ⟨by decide +kernel, rfl⟩
theorem eX6_carryOut_27 : zD cX6_carryOut 27 (.aload_n 0) 1 28 := ⟨by decide +kernel, rfl⟩
theorem eX6_carryOut_28 : zD cX6_carryOut 28 (.getfield 237) 3 31 := ⟨by decide +kernel, rfl⟩
theorem eX6_carryOut_31 : zJ cX6_carryOut 31 (.if_icmp .ge (30)) (30) 61 3 34 := ⟨by decide +kernel, rfl, by decide⟩
theorem eX6_carryOut_34 : zD cX6_carryOut 34 (.aload_n 0) 1 35 := ⟨by decide +kernel, rfl⟩
theorem eX6_carryOut_35 : zD cX6_carryOut 35 (.aload_n 0) 1 36 := ⟨by decide +kernel, rfl⟩
theorem eX6_carryOut_36 : zD cX6_carryOut 36 (.invokevirtual 282) 3 39 := ⟨by decide +kernel, rfl⟩
theorem eX6_carryOut_39 : zD cX6_carryOut 39 (.invokevirtual 288) 3 42 := ⟨by decide +kernel, rfl⟩
theorem eX6_carryOut_42 : zJ cX6_carryOut 42 (.ifCond .eq (19)) (19) 61 3 45 := ⟨by decide +kernel, rfl, by decide⟩
theorem eX6_carryOut_45 : zD cX6_carryOut 45 (.iinc 1 1) 3 48 := ⟨by decide +kernel, rfl⟩
theorem eX6_carryOut_48 : zD cX6_carryOut 48 (.aload_n 0) 1 49 := ⟨by decide +kernel, rfl⟩
theorem eX6_carryOut_49 : zD cX6_carryOut 49 (.dup) 1 50 := ⟨by decide +kernel, rfl⟩
theorem eX6_carryOut_50 : zD cX6_carryOut 50 (.getfield 252) 3 53 := ⟨by decide +kernel, rfl⟩
theorem eX6_carryOut_53 : zD cX6_carryOut 53 (.iconst 1) 1 54 := ⟨by decide +kernel, rfl⟩
theorem eX6_carryOut_54 : zD cX6_carryOut 54 (.iadd) 1 55 := ⟨by decide +kernel, rfl⟩
theorem eX6_carryOut_55 : zD cX6_carryOut 55 (.putfield 252) 3 58 := ⟨by decide +kernel, rfl⟩
theorem eX6_carryOut_58 : zJ cX6_carryOut 58 (.goto (-35)) (-35) 23 3 61 := ⟨by decide +kernel, rfl, by decide⟩
theorem eX6_carryOut_61 : zD cX6_carryOut 61 (.aload_n 0) 1 62 := ⟨by decide +kernel, rfl⟩
theorem eX6_carryOut_62 : zD cX6_carryOut 62 (.iconst 0) 1 63 := ⟨by decide +kernel, rfl⟩
theorem eX6_carryOut_63 : zD cX6_carryOut 63 (.putfield 237) 3 66 := ⟨by decide +kernel, rfl⟩
theorem eX6_carryOut_66 : zD cX6_carryOut 66 (.iload_n 1) 1 67 := ⟨by decide +kernel, rfl⟩
theorem eX6_carryOut_67 : zD cX6_carryOut 67 (.ireturn) 1 68 := ⟨by decide +kernel, rfl⟩
end
section
abbrev zn32 (x : Int32) : Nat := x.toNatClampNeg
def zKa (own : String) (idx : Nat) : Prop := Cond.methodLink own idx arraycopyName ∈ zTBL ∧ Cond.native arraycopyName ∈ zTBL ∧ Cond.static arraycopyName ∈ zTBL ∧ Cond.initialized "java/lang/System" ∈ zTBL

section ZR3
variable {x : zX} {g : zG} {own : String} {cc : ByteArray} {ret : Option FieldType} {f : Nat} {post : Option Value → va_W → Prop} {n : Nat × Nat} {pc pc' : Nat} {lv : List (Nat × Value)} {st rest : List Value} {ws : va_W}

theorem zR_callV1 (C : zC x g own cc ret f) {idx : Nat} {y : MethodName} {cc' : ByteArray} {nL' : Nat} {ret' : Option FieldType} {f' nn : Nat} {b : Nat} {As : List Value} {wc w0 ws1 : va_W} {v : Value} (K : zKv own idx y cc' nL' ret' nn) (d : zD cc pc (.invokevirtual idx) 3 pc')
    (M : zM (zl x) g y cc' nL' ret' f' 0 0 (.ref b :: As) wc (zE (some v) w0)) (hst : st = As.reverse ++ .ref b :: rest) (q0 ci : Nat) {fs : List Value} (he : ws[q0]? = some (b, .inr (ci, fs))) {rw : vw_C} (hci : vwCl[ci]? = some rw) (hcl : rw.1 = y.cls) (isC : List Nat) (hC : isC.map (fun i => ws[i]?) = wc.map some) (hnd : va_nd isC = true)
    (hn : As.length = nn) (hf : f' + 1 ≤ f) (hnl : nL' ≤ 17) (hcat : (rest.map fun v => v.category).sum ≤ 8) (hr1 : n.1 ≤ zmc x) (hr2 : n.2 ≤ zms x) (hfst : w0.map Prod.fst = wc.map Prod.fst) (hw : zrep ws isC w0 = ws1)
    (k : zR x g post n pc' lv (v :: rest) ws1) : zR x g post n pc lv st ws := zR_callV C K d M hst q0 ci he hci hcl isC hC hnd hn hf hnl hcat hr1 hr2 hfst hw k
theorem zR_callVv (C : zC x g own cc ret f) {idx : Nat} {y : MethodName} {cc' : ByteArray} {nL' : Nat} {ret' : Option FieldType} {f' nn : Nat} {b : Nat} {As : List Value} {wc w0 ws1 : va_W} (K : zKv own idx y cc' nL' ret' nn) (d : zD cc pc (.invokevirtual idx) 3 pc')
    (M : zM (zl x) g y cc' nL' ret' f' 0 0 (.ref b :: As) wc (zE none w0)) (hst : st = As.reverse ++ .ref b :: rest) (q0 ci : Nat) {fs : List Value} (he : ws[q0]? = some (b, .inr (ci, fs))) {rw : vw_C} (hci : vwCl[ci]? = some rw) (hcl : rw.1 = y.cls) (isC : List Nat) (hC : isC.map (fun i => ws[i]?) = wc.map some) (hnd : va_nd isC = true)
    (hn : As.length = nn) (hf : f' + 1 ≤ f) (hnl : nL' ≤ 17) (hcat : (rest.map fun v => v.category).sum ≤ 8) (hr1 : n.1 ≤ zmc x) (hr2 : n.2 ≤ zms x) (hfst : w0.map Prod.fst = wc.map Prod.fst) (hw : zrep ws isC w0 = ws1)
    (k : zR x g post n pc' lv (rest) ws1) : zR x g post n pc lv st ws := zR_callV C K d M hst q0 ci he hci hcl isC hC hnd hn hf hnl hcat hr1 hr2 hfst hw k
theorem zR_callS1 (C : zC x g own cc ret f) {idx : Nat} {y : MethodName} {cc' : ByteArray} {nL' : Nat} {ret' : Option FieldType} {f' nn : Nat} {As : List Value} {v : Value} (K : zKs own idx y cc' nL' ret' nn) (d : zD cc pc (.invokestatic idx) 3 pc')
    (M : zM (zl x) g y cc' nL' ret' f' 0 0 As [] (zE (some v) [])) (hst : st = As.reverse ++ rest) (hn : As.length = nn) (hf : f' + 1 ≤ f) (hnl : nL' ≤ 17) (hcat : (rest.map fun v => v.category).sum ≤ 8) (hr1 : n.1 ≤ zmc x) (hr2 : n.2 ≤ zms x)
    (k : zR x g post n pc' lv (v :: rest) ws) : zR x g post n pc lv st ws := zR_callS C K d M hst hn hf hnl hcat hr1 hr2 k
theorem zR_lshl (C : zC x g own cc ret f) {a : Int64} {b : Int32} (d : zD cc pc (.lshl) 1 pc') (k : zR x g post n pc' lv (.long (a <<< (b.toInt64 &&& 63)) :: st) ws) : zR x g post n pc lv (.int b :: .long a :: st) ws := by
  obtain ⟨d, rfl⟩ := d
  exact fun H locs ls hP hD hS hl => lv_lshl C.1.1 C.1.2.1 d rfl (k H locs ls hP hD hS hl)
theorem zR_lshr (C : zC x g own cc ret f) {a : Int64} {b : Int32} (d : zD cc pc (.lshr) 1 pc') (k : zR x g post n pc' lv (.long (a >>> (b.toInt64 &&& 63)) :: st) ws) : zR x g post n pc lv (.int b :: .long a :: st) ws := by
  obtain ⟨d, rfl⟩ := d
  exact fun H locs ls hP hD hS hl => lv_lshr C.1.1 C.1.2.1 d rfl (k H locs ls hP hD hS hl)
theorem zR_lushr (C : zC x g own cc ret f) {a : Int64} {b : Int32} {v : Int64} (d : zD cc pc (.lushr) 1 pc') (hv : (a.toUInt64 >>> (b.toInt64.toUInt64 &&& 63)).toInt64 = v) (k : zR x g post n pc' lv (.long v :: st) ws) : zR x g post n pc lv (.int b :: .long a :: st) ws := by
  obtain ⟨d, rfl⟩ := d
  exact fun H locs ls hP hD hS hl => lv_lushr C.1.1 C.1.2.1 d hv (k H locs ls hP hD hS hl)
theorem zR_i2c (C : zC x g own cc ret f) {a : Int32} {v : Int32} (d : zD cc pc (.i2c) 1 pc') (hv : a.toUInt32.toUInt16.toUInt32.toInt32 = v) (k : zR x g post n pc' lv (.int v :: st) ws) : zR x g post n pc lv (.int a :: st) ws := by
  obtain ⟨d, rfl⟩ := d
  exact fun H locs ls hP hD hS hl => lv_i2c C.1.1 C.1.2.1 d hv (k H locs ls hP hD hS hl)
theorem zR_acpi (C : zC x g own cc ret f) {idx a0 a1 N0 N1 : Nat} {h0 h1 : Nat → Int32} {v : Int32} {ws1 : va_W} (K : zKa own idx) (d : zD cc pc (.invokestatic idx) 3 pc') (p0 p1 : Nat) (ha0 : ws[p0]? = some (a0, .inl (g.2.1 0, N0, .inl h0))) (ha1 : ws[p1]? = some (a1, .inl (g.2.1 0, N1, .inl h1)))
    (hv : ¬ v < 0 ∧ zn32 v ≤ N0 ∧ zn32 v ≤ N1) (hf : 1 ≤ f) (hlo : (st.map fun v => v.category).sum + (nativeFrameWords "java/lang/System" "arraycopy" 5 + 11) ≤ 36 * f) (hw : ws.set p1 (a1, .inl (g.2.1 0, N1, .inl (va_cpy h0 h1 0 0 (zn32 v)))) = ws1) (k : zR x g post n pc' lv st ws1) : zR x g post n pc lv (.int v :: .int 0 :: .ref a1 :: .int 0 :: .ref a0 :: st) ws := by
  obtain ⟨d, rfl⟩ := d
  subst hw
  obtain ⟨k1, k2, k3, k4⟩ := K
  have hR := C.2.2.2.2.1
  exact fun H locs ls hP hD hS hl => va_copyi C.1.1 C.1.2.1 (C.1.2.2.1.trans (zlv_size hl)) C.1.2.2.2 (C.2.1 _ k1) (C.2.1 _ k2) (C.2.1 _ k3) (C.2.1 _ k4) C.2.2.1 hP hD hS p0 p1 0 0 ha0 ha1 rfl rfl rfl (by decide) (by decide) hv.1 (by rw [show (0 : Int32).toNatClampNeg = 0 from rfl, Nat.zero_add]; exact hv.2.1) (by rw [show (0 : Int32).toNatClampNeg = 0 from rfl, Nat.zero_add]; exact hv.2.2) (fun _ _ => rfl) (by rw [hR]; exact hf) (by rw [hR]; exact hlo) d (fun H1 locs1 hP hD hS => k H1 locs1 ls hP hD hS hl)
theorem zR_acpl (C : zC x g own cc ret f) {idx a0 a1 N0 N1 : Nat} {h0 h1 : Nat → Int64} {v : Int32} {ws1 : va_W} (K : zKa own idx) (d : zD cc pc (.invokestatic idx) 3 pc') (p0 p1 : Nat) (ha0 : ws[p0]? = some (a0, .inl (g.2.1 1, N0, .inr (.inl h0)))) (ha1 : ws[p1]? = some (a1, .inl (g.2.1 1, N1, .inr (.inl h1))))
    (hv : ¬ v < 0 ∧ zn32 v ≤ N0 ∧ zn32 v ≤ N1) (hf : 1 ≤ f) (hlo : (st.map fun v => v.category).sum + (nativeFrameWords "java/lang/System" "arraycopy" 5 + 11) ≤ 36 * f) (hw : ws.set p1 (a1, .inl (g.2.1 1, N1, .inr (.inl (va_cpy h0 h1 0 0 (zn32 v))))) = ws1) (k : zR x g post n pc' lv st ws1) : zR x g post n pc lv (.int v :: .int 0 :: .ref a1 :: .int 0 :: .ref a0 :: st) ws := by
  obtain ⟨d, rfl⟩ := d
  subst hw
  obtain ⟨k1, k2, k3, k4⟩ := K
  have hR := C.2.2.2.2.1
  exact fun H locs ls hP hD hS hl => va_copyl C.1.1 C.1.2.1 (C.1.2.2.1.trans (zlv_size hl)) C.1.2.2.2 (C.2.1 _ k1) (C.2.1 _ k2) (C.2.1 _ k3) (C.2.1 _ k4) C.2.2.1 hP hD hS p0 p1 1 1 ha0 ha1 rfl rfl rfl (by decide) (by decide) hv.1 (by rw [show (0 : Int32).toNatClampNeg = 0 from rfl, Nat.zero_add]; exact hv.2.1) (by rw [show (0 : Int32).toNatClampNeg = 0 from rfl, Nat.zero_add]; exact hv.2.2) (fun _ _ => rfl) (by rw [hR]; exact hf) (by rw [hR]; exact hlo) d (fun H1 locs1 hP hD hS => k H1 locs1 ls hP hD hS hl)
theorem zR_ialdN (C : zC x g own cc ret f) {a N i : Nat} {h : Nat → Int32} (d : zD cc pc .iaload 1 pc') (p : Nat) (ha : ws[p]? = some (a, .inl (g.2.1 0, N, .inl h))) (hi : i < N ∧ N < 2 ^ 31) (k : zR x g post n pc' lv (.int (h i) :: st) ws) : zR x g post n pc lv (.int (nI i) :: .ref a :: st) ws := zR_iald C d p ha (vp_in_nI hi.1 hi.2) (by rw [nI_clamp (Nat.lt_trans hi.1 hi.2)]; exact k)
theorem zR_zaldN (C : zC x g own cc ret f) {a N i : Nat} {h : Nat → Int32} (d : zD cc pc .baload 1 pc') (p : Nat) (ha : ws[p]? = some (a, .inl (g.2.1 2, N, .inl h))) (hi : i < N ∧ N < 2 ^ 31) (k : zR x g post n pc' lv (.int (h i) :: st) ws) : zR x g post n pc lv (.int (nI i) :: .ref a :: st) ws := zR_zald C d p ha (vp_in_nI hi.1 hi.2) (by rw [nI_clamp (Nat.lt_trans hi.1 hi.2)]; exact k)
theorem zR_caldN (C : zC x g own cc ret f) {a N i : Nat} {h : Nat → Int32} (d : zD cc pc .caload 1 pc') (p : Nat) (ha : ws[p]? = some (a, .inl (g.2.1 3, N, .inl h))) (hi : i < N ∧ N < 2 ^ 31) (k : zR x g post n pc' lv (.int (h i) :: st) ws) : zR x g post n pc lv (.int (nI i) :: .ref a :: st) ws := zR_cald C d p ha (vp_in_nI hi.1 hi.2) (by rw [nI_clamp (Nat.lt_trans hi.1 hi.2)]; exact k)
theorem zR_laldN (C : zC x g own cc ret f) {a N i : Nat} {h : Nat → Int64} (d : zD cc pc .laload 1 pc') (p : Nat) (ha : ws[p]? = some (a, .inl (g.2.1 1, N, .inr (.inl h)))) (hi : i < N ∧ N < 2 ^ 31) (k : zR x g post n pc' lv (.long (h i) :: st) ws) : zR x g post n pc lv (.int (nI i) :: .ref a :: st) ws := zR_lald C d p ha (vp_in_nI hi.1 hi.2) (by rw [nI_clamp (Nat.lt_trans hi.1 hi.2)]; exact k)
theorem zR_iastN (C : zC x g own cc ret f) {a N i : Nat} {h : Nat → Int32} {v : Int32} {ws1 : va_W} (d : zD cc pc .iastore 1 pc') (p : Nat) (ha : ws[p]? = some (a, .inl (g.2.1 0, N, .inl h))) (hi : i < N ∧ N < 2 ^ 31) (hw : ws.set p (a, .inl (g.2.1 0, N, .inl (upd h i v))) = ws1) (k : zR x g post n pc' lv st ws1) : zR x g post n pc lv (.int v :: .int (nI i) :: .ref a :: st) ws := zR_iast C d p ha (vp_in_nI hi.1 hi.2) (by rw [nI_clamp (Nat.lt_trans hi.1 hi.2)]; exact hw) k
theorem zR_lastN (C : zC x g own cc ret f) {a N i : Nat} {h : Nat → Int64} {v : Int64} {ws1 : va_W} (d : zD cc pc .lastore 1 pc') (p : Nat) (ha : ws[p]? = some (a, .inl (g.2.1 1, N, .inr (.inl h)))) (hi : i < N ∧ N < 2 ^ 31) (hw : ws.set p (a, .inl (g.2.1 1, N, .inr (.inl (vp_updL h i v)))) = ws1) (k : zR x g post n pc' lv st ws1) : zR x g post n pc lv (.long v :: .int (nI i) :: .ref a :: st) ws := zR_last C d p ha (vp_in_nI hi.1 hi.2) (by rw [nI_clamp (Nat.lt_trans hi.1 hi.2)]; exact hw) k
theorem zR_zastN (C : zC x g own cc ret f) {a N i : Nat} {h : Nat → Int32} {v : Int32} {ws1 : va_W} (d : zD cc pc .bastore 1 pc') (p : Nat) (ha : ws[p]? = some (a, .inl (g.2.1 2, N, .inl h))) (hi : i < N ∧ N < 2 ^ 31) {v' : Int32} (hv : vp_nar .boolean v = v') (hw : ws.set p (a, .inl (g.2.1 2, N, .inl (upd h i v'))) = ws1) (k : zR x g post n pc' lv st ws1) : zR x g post n pc lv (.int v :: .int (nI i) :: .ref a :: st) ws := zR_zast C d p ha (vp_in_nI hi.1 hi.2) hv (by rw [nI_clamp (Nat.lt_trans hi.1 hi.2)]; exact hw) k
theorem zR_castN (C : zC x g own cc ret f) {a N i : Nat} {h : Nat → Int32} {v : Int32} {ws1 : va_W} (d : zD cc pc .castore 1 pc') (p : Nat) (ha : ws[p]? = some (a, .inl (g.2.1 3, N, .inl h))) (hi : i < N ∧ N < 2 ^ 31) {v' : Int32} (hv : vp_nar .char v = v') (hw : ws.set p (a, .inl (g.2.1 3, N, .inl (upd h i v'))) = ws1) (k : zR x g post n pc' lv st ws1) : zR x g post n pc lv (.int v :: .int (nI i) :: .ref a :: st) ws := zR_cast C d p ha (vp_in_nI hi.1 hi.2) hv (by rw [nI_clamp (Nat.lt_trans hi.1 hi.2)]; exact hw) k
theorem zR_ialdK (C : zC x g own cc ret f) {a N : Nat} {i : Int32} {h : Nat → Int32} (d : zD cc pc .iaload 1 pc') (p : Nat) (ha : ws[p]? = some (a, .inl (g.2.1 0, N, .inl h))) (c : Nat) (hc : i.toNatClampNeg = c) (hi : vp_in i N) (k : zR x g post n pc' lv (.int (h c) :: st) ws) : zR x g post n pc lv (.int i :: .ref a :: st) ws := zR_iald C d p ha hi (by rw [hc]; exact k)
theorem zR_zaldK (C : zC x g own cc ret f) {a N : Nat} {i : Int32} {h : Nat → Int32} (d : zD cc pc .baload 1 pc') (p : Nat) (ha : ws[p]? = some (a, .inl (g.2.1 2, N, .inl h))) (c : Nat) (hc : i.toNatClampNeg = c) (hi : vp_in i N) (k : zR x g post n pc' lv (.int (h c) :: st) ws) : zR x g post n pc lv (.int i :: .ref a :: st) ws := zR_zald C d p ha hi (by rw [hc]; exact k)
theorem zR_caldK (C : zC x g own cc ret f) {a N : Nat} {i : Int32} {h : Nat → Int32} (d : zD cc pc .caload 1 pc') (p : Nat) (ha : ws[p]? = some (a, .inl (g.2.1 3, N, .inl h))) (c : Nat) (hc : i.toNatClampNeg = c) (hi : vp_in i N) (k : zR x g post n pc' lv (.int (h c) :: st) ws) : zR x g post n pc lv (.int i :: .ref a :: st) ws := zR_cald C d p ha hi (by rw [hc]; exact k)
theorem zR_laldK (C : zC x g own cc ret f) {a N : Nat} {i : Int32} {h : Nat → Int64} (d : zD cc pc .laload 1 pc') (p : Nat) (ha : ws[p]? = some (a, .inl (g.2.1 1, N, .inr (.inl h)))) (c : Nat) (hc : i.toNatClampNeg = c) (hi : vp_in i N) (k : zR x g post n pc' lv (.long (h c) :: st) ws) : zR x g post n pc lv (.int i :: .ref a :: st) ws := zR_lald C d p ha hi (by rw [hc]; exact k)
theorem zR_iastK (C : zC x g own cc ret f) {a N : Nat} {i : Int32} {h : Nat → Int32} {v : Int32} {ws1 : va_W} (d : zD cc pc .iastore 1 pc') (p : Nat) (ha : ws[p]? = some (a, .inl (g.2.1 0, N, .inl h))) (c : Nat) (hc : i.toNatClampNeg = c) (hi : vp_in i N) (hw : ws.set p (a, .inl (g.2.1 0, N, .inl (upd h c v))) = ws1) (k : zR x g post n pc' lv st ws1) : zR x g post n pc lv (.int v :: .int i :: .ref a :: st) ws := zR_iast C d p ha hi (by rw [hc]; exact hw) k
theorem zR_lastK (C : zC x g own cc ret f) {a N : Nat} {i : Int32} {h : Nat → Int64} {v : Int64} {ws1 : va_W} (d : zD cc pc .lastore 1 pc') (p : Nat) (ha : ws[p]? = some (a, .inl (g.2.1 1, N, .inr (.inl h)))) (c : Nat) (hc : i.toNatClampNeg = c) (hi : vp_in i N) (hw : ws.set p (a, .inl (g.2.1 1, N, .inr (.inl (vp_updL h c v)))) = ws1) (k : zR x g post n pc' lv st ws1) : zR x g post n pc lv (.long v :: .int i :: .ref a :: st) ws := zR_last C d p ha hi (by rw [hc]; exact hw) k
theorem zR_zastK (C : zC x g own cc ret f) {a N : Nat} {i : Int32} {h : Nat → Int32} {v : Int32} {ws1 : va_W} (d : zD cc pc .bastore 1 pc') (p : Nat) (ha : ws[p]? = some (a, .inl (g.2.1 2, N, .inl h))) (c : Nat) (hc : i.toNatClampNeg = c) (hi : vp_in i N) {v' : Int32} (hv : vp_nar .boolean v = v') (hw : ws.set p (a, .inl (g.2.1 2, N, .inl (upd h c v'))) = ws1) (k : zR x g post n pc' lv st ws1) : zR x g post n pc lv (.int v :: .int i :: .ref a :: st) ws := zR_zast C d p ha hi hv (by rw [hc]; exact hw) k
theorem zR_castK (C : zC x g own cc ret f) {a N : Nat} {i : Int32} {h : Nat → Int32} {v : Int32} {ws1 : va_W} (d : zD cc pc .castore 1 pc') (p : Nat) (ha : ws[p]? = some (a, .inl (g.2.1 3, N, .inl h))) (c : Nat) (hc : i.toNatClampNeg = c) (hi : vp_in i N) {v' : Int32} (hv : vp_nar .char v = v') (hw : ws.set p (a, .inl (g.2.1 3, N, .inl (upd h c v'))) = ws1) (k : zR x g post n pc' lv st ws1) : zR x g post n pc lv (.int v :: .int i :: .ref a :: st) ws := zR_cast C d p ha hi hv (by rw [hc]; exact hw) k
end ZR3
theorem zinc (i : Nat) : nI i + Int32.ofInt 1 = nI (i + 1) := nI_1 i
def zok (x : Int32) (n : Nat) : Prop := x = nI (zn32 x) ∧ zn32 x ≤ n
theorem zlp_in {v : Int32} {n i : Nat} (h : zok v n) (hn : n < 2 ^ 31) (hi : i < zn32 v) : nI i < v := by
  rw [h.1]; exact nI_lt hi (Nat.lt_of_le_of_lt h.2 hn)
theorem zlp_out {v : Int32} {n i : Nat} (h : zok v n) (hi : i = zn32 v) : ¬ nI i < v := by
  rw [hi, ← h.1]; exact Int32.lt_irrefl
theorem zok_succ {v : Int32} {n : Nat} (h : zok v n) (hn : n + 1 < 2 ^ 31) : zok (v + 1) (n + 1) := by
  have e : v + 1 = nI (zn32 v + 1) := by rw [nI_succ, ← h.1]
  have h2 := h.2
  have e2 : zn32 (v + 1) = zn32 v + 1 := by
    show (v + 1).toNatClampNeg = _
    rw [e, nI_clamp (by omega)]
  exact ⟨by rw [e2]; exact e, by rw [e2]; omega⟩
theorem zok_vp {v : Int32} {n : Nat} (h : zok v n) (hn : n + 1 < 2 ^ 31) : vp_in v (n + 1) := by
  rw [h.1]; exact vp_in_nI (Nat.lt_succ_of_le h.2) hn
theorem zok_lt {v : Int32} {n i : Nat} (h : zok v n) (hi : i < zn32 v) (hn : n < 2 ^ 31) : i < n ∧ n < 2 ^ 31 := ⟨Nat.lt_of_lt_of_le hi h.2, hn⟩
theorem zok_acp {v : Int32} {n m : Nat} (h : zok v n) (hn : n < 2 ^ 31) (hm : n ≤ m) : ¬ v < 0 ∧ zn32 v ≤ n ∧ zn32 v ≤ m := ⟨by rw [h.1]; exact nI_pos (Nat.lt_of_le_of_lt h.2 hn), h.2, Nat.le_trans h.2 hm⟩


theorem zsw_ne {v : Int32} {k : Int} (h : ¬ v = Int32.ofInt k) (h1 : -2147483648 ≤ k) (h2 : k < 2147483648) : ¬ v.toInt = k := by
  intro e
  exact h (by rw [← e]; exact (Int32.ofInt_toInt v).symm)

theorem kX1_72 : zKa RX1 72 := ⟨(zT_in 369 (by decide +kernel) rfl), (zT_in 371 (by decide +kernel) rfl), (zT_in 370 (by decide +kernel) rfl), (zT_in 109 (by decide +kernel) rfl)⟩
theorem kX2_31 : zKa RX2 31 := ⟨(zT_in 376 (by decide +kernel) rfl), (zT_in 371 (by decide +kernel) rfl), (zT_in 370 (by decide +kernel) rfl), (zT_in 109 (by decide +kernel) rfl)⟩
theorem kX4_40 : zKa RX4 40 := ⟨(zT_in 381 (by decide +kernel) rfl), (zT_in 371 (by decide +kernel) rfl), (zT_in 370 (by decide +kernel) rfl), (zT_in 109 (by decide +kernel) rfl)⟩
end
section

def zfrom (a : Nat) : Nat → List Nat
  | 0 => []
  | n + 1 => a :: zfrom (a + 1) n
theorem zrep_mid : ∀ (B A C B' : va_W), B.length = B'.length → zrep (A ++ (B ++ C)) (zfrom A.length B.length) B' = A ++ (B' ++ C)
  | [], A, C, [], _ => rfl
  | [], A, C, _ :: _, h => by simp at h
  | _ :: _, A, C, [], h => by simp at h
  | b :: B, A, C, b' :: B', h => by
    show zrep ((A ++ (b :: B ++ C)).set A.length b') (zfrom (A.length + 1) B.length) B' = _
    have e : (A ++ (b :: B ++ C)).set A.length b' = (A ++ [b']) ++ (B ++ C) := by
      rw [List.set_append_right _ _ (Nat.le_refl _)]
      simp
    have l : A.length + 1 = (A ++ [b']).length := by simp
    rw [e, l, zrep_mid B (A ++ [b']) C B' (by simpa using h)]
    simp
theorem zget_mid : ∀ (B A C : va_W), (zfrom A.length B.length).map (fun i => (A ++ (B ++ C))[i]?) = B.map some
  | [], A, C => rfl
  | b :: B, A, C => by
    show (A ++ (b :: B ++ C))[A.length]? :: (zfrom (A.length + 1) B.length).map (fun i => (A ++ (b :: B ++ C))[i]?) = some b :: B.map some
    have l : A.length + 1 = (A ++ [b]).length := by simp
    have e : A ++ (b :: B ++ C) = (A ++ [b]) ++ (B ++ C) := by simp
    rw [List.getElem?_append_right (Nat.le_refl _)]
    rw [l, e, zget_mid B (A ++ [b]) C]
    simp
theorem zrep_m {ws : va_W} {is : List Nat} {B' w2 : va_W} (A B C : va_W) (h1 : ws = A ++ (B ++ C)) (h2 : is = zfrom A.length B.length) (h3 : B.length = B'.length) (h4 : A ++ (B' ++ C) = w2) : zrep ws is B' = w2 := by
  subst h1 h2 h4; exact zrep_mid B A C B' h3
theorem zget_m {ws : va_W} {is : List Nat} (A B C : va_W) (h1 : ws = A ++ (B ++ C)) (h2 : is = zfrom A.length B.length) : is.map (fun i => ws[i]?) = B.map some := by
  subst h1 h2; exact zget_mid B A C
theorem zrep_a {ws w2 : va_W} {is : List Nat} (h2 : is = zfrom 0 ws.length) (h3 : ws.length = w2.length) : zrep ws is w2 = w2 :=
  zrep_m [] ws [] (by simp) h2 h3 (by simp)
theorem zget_a {ws : va_W} {is : List Nat} (h2 : is = zfrom 0 ws.length) : is.map (fun i => ws[i]?) = ws.map some :=
  zget_m [] ws [] (by simp) h2
end
section
/-! The data of the objects, and their cells. -/
abbrev LD : Type := Int32 × (Nat → Int32) × (Nat → Int32) × (Nat → Int32) × (Nat → Int32) × (Nat → Int32)
def l_num (d : LD) : Int32 := d.1
def l_len (d : LD) : Nat → Int32 := d.2.1
def l_bor (d : LD) : Nat → Int32 := d.2.2.1
def l_min (d : LD) : Nat → Int32 := d.2.2.2.1
def l_owe (d : LD) : Nat → Int32 := d.2.2.2.2.1
def l_due (d : LD) : Nat → Int32 := d.2.2.2.2.2
def l_snum (d : LD) (v : Int32) : LD := (v, l_len d, l_bor d, l_min d, l_owe d, l_due d)
def l_slen (d : LD) (v : Nat → Int32) : LD := (l_num d, v, l_bor d, l_min d, l_owe d, l_due d)
def l_sbor (d : LD) (v : Nat → Int32) : LD := (l_num d, l_len d, v, l_min d, l_owe d, l_due d)
def l_smin (d : LD) (v : Nat → Int32) : LD := (l_num d, l_len d, l_bor d, v, l_owe d, l_due d)
def l_sowe (d : LD) (v : Nat → Int32) : LD := (l_num d, l_len d, l_bor d, l_min d, v, l_due d)
def l_sdue (d : LD) (v : Nat → Int32) : LD := (l_num d, l_len d, l_bor d, l_min d, l_owe d, v)
abbrev PD : Type := Int32 × (Nat → Int32) × (Nat → Int32) × (Nat → Int32) × (Nat → Int32) × (Nat → Int32) × (Nat → Int32) × Int32 × Int32
def p_num (d : PD) : Int32 := d.1
def p_srv (d : PD) : Nat → Int32 := d.2.1
def p_hr (d : PD) : Nat → Int32 := d.2.2.1
def p_sz (d : PD) : Nat → Int32 := d.2.2.2.1
def p_pri (d : PD) : Nat → Int32 := d.2.2.2.2.1
def p_fate (d : PD) : Nat → Int32 := d.2.2.2.2.2.1
def p_turn (d : PD) : Nat → Int32 := d.2.2.2.2.2.2.1
def p_wat (d : PD) : Int32 := d.2.2.2.2.2.2.2.1
def p_wf (d : PD) : Int32 := d.2.2.2.2.2.2.2.2
def p_snum (d : PD) (v : Int32) : PD := (v, p_srv d, p_hr d, p_sz d, p_pri d, p_fate d, p_turn d, p_wat d, p_wf d)
def p_ssrv (d : PD) (v : Nat → Int32) : PD := (p_num d, v, p_hr d, p_sz d, p_pri d, p_fate d, p_turn d, p_wat d, p_wf d)
def p_shr (d : PD) (v : Nat → Int32) : PD := (p_num d, p_srv d, v, p_sz d, p_pri d, p_fate d, p_turn d, p_wat d, p_wf d)
def p_ssz (d : PD) (v : Nat → Int32) : PD := (p_num d, p_srv d, p_hr d, v, p_pri d, p_fate d, p_turn d, p_wat d, p_wf d)
def p_spri (d : PD) (v : Nat → Int32) : PD := (p_num d, p_srv d, p_hr d, p_sz d, v, p_fate d, p_turn d, p_wat d, p_wf d)
def p_sfate (d : PD) (v : Nat → Int32) : PD := (p_num d, p_srv d, p_hr d, p_sz d, p_pri d, v, p_turn d, p_wat d, p_wf d)
def p_sturn (d : PD) (v : Nat → Int32) : PD := (p_num d, p_srv d, p_hr d, p_sz d, p_pri d, p_fate d, v, p_wat d, p_wf d)
def p_swat (d : PD) (v : Int32) : PD := (p_num d, p_srv d, p_hr d, p_sz d, p_pri d, p_fate d, p_turn d, v, p_wf d)
def p_swf (d : PD) (v : Int32) : PD := (p_num d, p_srv d, p_hr d, p_sz d, p_pri d, p_fate d, p_turn d, p_wat d, v)
abbrev HD : Type := (Nat → Int32) × Int32 × Int32 × Int32 × Int32 × Int32 × (Nat → Int32) × (Nat → Int32) × (Nat → Int32) × (Nat → Int32) × (Nat → Int32) × (Nat → Int64) × LD × PD
def h_set (d : HD) : Nat → Int32 := d.1
def h_hour (d : HD) : Int32 := d.2.1
def h_win (d : HD) : Int32 := d.2.2.1
def h_ws (d : HD) : Int32 := d.2.2.2.1
def h_cnt (d : HD) : Int32 := d.2.2.2.2.1
def h_frz (d : HD) : Int32 := d.2.2.2.2.2.1
def h_bud (d : HD) : Nat → Int32 := d.2.2.2.2.2.2.1
def h_exe (d : HD) : Nat → Int32 := d.2.2.2.2.2.2.2.1
def h_rel (d : HD) : Nat → Int32 := d.2.2.2.2.2.2.2.2.1
def h_drp (d : HD) : Nat → Int32 := d.2.2.2.2.2.2.2.2.2.1
def h_fr (d : HD) : Nat → Int32 := d.2.2.2.2.2.2.2.2.2.2.1
def h_acc (d : HD) : Nat → Int64 := d.2.2.2.2.2.2.2.2.2.2.2.1
def h_lo (d : HD) : LD := d.2.2.2.2.2.2.2.2.2.2.2.2.1
def h_pl (d : HD) : PD := d.2.2.2.2.2.2.2.2.2.2.2.2.2
def h_sset (d : HD) (v : Nat → Int32) : HD := (v, h_hour d, h_win d, h_ws d, h_cnt d, h_frz d, h_bud d, h_exe d, h_rel d, h_drp d, h_fr d, h_acc d, h_lo d, h_pl d)
def h_shour (d : HD) (v : Int32) : HD := (h_set d, v, h_win d, h_ws d, h_cnt d, h_frz d, h_bud d, h_exe d, h_rel d, h_drp d, h_fr d, h_acc d, h_lo d, h_pl d)
def h_swin (d : HD) (v : Int32) : HD := (h_set d, h_hour d, v, h_ws d, h_cnt d, h_frz d, h_bud d, h_exe d, h_rel d, h_drp d, h_fr d, h_acc d, h_lo d, h_pl d)
def h_sws (d : HD) (v : Int32) : HD := (h_set d, h_hour d, h_win d, v, h_cnt d, h_frz d, h_bud d, h_exe d, h_rel d, h_drp d, h_fr d, h_acc d, h_lo d, h_pl d)
def h_scnt (d : HD) (v : Int32) : HD := (h_set d, h_hour d, h_win d, h_ws d, v, h_frz d, h_bud d, h_exe d, h_rel d, h_drp d, h_fr d, h_acc d, h_lo d, h_pl d)
def h_sfrz (d : HD) (v : Int32) : HD := (h_set d, h_hour d, h_win d, h_ws d, h_cnt d, v, h_bud d, h_exe d, h_rel d, h_drp d, h_fr d, h_acc d, h_lo d, h_pl d)
def h_sbud (d : HD) (v : Nat → Int32) : HD := (h_set d, h_hour d, h_win d, h_ws d, h_cnt d, h_frz d, v, h_exe d, h_rel d, h_drp d, h_fr d, h_acc d, h_lo d, h_pl d)
def h_sexe (d : HD) (v : Nat → Int32) : HD := (h_set d, h_hour d, h_win d, h_ws d, h_cnt d, h_frz d, h_bud d, v, h_rel d, h_drp d, h_fr d, h_acc d, h_lo d, h_pl d)
def h_srel (d : HD) (v : Nat → Int32) : HD := (h_set d, h_hour d, h_win d, h_ws d, h_cnt d, h_frz d, h_bud d, h_exe d, v, h_drp d, h_fr d, h_acc d, h_lo d, h_pl d)
def h_sdrp (d : HD) (v : Nat → Int32) : HD := (h_set d, h_hour d, h_win d, h_ws d, h_cnt d, h_frz d, h_bud d, h_exe d, h_rel d, v, h_fr d, h_acc d, h_lo d, h_pl d)
def h_sfr (d : HD) (v : Nat → Int32) : HD := (h_set d, h_hour d, h_win d, h_ws d, h_cnt d, h_frz d, h_bud d, h_exe d, h_rel d, h_drp d, v, h_acc d, h_lo d, h_pl d)
def h_sacc (d : HD) (v : Nat → Int64) : HD := (h_set d, h_hour d, h_win d, h_ws d, h_cnt d, h_frz d, h_bud d, h_exe d, h_rel d, h_drp d, h_fr d, v, h_lo d, h_pl d)
def h_slo (d : HD) (v : LD) : HD := (h_set d, h_hour d, h_win d, h_ws d, h_cnt d, h_frz d, h_bud d, h_exe d, h_rel d, h_drp d, h_fr d, h_acc d, v, h_pl d)
def h_spl (d : HD) (v : PD) : HD := (h_set d, h_hour d, h_win d, h_ws d, h_cnt d, h_frz d, h_bud d, h_exe d, h_rel d, h_drp d, h_fr d, h_acc d, h_lo d, v)
abbrev AD : Type := (Nat → Int32) × Int32 × Int32 × Int32 × (Nat → Int32) × (Nat → Int32)
def a_sig (d : AD) : Nat → Int32 := d.1
def a_len (d : AD) : Int32 := d.2.1
def a_at (d : AD) : Int32 := d.2.2.1
def a_ord (d : AD) : Int32 := d.2.2.2.1
def a_kin (d : AD) : Nat → Int32 := d.2.2.2.2.1
def a_val (d : AD) : Nat → Int32 := d.2.2.2.2.2
def a_ssig (d : AD) (v : Nat → Int32) : AD := (v, a_len d, a_at d, a_ord d, a_kin d, a_val d)
def a_slen (d : AD) (v : Int32) : AD := (a_sig d, v, a_at d, a_ord d, a_kin d, a_val d)
def a_sat (d : AD) (v : Int32) : AD := (a_sig d, a_len d, v, a_ord d, a_kin d, a_val d)
def a_sord (d : AD) (v : Int32) : AD := (a_sig d, a_len d, a_at d, v, a_kin d, a_val d)
def a_skin (d : AD) (v : Nat → Int32) : AD := (a_sig d, a_len d, a_at d, a_ord d, v, a_val d)
def a_sval (d : AD) (v : Nat → Int32) : AD := (a_sig d, a_len d, a_at d, a_ord d, a_kin d, v)
abbrev YD : Type := Int32 × Int32 × (Nat → HD)
def y_old (d : YD) : Int32 := d.1
def y_kept (d : YD) : Int32 := d.2.1
def y_st (d : YD) : Nat → HD := d.2.2
def y_sold (d : YD) (v : Int32) : YD := (v, y_kept d, y_st d)
def y_skept (d : YD) (v : Int32) : YD := (y_old d, v, y_st d)
def y_sst (d : YD) (v : Nat → HD) : YD := (y_old d, y_kept d, v)
abbrev ED : Type := HD × HD × YD × (Nat → HD) × (Nat → Int32) × AD × Int32
def e_now (d : ED) : HD := d.1
def e_tri (d : ED) : HD := d.2.1
def e_his (d : ED) : YD := d.2.2.1
def e_sl (d : ED) : Nat → HD := d.2.2.2.1
def e_sav (d : ED) : Nat → Int32 := d.2.2.2.2.1
def e_pad (d : ED) : AD := d.2.2.2.2.2.1
def e_rea (d : ED) : Int32 := d.2.2.2.2.2.2
def e_snow (d : ED) (v : HD) : ED := (v, e_tri d, e_his d, e_sl d, e_sav d, e_pad d, e_rea d)
def e_stri (d : ED) (v : HD) : ED := (e_now d, v, e_his d, e_sl d, e_sav d, e_pad d, e_rea d)
def e_shis (d : ED) (v : YD) : ED := (e_now d, e_tri d, v, e_sl d, e_sav d, e_pad d, e_rea d)
def e_ssl (d : ED) (v : Nat → HD) : ED := (e_now d, e_tri d, e_his d, v, e_sav d, e_pad d, e_rea d)
def e_ssav (d : ED) (v : Nat → Int32) : ED := (e_now d, e_tri d, e_his d, e_sl d, v, e_pad d, e_rea d)
def e_spad (d : ED) (v : AD) : ED := (e_now d, e_tri d, e_his d, e_sl d, e_sav d, v, e_rea d)
def e_srea (d : ED) (v : Int32) : ED := (e_now d, e_tri d, e_his d, e_sl d, e_sav d, e_pad d, v)
abbrev MD : Type := (Nat → Int64) × Int32 × (Nat → Int32) × Int32 × (Nat → Int32) × Int32 × Int32 × Int32 × (Nat → Int32) × (Nat → Int32) × Int32 × (Nat → Int32) × Int32
def m_row (d : MD) : Nat → Int64 := d.1
def m_sts (d : MD) : Int32 := d.2.1
def m_sav (d : MD) : Nat → Int32 := d.2.2.1
def m_rea (d : MD) : Int32 := d.2.2.2.1
def m_pad (d : MD) : Nat → Int32 := d.2.2.2.2.1
def m_len (d : MD) : Int32 := d.2.2.2.2.2.1
def m_wat (d : MD) : Int32 := d.2.2.2.2.2.2.1
def m_wh (d : MD) : Int32 := d.2.2.2.2.2.2.2.1
def m_gone (d : MD) : Nat → Int32 := d.2.2.2.2.2.2.2.2.1
def m_seen (d : MD) : Nat → Int32 := d.2.2.2.2.2.2.2.2.2.1
def m_at (d : MD) : Int32 := d.2.2.2.2.2.2.2.2.2.2.1
def m_num (d : MD) : Nat → Int32 := d.2.2.2.2.2.2.2.2.2.2.2.1
def m_nm (d : MD) : Int32 := d.2.2.2.2.2.2.2.2.2.2.2.2
def m_srow (d : MD) (v : Nat → Int64) : MD := (v, m_sts d, m_sav d, m_rea d, m_pad d, m_len d, m_wat d, m_wh d, m_gone d, m_seen d, m_at d, m_num d, m_nm d)
def m_ssts (d : MD) (v : Int32) : MD := (m_row d, v, m_sav d, m_rea d, m_pad d, m_len d, m_wat d, m_wh d, m_gone d, m_seen d, m_at d, m_num d, m_nm d)
def m_ssav (d : MD) (v : Nat → Int32) : MD := (m_row d, m_sts d, v, m_rea d, m_pad d, m_len d, m_wat d, m_wh d, m_gone d, m_seen d, m_at d, m_num d, m_nm d)
def m_srea (d : MD) (v : Int32) : MD := (m_row d, m_sts d, m_sav d, v, m_pad d, m_len d, m_wat d, m_wh d, m_gone d, m_seen d, m_at d, m_num d, m_nm d)
def m_spad (d : MD) (v : Nat → Int32) : MD := (m_row d, m_sts d, m_sav d, m_rea d, v, m_len d, m_wat d, m_wh d, m_gone d, m_seen d, m_at d, m_num d, m_nm d)
def m_slen (d : MD) (v : Int32) : MD := (m_row d, m_sts d, m_sav d, m_rea d, m_pad d, v, m_wat d, m_wh d, m_gone d, m_seen d, m_at d, m_num d, m_nm d)
def m_swat (d : MD) (v : Int32) : MD := (m_row d, m_sts d, m_sav d, m_rea d, m_pad d, m_len d, v, m_wh d, m_gone d, m_seen d, m_at d, m_num d, m_nm d)
def m_swh (d : MD) (v : Int32) : MD := (m_row d, m_sts d, m_sav d, m_rea d, m_pad d, m_len d, m_wat d, v, m_gone d, m_seen d, m_at d, m_num d, m_nm d)
def m_sgone (d : MD) (v : Nat → Int32) : MD := (m_row d, m_sts d, m_sav d, m_rea d, m_pad d, m_len d, m_wat d, m_wh d, v, m_seen d, m_at d, m_num d, m_nm d)
def m_sseen (d : MD) (v : Nat → Int32) : MD := (m_row d, m_sts d, m_sav d, m_rea d, m_pad d, m_len d, m_wat d, m_wh d, m_gone d, v, m_at d, m_num d, m_nm d)
def m_sat (d : MD) (v : Int32) : MD := (m_row d, m_sts d, m_sav d, m_rea d, m_pad d, m_len d, m_wat d, m_wh d, m_gone d, m_seen d, v, m_num d, m_nm d)
def m_snum (d : MD) (v : Nat → Int32) : MD := (m_row d, m_sts d, m_sav d, m_rea d, m_pad d, m_len d, m_wat d, m_wh d, m_gone d, m_seen d, m_at d, v, m_nm d)
def m_snm (d : MD) (v : Int32) : MD := (m_row d, m_sts d, m_sav d, m_rea d, m_pad d, m_len d, m_wat d, m_wh d, m_gone d, m_seen d, m_at d, m_num d, v)

def lW (g : zG) (q : Nat → Nat) (d : LD) : va_W := [(q 0, .inr (2, [.int (l_num d), .ref (q 1), .ref (q 2), .ref (q 3), .ref (q 4), .ref (q 5)])), (q 1, .inl (g.2.1 0, 40, .inl (l_len d))), (q 2, .inl (g.2.1 0, 40, .inl (l_bor d))), (q 3, .inl (g.2.1 0, 40, .inl (l_min d))), (q 4, .inl (g.2.1 0, 40, .inl (l_owe d))), (q 5, .inl (g.2.1 0, 40, .inl (l_due d)))]
def pW (g : zG) (q : Nat → Nat) (d : PD) : va_W := [(q 0, .inr (4, [.int (p_num d), .ref (q 1), .ref (q 2), .ref (q 3), .ref (q 4), .ref (q 5), .ref (q 6), .int (p_wat d), .int (p_wf d)])), (q 1, .inl (g.2.1 0, 30, .inl (p_srv d))), (q 2, .inl (g.2.1 0, 30, .inl (p_hr d))), (q 3, .inl (g.2.1 0, 30, .inl (p_sz d))), (q 4, .inl (g.2.1 0, 30, .inl (p_pri d))), (q 5, .inl (g.2.1 0, 30, .inl (p_fate d))), (q 6, .inl (g.2.1 0, 30, .inl (p_turn d)))]
def hW0 (g : zG) (q : Nat → Nat) (d : HD) : va_W := [(q 0, .inr (1, [.ref (q 1), .int (h_hour d), .int (h_win d), .int (h_ws d), .int (h_cnt d), .int (h_frz d), .ref (q 2), .ref (q 3), .ref (q 4), .ref (q 5), .ref (q 6), .ref (q 7), .ref (q 8), .ref (q 14)])), (q 1, .inl (g.2.1 0, 8, .inl (h_set d))), (q 2, .inl (g.2.1 0, 8, .inl (h_bud d))), (q 3, .inl (g.2.1 0, 8, .inl (h_exe d))), (q 4, .inl (g.2.1 0, 8, .inl (h_rel d))), (q 5, .inl (g.2.1 0, 8, .inl (h_drp d))), (q 6, .inl (g.2.1 0, 8, .inl (h_fr d))), (q 7, .inl (g.2.1 1, 72,   .inr (.inl (h_acc d))))]
def hW (g : zG) (q : Nat → Nat) (d : HD) : va_W := hW0 g q d ++ (lW g (fun j => q (8 + j)) (h_lo d) ++ pW g (fun j => q (14 + j)) (h_pl d))
def aW (g : zG) (q : Nat → Nat) (d : AD) : va_W := [(q 0, .inr (3, [.ref (q 1), .int (a_len d), .int (a_at d), .int (a_ord d), .ref (q 2), .ref (q 3)])), (q 1, .inl (g.2.1 3, 80, .inl (a_sig d))), (q 2, .inl (g.2.1 3, 27, .inl (a_kin d))), (q 3, .inl (g.2.1 0, 108, .inl (a_val d)))]
def m_forms : Nat → Int32 := fun j => ([1, 42, 3, 37, 3, 0, 0, 1, 42, 3, 0, 0, 0, 0, 1, 62, 1, 42, 3, 47, 2, 1, 64, 3, 42, 3, 94, 2, 3, 0, 0, 0, 0, 0, 0, 3, 0, 0, 0, 0, 0, 0] : List Int32).getD j 0
def mW (g : zG) (q : Nat → Nat) (d : MD) : va_W := [(q 0, .inr (6, [.ref (q 1), .int (m_sts d), .ref (q 2), .int (m_rea d), .ref (q 3), .int (m_len d), .int (m_wat d), .int (m_wh d), .ref (q 4), .ref (q 5), .ref (q 6), .int (m_at d), .ref (q 7), .int (m_nm d)])), (q 1, .inl (g.2.1 1, 4540, .inr (.inl (m_row d)))), (q 2, .inl (g.2.1 2, 2, .inl (m_sav d))), (q 3, .inl (g.2.1 0, 80, .inl (m_pad d))), (q 4, .inl (g.2.1 2, 30, .inl (m_gone d))), (q 5, .inl (g.2.1 2, 30, .inl (m_seen d))), (q 6, .inl (g.2.1 0, 42, .inl m_forms)), (q 7, .inl (g.2.1 0, 4, .inl (m_num d)))]

theorem lW_g0 {g : zG} {q : Nat → Nat} {d : LD} : (lW g q d)[0]? = some (q 0, .inr (2, [.int (l_num d), .ref (q 1), .ref (q 2), .ref (q 3), .ref (q 4), .ref (q 5)])) := rfl
theorem lW_s0_0 {g : zG} {q : Nat → Nat} {d : LD} {v : Int32} : (lW g q d).set 0 (q 0, .inr (2, ([.int (l_num d), .ref (q 1), .ref (q 2), .ref (q 3), .ref (q 4), .ref (q 5)] : List Value).set 0 (.int v))) = lW g q (l_snum d v) := rfl
theorem lW_g1 {g : zG} {q : Nat → Nat} {d : LD} : (lW g q d)[1]? = some (q 1, .inl (g.2.1 0, 40, .inl (l_len d))) := rfl
theorem lW_s1 {g : zG} {q : Nat → Nat} {d : LD} {v : Nat → Int32} : (lW g q d).set 1 (q 1, .inl (g.2.1 0, 40, .inl v)) = lW g q (l_slen d v) := rfl
theorem lW_g2 {g : zG} {q : Nat → Nat} {d : LD} : (lW g q d)[2]? = some (q 2, .inl (g.2.1 0, 40, .inl (l_bor d))) := rfl
theorem lW_s2 {g : zG} {q : Nat → Nat} {d : LD} {v : Nat → Int32} : (lW g q d).set 2 (q 2, .inl (g.2.1 0, 40, .inl v)) = lW g q (l_sbor d v) := rfl
theorem lW_g3 {g : zG} {q : Nat → Nat} {d : LD} : (lW g q d)[3]? = some (q 3, .inl (g.2.1 0, 40, .inl (l_min d))) := rfl
theorem lW_s3 {g : zG} {q : Nat → Nat} {d : LD} {v : Nat → Int32} : (lW g q d).set 3 (q 3, .inl (g.2.1 0, 40, .inl v)) = lW g q (l_smin d v) := rfl
theorem lW_g4 {g : zG} {q : Nat → Nat} {d : LD} : (lW g q d)[4]? = some (q 4, .inl (g.2.1 0, 40, .inl (l_owe d))) := rfl
theorem lW_s4 {g : zG} {q : Nat → Nat} {d : LD} {v : Nat → Int32} : (lW g q d).set 4 (q 4, .inl (g.2.1 0, 40, .inl v)) = lW g q (l_sowe d v) := rfl
theorem lW_g5 {g : zG} {q : Nat → Nat} {d : LD} : (lW g q d)[5]? = some (q 5, .inl (g.2.1 0, 40, .inl (l_due d))) := rfl
theorem lW_s5 {g : zG} {q : Nat → Nat} {d : LD} {v : Nat → Int32} : (lW g q d).set 5 (q 5, .inl (g.2.1 0, 40, .inl v)) = lW g q (l_sdue d v) := rfl
theorem lW_f {g : zG} {q : Nat → Nat} {d d2 : LD} : (lW g q d2).map Prod.fst = (lW g q d).map Prod.fst := rfl
theorem lW_c {g : zG} {q : Nat → Nat} {d : LD} : ([0, 1, 2, 3, 4, 5] : List Nat).map (fun i => (lW g q d)[i]?) = (lW g q d).map some := zget_a rfl
theorem lW_r {g : zG} {q : Nat → Nat} {d d2 : LD} : zrep (lW g q d) [0, 1, 2, 3, 4, 5] (lW g q d2) = lW g q d2 := zrep_a rfl rfl
theorem lW_n : va_nd [0, 1, 2, 3, 4, 5] = true := by decide
theorem pW_g0 {g : zG} {q : Nat → Nat} {d : PD} : (pW g q d)[0]? = some (q 0, .inr (4, [.int (p_num d), .ref (q 1), .ref (q 2), .ref (q 3), .ref (q 4), .ref (q 5), .ref (q 6), .int (p_wat d), .int (p_wf d)])) := rfl
theorem pW_s0_0 {g : zG} {q : Nat → Nat} {d : PD} {v : Int32} : (pW g q d).set 0 (q 0, .inr (4, ([.int (p_num d), .ref (q 1), .ref (q 2), .ref (q 3), .ref (q 4), .ref (q 5), .ref (q 6), .int (p_wat d), .int (p_wf d)] : List Value).set 0 (.int v))) = pW g q (p_snum d v) := rfl
theorem pW_s0_7 {g : zG} {q : Nat → Nat} {d : PD} {v : Int32} : (pW g q d).set 0 (q 0, .inr (4, ([.int (p_num d), .ref (q 1), .ref (q 2), .ref (q 3), .ref (q 4), .ref (q 5), .ref (q 6), .int (p_wat d), .int (p_wf d)] : List Value).set 7 (.int v))) = pW g q (p_swat d v) := rfl
theorem pW_s0_8 {g : zG} {q : Nat → Nat} {d : PD} {v : Int32} : (pW g q d).set 0 (q 0, .inr (4, ([.int (p_num d), .ref (q 1), .ref (q 2), .ref (q 3), .ref (q 4), .ref (q 5), .ref (q 6), .int (p_wat d), .int (p_wf d)] : List Value).set 8 (.int v))) = pW g q (p_swf d v) := rfl
theorem pW_g1 {g : zG} {q : Nat → Nat} {d : PD} : (pW g q d)[1]? = some (q 1, .inl (g.2.1 0, 30, .inl (p_srv d))) := rfl
theorem pW_s1 {g : zG} {q : Nat → Nat} {d : PD} {v : Nat → Int32} : (pW g q d).set 1 (q 1, .inl (g.2.1 0, 30, .inl v)) = pW g q (p_ssrv d v) := rfl
theorem pW_g2 {g : zG} {q : Nat → Nat} {d : PD} : (pW g q d)[2]? = some (q 2, .inl (g.2.1 0, 30, .inl (p_hr d))) := rfl
theorem pW_s2 {g : zG} {q : Nat → Nat} {d : PD} {v : Nat → Int32} : (pW g q d).set 2 (q 2, .inl (g.2.1 0, 30, .inl v)) = pW g q (p_shr d v) := rfl
theorem pW_g3 {g : zG} {q : Nat → Nat} {d : PD} : (pW g q d)[3]? = some (q 3, .inl (g.2.1 0, 30, .inl (p_sz d))) := rfl
theorem pW_s3 {g : zG} {q : Nat → Nat} {d : PD} {v : Nat → Int32} : (pW g q d).set 3 (q 3, .inl (g.2.1 0, 30, .inl v)) = pW g q (p_ssz d v) := rfl
theorem pW_g4 {g : zG} {q : Nat → Nat} {d : PD} : (pW g q d)[4]? = some (q 4, .inl (g.2.1 0, 30, .inl (p_pri d))) := rfl
theorem pW_s4 {g : zG} {q : Nat → Nat} {d : PD} {v : Nat → Int32} : (pW g q d).set 4 (q 4, .inl (g.2.1 0, 30, .inl v)) = pW g q (p_spri d v) := rfl
theorem pW_g5 {g : zG} {q : Nat → Nat} {d : PD} : (pW g q d)[5]? = some (q 5, .inl (g.2.1 0, 30, .inl (p_fate d))) := rfl
theorem pW_s5 {g : zG} {q : Nat → Nat} {d : PD} {v : Nat → Int32} : (pW g q d).set 5 (q 5, .inl (g.2.1 0, 30, .inl v)) = pW g q (p_sfate d v) := rfl
theorem pW_g6 {g : zG} {q : Nat → Nat} {d : PD} : (pW g q d)[6]? = some (q 6, .inl (g.2.1 0, 30, .inl (p_turn d))) := rfl
theorem pW_s6 {g : zG} {q : Nat → Nat} {d : PD} {v : Nat → Int32} : (pW g q d).set 6 (q 6, .inl (g.2.1 0, 30, .inl v)) = pW g q (p_sturn d v) := rfl
theorem pW_f {g : zG} {q : Nat → Nat} {d d2 : PD} : (pW g q d2).map Prod.fst = (pW g q d).map Prod.fst := rfl
theorem pW_c {g : zG} {q : Nat → Nat} {d : PD} : ([0, 1, 2, 3, 4, 5, 6] : List Nat).map (fun i => (pW g q d)[i]?) = (pW g q d).map some := zget_a rfl
theorem pW_r {g : zG} {q : Nat → Nat} {d d2 : PD} : zrep (pW g q d) [0, 1, 2, 3, 4, 5, 6] (pW g q d2) = pW g q d2 := zrep_a rfl rfl
theorem pW_n : va_nd [0, 1, 2, 3, 4, 5, 6] = true := by decide
theorem aW_g0 {g : zG} {q : Nat → Nat} {d : AD} : (aW g q d)[0]? = some (q 0, .inr (3, [.ref (q 1), .int (a_len d), .int (a_at d), .int (a_ord d), .ref (q 2), .ref (q 3)])) := rfl
theorem aW_s0_1 {g : zG} {q : Nat → Nat} {d : AD} {v : Int32} : (aW g q d).set 0 (q 0, .inr (3, ([.ref (q 1), .int (a_len d), .int (a_at d), .int (a_ord d), .ref (q 2), .ref (q 3)] : List Value).set 1 (.int v))) = aW g q (a_slen d v) := rfl
theorem aW_s0_2 {g : zG} {q : Nat → Nat} {d : AD} {v : Int32} : (aW g q d).set 0 (q 0, .inr (3, ([.ref (q 1), .int (a_len d), .int (a_at d), .int (a_ord d), .ref (q 2), .ref (q 3)] : List Value).set 2 (.int v))) = aW g q (a_sat d v) := rfl
theorem aW_s0_3 {g : zG} {q : Nat → Nat} {d : AD} {v : Int32} : (aW g q d).set 0 (q 0, .inr (3, ([.ref (q 1), .int (a_len d), .int (a_at d), .int (a_ord d), .ref (q 2), .ref (q 3)] : List Value).set 3 (.int v))) = aW g q (a_sord d v) := rfl
theorem aW_g1 {g : zG} {q : Nat → Nat} {d : AD} : (aW g q d)[1]? = some (q 1, .inl (g.2.1 3, 80, .inl (a_sig d))) := rfl
theorem aW_s1 {g : zG} {q : Nat → Nat} {d : AD} {v : Nat → Int32} : (aW g q d).set 1 (q 1, .inl (g.2.1 3, 80, .inl v)) = aW g q (a_ssig d v) := rfl
theorem aW_g2 {g : zG} {q : Nat → Nat} {d : AD} : (aW g q d)[2]? = some (q 2, .inl (g.2.1 3, 27, .inl (a_kin d))) := rfl
theorem aW_s2 {g : zG} {q : Nat → Nat} {d : AD} {v : Nat → Int32} : (aW g q d).set 2 (q 2, .inl (g.2.1 3, 27, .inl v)) = aW g q (a_skin d v) := rfl
theorem aW_g3 {g : zG} {q : Nat → Nat} {d : AD} : (aW g q d)[3]? = some (q 3, .inl (g.2.1 0, 108, .inl (a_val d))) := rfl
theorem aW_s3 {g : zG} {q : Nat → Nat} {d : AD} {v : Nat → Int32} : (aW g q d).set 3 (q 3, .inl (g.2.1 0, 108, .inl v)) = aW g q (a_sval d v) := rfl
theorem aW_f {g : zG} {q : Nat → Nat} {d d2 : AD} : (aW g q d2).map Prod.fst = (aW g q d).map Prod.fst := rfl
theorem aW_c {g : zG} {q : Nat → Nat} {d : AD} : ([0, 1, 2, 3] : List Nat).map (fun i => (aW g q d)[i]?) = (aW g q d).map some := zget_a rfl
theorem aW_r {g : zG} {q : Nat → Nat} {d d2 : AD} : zrep (aW g q d) [0, 1, 2, 3] (aW g q d2) = aW g q d2 := zrep_a rfl rfl
theorem aW_n : va_nd [0, 1, 2, 3] = true := by decide
theorem mW_g0 {g : zG} {q : Nat → Nat} {d : MD} : (mW g q d)[0]? = some (q 0, .inr (6, [.ref (q 1), .int (m_sts d), .ref (q 2), .int (m_rea d), .ref (q 3), .int (m_len d), .int (m_wat d), .int (m_wh d), .ref (q 4), .ref (q 5), .ref (q 6), .int (m_at d), .ref (q 7), .int (m_nm d)])) := rfl
theorem mW_s0_1 {g : zG} {q : Nat → Nat} {d : MD} {v : Int32} : (mW g q d).set 0 (q 0, .inr (6, ([.ref (q 1), .int (m_sts d), .ref (q 2), .int (m_rea d), .ref (q 3), .int (m_len d), .int (m_wat d), .int (m_wh d), .ref (q 4), .ref (q 5), .ref (q 6), .int (m_at d), .ref (q 7), .int (m_nm d)] : List Value).set 1 (.int v))) = mW g q (m_ssts d v) := rfl
theorem mW_s0_3 {g : zG} {q : Nat → Nat} {d : MD} {v : Int32} : (mW g q d).set 0 (q 0, .inr (6, ([.ref (q 1), .int (m_sts d), .ref (q 2), .int (m_rea d), .ref (q 3), .int (m_len d), .int (m_wat d), .int (m_wh d), .ref (q 4), .ref (q 5), .ref (q 6), .int (m_at d), .ref (q 7), .int (m_nm d)] : List Value).set 3 (.int v))) = mW g q (m_srea d v) := rfl
theorem mW_s0_5 {g : zG} {q : Nat → Nat} {d : MD} {v : Int32} : (mW g q d).set 0 (q 0, .inr (6, ([.ref (q 1), .int (m_sts d), .ref (q 2), .int (m_rea d), .ref (q 3), .int (m_len d), .int (m_wat d), .int (m_wh d), .ref (q 4), .ref (q 5), .ref (q 6), .int (m_at d), .ref (q 7), .int (m_nm d)] : List Value).set 5 (.int v))) = mW g q (m_slen d v) := rfl
theorem mW_s0_6 {g : zG} {q : Nat → Nat} {d : MD} {v : Int32} : (mW g q d).set 0 (q 0, .inr (6, ([.ref (q 1), .int (m_sts d), .ref (q 2), .int (m_rea d), .ref (q 3), .int (m_len d), .int (m_wat d), .int (m_wh d), .ref (q 4), .ref (q 5), .ref (q 6), .int (m_at d), .ref (q 7), .int (m_nm d)] : List Value).set 6 (.int v))) = mW g q (m_swat d v) := rfl
theorem mW_s0_7 {g : zG} {q : Nat → Nat} {d : MD} {v : Int32} : (mW g q d).set 0 (q 0, .inr (6, ([.ref (q 1), .int (m_sts d), .ref (q 2), .int (m_rea d), .ref (q 3), .int (m_len d), .int (m_wat d), .int (m_wh d), .ref (q 4), .ref (q 5), .ref (q 6), .int (m_at d), .ref (q 7), .int (m_nm d)] : List Value).set 7 (.int v))) = mW g q (m_swh d v) := rfl
theorem mW_s0_11 {g : zG} {q : Nat → Nat} {d : MD} {v : Int32} : (mW g q d).set 0 (q 0, .inr (6, ([.ref (q 1), .int (m_sts d), .ref (q 2), .int (m_rea d), .ref (q 3), .int (m_len d), .int (m_wat d), .int (m_wh d), .ref (q 4), .ref (q 5), .ref (q 6), .int (m_at d), .ref (q 7), .int (m_nm d)] : List Value).set 11 (.int v))) = mW g q (m_sat d v) := rfl
theorem mW_s0_13 {g : zG} {q : Nat → Nat} {d : MD} {v : Int32} : (mW g q d).set 0 (q 0, .inr (6, ([.ref (q 1), .int (m_sts d), .ref (q 2), .int (m_rea d), .ref (q 3), .int (m_len d), .int (m_wat d), .int (m_wh d), .ref (q 4), .ref (q 5), .ref (q 6), .int (m_at d), .ref (q 7), .int (m_nm d)] : List Value).set 13 (.int v))) = mW g q (m_snm d v) := rfl
theorem mW_g1 {g : zG} {q : Nat → Nat} {d : MD} : (mW g q d)[1]? = some (q 1, .inl (g.2.1 1, 4540, .inr (.inl (m_row d)))) := rfl
theorem mW_s1 {g : zG} {q : Nat → Nat} {d : MD} {v : Nat → Int64} : (mW g q d).set 1 (q 1, .inl (g.2.1 1, 4540, .inr (.inl v))) = mW g q (m_srow d v) := rfl
theorem mW_g2 {g : zG} {q : Nat → Nat} {d : MD} : (mW g q d)[2]? = some (q 2, .inl (g.2.1 2, 2, .inl (m_sav d))) := rfl
theorem mW_s2 {g : zG} {q : Nat → Nat} {d : MD} {v : Nat → Int32} : (mW g q d).set 2 (q 2, .inl (g.2.1 2, 2, .inl v)) = mW g q (m_ssav d v) := rfl
theorem mW_g3 {g : zG} {q : Nat → Nat} {d : MD} : (mW g q d)[3]? = some (q 3, .inl (g.2.1 0, 80, .inl (m_pad d))) := rfl
theorem mW_s3 {g : zG} {q : Nat → Nat} {d : MD} {v : Nat → Int32} : (mW g q d).set 3 (q 3, .inl (g.2.1 0, 80, .inl v)) = mW g q (m_spad d v) := rfl
theorem mW_g4 {g : zG} {q : Nat → Nat} {d : MD} : (mW g q d)[4]? = some (q 4, .inl (g.2.1 2, 30, .inl (m_gone d))) := rfl
theorem mW_s4 {g : zG} {q : Nat → Nat} {d : MD} {v : Nat → Int32} : (mW g q d).set 4 (q 4, .inl (g.2.1 2, 30, .inl v)) = mW g q (m_sgone d v) := rfl
theorem mW_g5 {g : zG} {q : Nat → Nat} {d : MD} : (mW g q d)[5]? = some (q 5, .inl (g.2.1 2, 30, .inl (m_seen d))) := rfl
theorem mW_s5 {g : zG} {q : Nat → Nat} {d : MD} {v : Nat → Int32} : (mW g q d).set 5 (q 5, .inl (g.2.1 2, 30, .inl v)) = mW g q (m_sseen d v) := rfl
theorem mW_g6 {g : zG} {q : Nat → Nat} {d : MD} : (mW g q d)[6]? = some (q 6, .inl (g.2.1 0, 42, .inl m_forms)) := rfl
theorem mW_g7 {g : zG} {q : Nat → Nat} {d : MD} : (mW g q d)[7]? = some (q 7, .inl (g.2.1 0, 4, .inl (m_num d))) := rfl
theorem mW_s7 {g : zG} {q : Nat → Nat} {d : MD} {v : Nat → Int32} : (mW g q d).set 7 (q 7, .inl (g.2.1 0, 4, .inl v)) = mW g q (m_snum d v) := rfl
theorem mW_f {g : zG} {q : Nat → Nat} {d d2 : MD} : (mW g q d2).map Prod.fst = (mW g q d).map Prod.fst := rfl
theorem mW_c {g : zG} {q : Nat → Nat} {d : MD} : ([0, 1, 2, 3, 4, 5, 6, 7] : List Nat).map (fun i => (mW g q d)[i]?) = (mW g q d).map some := zget_a rfl
theorem mW_r {g : zG} {q : Nat → Nat} {d d2 : MD} : zrep (mW g q d) [0, 1, 2, 3, 4, 5, 6, 7] (mW g q d2) = mW g q d2 := zrep_a rfl rfl
theorem mW_n : va_nd [0, 1, 2, 3, 4, 5, 6, 7] = true := by decide
theorem hW_g0 {g : zG} {q : Nat → Nat} {d : HD} : (hW g q d)[0]? = some (q 0, .inr (1, [.ref (q 1), .int (h_hour d), .int (h_win d), .int (h_ws d), .int (h_cnt d), .int (h_frz d), .ref (q 2), .ref (q 3), .ref (q 4), .ref (q 5), .ref (q 6), .ref (q 7), .ref (q 8), .ref (q 14)])) := rfl
theorem hW_s0_1 {g : zG} {q : Nat → Nat} {d : HD} {v : Int32} : (hW g q d).set 0 (q 0, .inr (1, ([.ref (q 1), .int (h_hour d), .int (h_win d), .int (h_ws d), .int (h_cnt d), .int (h_frz d), .ref (q 2), .ref (q 3), .ref (q 4), .ref (q 5), .ref (q 6), .ref (q 7), .ref (q 8), .ref (q 14)] : List Value).set 1 (.int v))) = hW g q (h_shour d v) := rfl
theorem hW_s0_2 {g : zG} {q : Nat → Nat} {d : HD} {v : Int32} : (hW g q d).set 0 (q 0, .inr (1, ([.ref (q 1), .int (h_hour d), .int (h_win d), .int (h_ws d), .int (h_cnt d), .int (h_frz d), .ref (q 2), .ref (q 3), .ref (q 4), .ref (q 5), .ref (q 6), .ref (q 7), .ref (q 8), .ref (q 14)] : List Value).set 2 (.int v))) = hW g q (h_swin d v) := rfl
theorem hW_s0_3 {g : zG} {q : Nat → Nat} {d : HD} {v : Int32} : (hW g q d).set 0 (q 0, .inr (1, ([.ref (q 1), .int (h_hour d), .int (h_win d), .int (h_ws d), .int (h_cnt d), .int (h_frz d), .ref (q 2), .ref (q 3), .ref (q 4), .ref (q 5), .ref (q 6), .ref (q 7), .ref (q 8), .ref (q 14)] : List Value).set 3 (.int v))) = hW g q (h_sws d v) := rfl
theorem hW_s0_4 {g : zG} {q : Nat → Nat} {d : HD} {v : Int32} : (hW g q d).set 0 (q 0, .inr (1, ([.ref (q 1), .int (h_hour d), .int (h_win d), .int (h_ws d), .int (h_cnt d), .int (h_frz d), .ref (q 2), .ref (q 3), .ref (q 4), .ref (q 5), .ref (q 6), .ref (q 7), .ref (q 8), .ref (q 14)] : List Value).set 4 (.int v))) = hW g q (h_scnt d v) := rfl
theorem hW_s0_5 {g : zG} {q : Nat → Nat} {d : HD} {v : Int32} : (hW g q d).set 0 (q 0, .inr (1, ([.ref (q 1), .int (h_hour d), .int (h_win d), .int (h_ws d), .int (h_cnt d), .int (h_frz d), .ref (q 2), .ref (q 3), .ref (q 4), .ref (q 5), .ref (q 6), .ref (q 7), .ref (q 8), .ref (q 14)] : List Value).set 5 (.int v))) = hW g q (h_sfrz d v) := rfl
theorem hW_g1 {g : zG} {q : Nat → Nat} {d : HD} : (hW g q d)[1]? = some (q 1, .inl (g.2.1 0, 8, .inl (h_set d))) := rfl
theorem hW_s1 {g : zG} {q : Nat → Nat} {d : HD} {v : Nat → Int32} : (hW g q d).set 1 (q 1, .inl (g.2.1 0, 8, .inl v)) = hW g q (h_sset d v) := rfl
theorem hW_g2 {g : zG} {q : Nat → Nat} {d : HD} : (hW g q d)[2]? = some (q 2, .inl (g.2.1 0, 8, .inl (h_bud d))) := rfl
theorem hW_s2 {g : zG} {q : Nat → Nat} {d : HD} {v : Nat → Int32} : (hW g q d).set 2 (q 2, .inl (g.2.1 0, 8, .inl v)) = hW g q (h_sbud d v) := rfl
theorem hW_g3 {g : zG} {q : Nat → Nat} {d : HD} : (hW g q d)[3]? = some (q 3, .inl (g.2.1 0, 8, .inl (h_exe d))) := rfl
theorem hW_s3 {g : zG} {q : Nat → Nat} {d : HD} {v : Nat → Int32} : (hW g q d).set 3 (q 3, .inl (g.2.1 0, 8, .inl v)) = hW g q (h_sexe d v) := rfl
theorem hW_g4 {g : zG} {q : Nat → Nat} {d : HD} : (hW g q d)[4]? = some (q 4, .inl (g.2.1 0, 8, .inl (h_rel d))) := rfl
theorem hW_s4 {g : zG} {q : Nat → Nat} {d : HD} {v : Nat → Int32} : (hW g q d).set 4 (q 4, .inl (g.2.1 0, 8, .inl v)) = hW g q (h_srel d v) := rfl
theorem hW_g5 {g : zG} {q : Nat → Nat} {d : HD} : (hW g q d)[5]? = some (q 5, .inl (g.2.1 0, 8, .inl (h_drp d))) := rfl
theorem hW_s5 {g : zG} {q : Nat → Nat} {d : HD} {v : Nat → Int32} : (hW g q d).set 5 (q 5, .inl (g.2.1 0, 8, .inl v)) = hW g q (h_sdrp d v) := rfl
theorem hW_g6 {g : zG} {q : Nat → Nat} {d : HD} : (hW g q d)[6]? = some (q 6, .inl (g.2.1 0, 8, .inl (h_fr d))) := rfl
theorem hW_s6 {g : zG} {q : Nat → Nat} {d : HD} {v : Nat → Int32} : (hW g q d).set 6 (q 6, .inl (g.2.1 0, 8, .inl v)) = hW g q (h_sfr d v) := rfl
theorem hW_g7 {g : zG} {q : Nat → Nat} {d : HD} : (hW g q d)[7]? = some (q 7, .inl (g.2.1 1, 72, .inr (.inl (h_acc d)))) := rfl
theorem hW_s7 {g : zG} {q : Nat → Nat} {d : HD} {v : Nat → Int64} : (hW g q d).set 7 (q 7, .inl (g.2.1 1, 72, .inr (.inl v))) = hW g q (h_sacc d v) := rfl
theorem hW_f {g : zG} {q : Nat → Nat} {d d2 : HD} : (hW g q d2).map Prod.fst = (hW g q d).map Prod.fst := rfl
theorem hW_c {g : zG} {q : Nat → Nat} {d : HD} : ([0, 1, 2, 3, 4, 5, 6, 7, 8, 9, 10, 11, 12, 13, 14, 15, 16, 17, 18, 19, 20] : List Nat).map (fun i => (hW g q d)[i]?) = (hW g q d).map some := zget_a rfl
theorem hW_r {g : zG} {q : Nat → Nat} {d d2 : HD} : zrep (hW g q d) [0, 1, 2, 3, 4, 5, 6, 7, 8, 9, 10, 11, 12, 13, 14, 15, 16, 17, 18, 19, 20] (hW g q d2) = hW g q d2 := zrep_a rfl rfl
theorem hW_n : va_nd [0, 1, 2, 3, 4, 5, 6, 7, 8, 9, 10, 11, 12, 13, 14, 15, 16, 17, 18, 19, 20] = true := by decide
theorem hW_g8 {g : zG} {q : Nat → Nat} {d : HD} : (hW g q d)[8]? = some (q 8, .inr (2, [.int (l_num (h_lo d)), .ref (q 9), .ref (q 10), .ref (q 11), .ref (q 12), .ref (q 13)])) := rfl
theorem hW_s8_0 {g : zG} {q : Nat → Nat} {d : HD} {v : Int32} : (hW g q d).set 8 (q 8, .inr (2, ([.int (l_num (h_lo d)), .ref (q 9), .ref (q 10), .ref (q 11), .ref (q 12), .ref (q 13)] : List Value).set 0 (.int v))) = hW g q (h_slo d (l_snum (h_lo d) v)) := rfl
theorem hW_g9 {g : zG} {q : Nat → Nat} {d : HD} : (hW g q d)[9]? = some (q 9, .inl (g.2.1 0, 40, .inl (l_len (h_lo d)))) := rfl
theorem hW_s9 {g : zG} {q : Nat → Nat} {d : HD} {v : Nat → Int32} : (hW g q d).set 9 (q 9, .inl (g.2.1 0, 40, .inl v)) = hW g q (h_slo d (l_slen (h_lo d) v)) := rfl
theorem hW_g10 {g : zG} {q : Nat → Nat} {d : HD} : (hW g q d)[10]? = some (q 10, .inl (g.2.1 0, 40, .inl (l_bor (h_lo d)))) := rfl
theorem hW_s10 {g : zG} {q : Nat → Nat} {d : HD} {v : Nat → Int32} : (hW g q d).set 10 (q 10, .inl (g.2.1 0, 40, .inl v)) = hW g q (h_slo d (l_sbor (h_lo d) v)) := rfl
theorem hW_g11 {g : zG} {q : Nat → Nat} {d : HD} : (hW g q d)[11]? = some (q 11, .inl (g.2.1 0, 40, .inl (l_min (h_lo d)))) := rfl
theorem hW_s11 {g : zG} {q : Nat → Nat} {d : HD} {v : Nat → Int32} : (hW g q d).set 11 (q 11, .inl (g.2.1 0, 40, .inl v)) = hW g q (h_slo d (l_smin (h_lo d) v)) := rfl
theorem hW_g12 {g : zG} {q : Nat → Nat} {d : HD} : (hW g q d)[12]? = some (q 12, .inl (g.2.1 0, 40, .inl (l_owe (h_lo d)))) := rfl
theorem hW_s12 {g : zG} {q : Nat → Nat} {d : HD} {v : Nat → Int32} : (hW g q d).set 12 (q 12, .inl (g.2.1 0, 40, .inl v)) = hW g q (h_slo d (l_sowe (h_lo d) v)) := rfl
theorem hW_g13 {g : zG} {q : Nat → Nat} {d : HD} : (hW g q d)[13]? = some (q 13, .inl (g.2.1 0, 40, .inl (l_due (h_lo d)))) := rfl
theorem hW_s13 {g : zG} {q : Nat → Nat} {d : HD} {v : Nat → Int32} : (hW g q d).set 13 (q 13, .inl (g.2.1 0, 40, .inl v)) = hW g q (h_slo d (l_sdue (h_lo d) v)) := rfl
theorem hW_c8 {g : zG} {q : Nat → Nat} {d : HD} : ([8, 9, 10, 11, 12, 13] : List Nat).map (fun i => (hW g q d)[i]?) = (lW g (fun j => q (8 + j)) (h_lo d)).map some := zget_m (hW0 g q d) (lW g (fun j => q (8 + j)) (h_lo d)) (pW g (fun j => q (14 + j)) (h_pl d)) rfl rfl
theorem hW_r8 {g : zG} {q : Nat → Nat} {d : HD} {l : LD} : zrep (hW g q d) [8, 9, 10, 11, 12, 13] (lW g (fun j => q (8 + j)) l) = hW g q (h_slo d l) := zrep_m (hW0 g q d) (lW g (fun j => q (8 + j)) (h_lo d)) (pW g (fun j => q (14 + j)) (h_pl d)) rfl rfl rfl rfl
theorem hW_n8 : va_nd [8, 9, 10, 11, 12, 13] = true := by decide
theorem hW_g14 {g : zG} {q : Nat → Nat} {d : HD} : (hW g q d)[14]? = some (q 14, .inr (4, [.int (p_num (h_pl d)), .ref (q 15), .ref (q 16), .ref (q 17), .ref (q 18), .ref (q 19), .ref (q 20), .int (p_wat (h_pl d)), .int (p_wf (h_pl d))])) := rfl
theorem hW_s14_0 {g : zG} {q : Nat → Nat} {d : HD} {v : Int32} : (hW g q d).set 14 (q 14, .inr (4, ([.int (p_num (h_pl d)), .ref (q 15), .ref (q 16), .ref (q 17), .ref (q 18), .ref (q 19), .ref (q 20), .int (p_wat (h_pl d)), .int (p_wf (h_pl d))] : List Value).set 0 (.int v))) = hW g q (h_spl d (p_snum (h_pl d) v)) := rfl
theorem hW_s14_7 {g : zG} {q : Nat → Nat} {d : HD} {v : Int32} : (hW g q d).set 14 (q 14, .inr (4, ([.int (p_num (h_pl d)), .ref (q 15), .ref (q 16), .ref (q 17), .ref (q 18), .ref (q 19), .ref (q 20), .int (p_wat (h_pl d)), .int (p_wf (h_pl d))] : List Value).set 7 (.int v))) = hW g q (h_spl d (p_swat (h_pl d) v)) := rfl
theorem hW_s14_8 {g : zG} {q : Nat → Nat} {d : HD} {v : Int32} : (hW g q d).set 14 (q 14, .inr (4, ([.int (p_num (h_pl d)), .ref (q 15), .ref (q 16), .ref (q 17), .ref (q 18), .ref (q 19), .ref (q 20), .int (p_wat (h_pl d)), .int (p_wf (h_pl d))] : List Value).set 8 (.int v))) = hW g q (h_spl d (p_swf (h_pl d) v)) := rfl
theorem hW_g15 {g : zG} {q : Nat → Nat} {d : HD} : (hW g q d)[15]? = some (q 15, .inl (g.2.1 0, 30, .inl (p_srv (h_pl d)))) := rfl
theorem hW_s15 {g : zG} {q : Nat → Nat} {d : HD} {v : Nat → Int32} : (hW g q d).set 15 (q 15, .inl (g.2.1 0, 30, .inl v)) = hW g q (h_spl d (p_ssrv (h_pl d) v)) := rfl
theorem hW_g16 {g : zG} {q : Nat → Nat} {d : HD} : (hW g q d)[16]? = some (q 16, .inl (g.2.1 0, 30, .inl (p_hr (h_pl d)))) := rfl
theorem hW_s16 {g : zG} {q : Nat → Nat} {d : HD} {v : Nat → Int32} : (hW g q d).set 16 (q 16, .inl (g.2.1 0, 30, .inl v)) = hW g q (h_spl d (p_shr (h_pl d) v)) := rfl
theorem hW_g17 {g : zG} {q : Nat → Nat} {d : HD} : (hW g q d)[17]? = some (q 17, .inl (g.2.1 0, 30, .inl (p_sz (h_pl d)))) := rfl
theorem hW_s17 {g : zG} {q : Nat → Nat} {d : HD} {v : Nat → Int32} : (hW g q d).set 17 (q 17, .inl (g.2.1 0, 30, .inl v)) = hW g q (h_spl d (p_ssz (h_pl d) v)) := rfl
theorem hW_g18 {g : zG} {q : Nat → Nat} {d : HD} : (hW g q d)[18]? = some (q 18, .inl (g.2.1 0, 30, .inl (p_pri (h_pl d)))) := rfl
theorem hW_s18 {g : zG} {q : Nat → Nat} {d : HD} {v : Nat → Int32} : (hW g q d).set 18 (q 18, .inl (g.2.1 0, 30, .inl v)) = hW g q (h_spl d (p_spri (h_pl d) v)) := rfl
theorem hW_g19 {g : zG} {q : Nat → Nat} {d : HD} : (hW g q d)[19]? = some (q 19, .inl (g.2.1 0, 30, .inl (p_fate (h_pl d)))) := rfl
theorem hW_s19 {g : zG} {q : Nat → Nat} {d : HD} {v : Nat → Int32} : (hW g q d).set 19 (q 19, .inl (g.2.1 0, 30, .inl v)) = hW g q (h_spl d (p_sfate (h_pl d) v)) := rfl
theorem hW_g20 {g : zG} {q : Nat → Nat} {d : HD} : (hW g q d)[20]? = some (q 20, .inl (g.2.1 0, 30, .inl (p_turn (h_pl d)))) := rfl
theorem hW_s20 {g : zG} {q : Nat → Nat} {d : HD} {v : Nat → Int32} : (hW g q d).set 20 (q 20, .inl (g.2.1 0, 30, .inl v)) = hW g q (h_spl d (p_sturn (h_pl d) v)) := rfl
theorem hW_c14 {g : zG} {q : Nat → Nat} {d : HD} : ([14, 15, 16, 17, 18, 19, 20] : List Nat).map (fun i => (hW g q d)[i]?) = (pW g (fun j => q (14 + j)) (h_pl d)).map some := zget_m (hW0 g q d ++ lW g (fun j => q (8 + j)) (h_lo d)) (pW g (fun j => q (14 + j)) (h_pl d)) [] (by rw [List.append_nil, List.append_assoc]; rfl) rfl
theorem hW_r14 {g : zG} {q : Nat → Nat} {d : HD} {l : PD} : zrep (hW g q d) [14, 15, 16, 17, 18, 19, 20] (pW g (fun j => q (14 + j)) l) = hW g q (h_spl d l) := zrep_m (hW0 g q d ++ lW g (fun j => q (8 + j)) (h_lo d)) (pW g (fun j => q (14 + j)) (h_pl d)) [] (by rw [List.append_nil, List.append_assoc]; rfl) rfl rfl (by rw [List.append_nil, List.append_assoc]; rfl)
theorem hW_n14 : va_nd [14, 15, 16, 17, 18, 19, 20] = true := by decide
end
section

/-! What the methods of loans, plans and houses do, as functions. -/
def zit {S : Type} (step : Nat → S → S) (s : S) : Nat → S
  | 0 => s
  | i + 1 => step i (zit step s i)
-- loans
def l_has (d : LD) (i : Int32) : Bool := if i < 0 then false else if i < l_num d then true else false
def z_cnt (h : Nat → Int32) (s : Int32) : Nat → Int32
  | 0 => 0
  | n + 1 => if h n = s then z_cnt h s n + 1 else z_cnt h s n
def z_sum (h o : Nat → Int32) (s : Int32) : Nat → Int32
  | 0 => 0
  | n + 1 => if h n = s then z_sum h o s n + o n else z_sum h o s n
def l_ok (d : LD) : Prop := zok (l_num d) 40
def l_put (d : LD) (i : Nat) (a b c e w : Int32) : LD := l_sdue (l_sowe (l_smin (l_sbor (l_slen d (upd (l_len d) i a)) (upd (l_bor d) i b)) (upd (l_min d) i c)) (upd (l_owe d) i e)) (upd (l_due d) i w)
def l_add (d : LD) (a b c e w : Int32) : LD := l_snum (l_put d (zn32 (l_num d)) a b c e w) (l_num d + 1)
def l_rstep (i : Nat) (s : LD × Nat) : LD × Nat := if l_owe s.1 i ≤ 0 then s else (l_put s.1 s.2 (l_len s.1 i) (l_bor s.1 i) (l_min s.1 i) (l_owe s.1 i) (l_due s.1 i), s.2 + 1)
def l_rloop (d : LD) (n : Nat) : LD × Nat := zit l_rstep (d, 0) n
def l_rem (d : LD) : LD := l_snum (l_rloop d (zn32 (l_num d))).1 (nI (l_rloop d (zn32 (l_num d))).2)
def l_copy (d o : LD) : LD := l_sdue (l_sowe (l_smin (l_sbor (l_slen (l_snum d (l_num o)) (va_cpy (l_len o) (l_len d) 0 0 (zn32 (l_num o)))) (va_cpy (l_bor o) (l_bor d) 0 0 (zn32 (l_num o)))) (va_cpy (l_min o) (l_min d) 0 0 (zn32 (l_num o)))) (va_cpy (l_owe o) (l_owe d) 0 0 (zn32 (l_num o)))) (va_cpy (l_due o) (l_due d) 0 0 (zn32 (l_num o)))
-- plans
def p_ok (d : PD) : Prop := zok (p_num d) 30
def p_has (d : PD) (i : Int32) : Bool := if i < 0 then false else if i < p_num d then true else false
def p_watch (d : PD) (i : Int32) : PD := p_swf (p_swat d i) 0
def p_bef (d : PD) (a b : Int32) : Bool :=
  if p_pri d (zn32 a) = p_pri d (zn32 b) then
    (if p_hr d (zn32 a) = p_hr d (zn32 b) then (if a < b then true else false) else (if p_hr d (zn32 a) < p_hr d (zn32 b) then true else false))
  else (if p_pri d (zn32 a) ≤ p_pri d (zn32 b) then false else true)
def p_ain (d : PD) (i : Nat) : Nat → (Nat → Int32) → (Nat → Int32)
  | 0, t => upd t 0 (nI i)
  | k + 1, t => if p_bef d (nI i) (t k) then p_ain d i k (upd t (k + 1) (t k)) else upd t (k + 1) (nI i)
def p_astep (i : Nat) (d : PD) : PD := p_sturn d (p_ain d i i (p_turn d))
def p_arr (d : PD) : PD := zit p_astep d (zn32 (p_num d))
def p_put (d : PD) (i : Nat) (a b c e w : Int32) : PD := p_sfate (p_spri (p_ssz (p_shr (p_ssrv d (upd (p_srv d) i a)) (upd (p_hr d) i b)) (upd (p_sz d) i c)) (upd (p_pri d) i e)) (upd (p_fate d) i w)
def p_add (d : PD) (a b c e : Int32) : PD := p_arr (p_snum (p_put d (zn32 (p_num d)) a b c e 0) (p_num d + 1))
def p_move (d : PD) (i j : Nat) : PD := p_put d j (p_srv d i) (p_hr d i) (p_sz d i) (p_pri d i) (p_fate d i)
def p_r1 (fo : Int32) (i : Nat) (s : PD × Nat) : PD :=
  if nI i = fo then (if p_fate s.1 i = 0 then p_swat (p_swf s.1 (p_fate s.1 i)) (nI s.2) else p_swat (p_swf s.1 (p_fate s.1 i)) (-1)) else s.1
def p_rstep (fo : Int32) (i : Nat) (s : PD × Nat) : PD × Nat :=
  if p_fate s.1 i = 0 then (p_move (p_r1 fo i s) i s.2, s.2 + 1) else (p_r1 fo i s, s.2)
def p_rloop (d : PD) (n : Nat) : PD × Nat := zit (p_rstep (p_wat d)) (d, 0) n
def p_rem (d : PD) : PD := p_arr (p_snum (p_rloop d (zn32 (p_num d))).1 (nI (p_rloop d (zn32 (p_num d))).2))
def p_copy (d o : PD) : PD := p_watch (p_sturn (p_sfate (p_spri (p_ssz (p_shr (p_ssrv (p_snum d (p_num o)) (va_cpy (p_srv o) (p_srv d) 0 0 (zn32 (p_num o)))) (va_cpy (p_hr o) (p_hr d) 0 0 (zn32 (p_num o)))) (va_cpy (p_sz o) (p_sz d) 0 0 (zn32 (p_num o)))) (va_cpy (p_pri o) (p_pri d) 0 0 (zn32 (p_num o)))) (va_cpy (p_fate o) (p_fate d) 0 0 (zn32 (p_num o)))) (va_cpy (p_turn o) (p_turn d) 0 0 (zn32 (p_num o)))) (-1)
-- houses
def h_has (d : HD) (i : Int32) : Bool := if i < 0 then false else if i < h_cnt d then true else false
def h_isf (d : HD) (s : Int32) : Bool := if (h_frz d >>> (s &&& 31)) &&& 1 = 1 then true else false
def h_ix (s w : Int32) : Nat := zn32 (s * 9 + w)
def h_mo (d : HD) (s w : Int32) : Int64 := h_acc d (h_ix s w)
def h_thw (d : HD) (s : Int32) : Int32 := h_bud d (zn32 s) * h_set d 3 / 100
def h_ac (d : HD) (s w : Int32) (m : Int64) : HD := h_sacc d (vp_updL (h_acc d) (h_ix s w) (h_acc d (h_ix s w) + m))
def h_enter (d : HD) (s w : Int32) (m : Int64) : HD := if w ≤ 2 then h_ac (h_ac d s w m) s 8 m else h_ac (h_ac d s w m) s 8 (-m)
def h_sett (d : HD) (s : Int32) : HD :=
  if h_mo d s 8 ≤ 0 then
    (if h_isf d s then h_sfrz d (h_frz d ||| (1 <<< (s &&& 31))) else h_sfrz (h_sfr d (upd (h_fr d) (zn32 s) (h_fr d (zn32 s) + 1))) (h_frz d ||| (1 <<< (s &&& 31))))
  else if h_mo d s 8 ≤ (h_thw d s).toInt64 then d else h_sfrz d (h_frz d &&& ((1 <<< (s &&& 31)) ^^^ -1))
def h_book (d : HD) (s w : Int32) (m : Int64) : HD := h_sett (h_enter d s w m) s
def h_add (d : HD) (b : Int32) : HD := h_book (h_scnt (h_sexe (h_sbud d (upd (h_bud d) (zn32 (h_cnt d)) b)) (upd (h_exe d) (zn32 (h_cnt d)) (h_set d 7))) (h_cnt d + 1)) (h_cnt d) 0 b.toInt64
def h_dorel (d : HD) (s z : Int32) : HD := h_book (h_srel d (upd (h_rel d) (zn32 s) (h_rel d (zn32 s) + 1))) s 4 z.toInt64
def h_refu (d : HD) (a b m : Int32) : Int32 :=
  if h_isf d a then 2 else if h_mo d a 8 - m.toInt64 ≤ (h_thw d a).toInt64 then 3 else if z_cnt (l_bor (h_lo d)) b (zn32 (l_num (h_lo d))) < h_set d 6 then 0 else 4
def h_lend (d : HD) (a b m w : Int32) : HD :=
  h_slo (h_book (h_book d a 5 m.toInt64) b 1 m.toInt64) (l_add (h_lo (h_book (h_book d a 5 m.toInt64) b 1 m.toInt64)) a b m (m + m * h_set (h_book (h_book d a 5 m.toInt64) b 1 m.toInt64) 2 / 100) (h_win (h_book (h_book d a 5 m.toInt64) b 1 m.toInt64) + w))
def h_paid (d : HD) (l : Nat) : Int64 := if h_mo d (l_bor (h_lo d) l) 8 < (l_owe (h_lo d) l).toInt64 then h_mo d (l_bor (h_lo d) l) 8 else (l_owe (h_lo d) l).toInt64
def h_pay2 (d : HD) (l : Nat) (m : Int64) : HD := h_slo d (l_sowe (h_lo d) (upd (l_owe (h_lo d)) l (l_owe (h_lo d) l - m.toInt32)))
def h_pay1 (d : HD) (l : Nat) (b : Int32) (m : Int64) : HD := h_book (h_book d b 6 m) (l_len (h_lo (h_book d b 6 m)) l) 2 m
def h_pay (d : HD) (l : Nat) : HD := if h_paid d l ≤ 0 then d else h_pay1 (h_pay2 d l (h_paid d l)) l (l_bor (h_lo d) l) (h_paid d l)
def h_left0 (d : HD) (s : Int32) : Int64 := if h_mo d s 8 < 0 then 0 else h_mo d s 8
def h_carry (d : HD) (i : Nat) (m : Int64) : Int64 := (if (h_bud d i).toInt64 < m then (h_bud d i).toInt64 else m) * (h_set d 1).toInt64 / 100
def h_gr1 (d : HD) (i : Nat) : HD := h_enter d (nI i) 7 (h_left0 d (nI i) - h_carry d i (h_left0 d (nI i)))
def h_gr2 (d : HD) (i : Nat) : HD := h_book d (nI i) 0 (h_bud d i).toInt64
def h_gr3 (d : HD) (i : Nat) : HD := h_sexe d (upd (h_exe d) i (h_set d 7))
def h_gstep (i : Nat) (d : HD) : HD := h_gr3 (h_gr2 (h_gr1 d i) i) i
def h_beg0 (d : HD) : HD := h_sws (h_swin d (h_win d + 1)) (h_hour d)
def h_begin (d : HD) : HD := zit h_gstep (h_beg0 d) (zn32 (h_cnt d))
def h_due1 (d : HD) (l : Nat) : HD := h_slo d (l_sowe (h_lo d) (upd (l_owe (h_lo d)) l (if l_owe (h_lo d) l + l_owe (h_lo d) l * h_set d 4 / 100 < 10000000 then l_owe (h_lo d) l + l_owe (h_lo d) l * h_set d 4 / 100 else 10000000)))
def h_due2 (d : HD) (l : Nat) : HD := h_slo d (l_sdue (h_lo d) (upd (l_due (h_lo d)) l (h_win d + 1)))
def h_dstep (l : Nat) (d : HD) : HD := if l_due (h_lo d) l ≤ h_win d then h_due2 (h_due1 (h_pay d l) l) l else d
def h_dloop (d : HD) (n : Nat) : HD := zit h_dstep d n
def h_due (d : HD) : HD := h_slo (h_dloop d (zn32 (l_num (h_lo d)))) (l_rem (h_lo (h_dloop d (zn32 (l_num (h_lo d))))))
def h_fate (d : HD) (p : Nat) : Int32 :=
  if h_hour d - p_hr (h_pl d) p < 0 then 0 else if h_isf d (p_srv (h_pl d) p) then (if h_hour d - p_hr (h_pl d) p < h_set d 5 then 0 else 2) else 1
def h_t1 (d : HD) (p : Nat) : HD := h_spl d (p_sfate (h_pl d) (upd (p_fate (h_pl d)) p (h_fate d p)))
def h_tstep (i : Nat) (s : HD × Bool) : HD × Bool :=
  let p := zn32 (p_turn (h_pl s.1) i)
  (if h_fate s.1 p = 1 then h_dorel (h_t1 s.1 p) (p_srv (h_pl (h_t1 s.1 p)) p) (p_sz (h_pl (h_t1 s.1 p)) p) else if h_fate s.1 p = 2 then h_sdrp (h_t1 s.1 p) (upd (h_drp (h_t1 s.1 p)) (zn32 (p_srv (h_pl (h_t1 s.1 p)) p)) (h_drp (h_t1 s.1 p) (zn32 (p_srv (h_pl (h_t1 s.1 p)) p)) + 1)) else h_t1 s.1 p,
   if s.2 then true else if h_fate s.1 p = 0 then false else true)
def h_tloop (d : HD) (n : Nat) : HD × Bool := zit h_tstep (d, false) n
def h_take (d : HD) : HD :=
  if (h_tloop d (zn32 (p_num (h_pl d)))).2 then h_spl (h_tloop d (zn32 (p_num (h_pl d)))).1 (p_rem (h_pl (h_tloop d (zn32 (p_num (h_pl d)))).1)) else (h_tloop d (zn32 (p_num (h_pl d)))).1
def h_hr1 (d : HD) : HD := h_shour d (h_hour d + 1)
def h_hstep (_ : Nat) (d : HD) : HD := if h_hour (h_hr1 d) - h_ws (h_hr1 d) < h_set (h_hr1 d) 0 then h_take (h_hr1 d) else h_take (h_due (h_begin (h_hr1 d)))
def z_in (v a b : Int32) : Bool := if v < a then false else if v ≤ b then true else false
def h_hrs (d : HD) (n : Nat) : HD := zit h_hstep d n
def h_pass (d : HD) (k : Int32) : HD := if z_in k 1 1000 then h_hrs d (zn32 k) else d
def h_passr (d : HD) (k : Int32) : Int32 := if z_in k 1 1000 then h_hour (h_hrs d (zn32 k)) else -2
def h_copy (d o : HD) : HD := h_spl (h_slo (h_sacc (h_sfr (h_sdrp (h_srel (h_sexe (h_sbud (h_sfrz (h_scnt (h_sws (h_swin (h_shour (h_sset d (va_cpy (h_set o) (h_set d) 0 0 8)) (h_hour o)) (h_win o)) (h_ws o)) (h_cnt o)) (h_frz o)) (va_cpy (h_bud o) (h_bud d) 0 0 8)) (va_cpy (h_exe o) (h_exe d) 0 0 8)) (va_cpy (h_rel o) (h_rel d) 0 0 8)) (va_cpy (h_drp o) (h_drp d) 0 0 8)) (va_cpy (h_fr o) (h_fr d) 0 0 8)) (va_cpy (h_acc o) (h_acc d) 0 0 72)) (l_copy (h_lo d) (h_lo o))) (p_copy (h_pl d) (h_pl o))
end
section
/-! Two objects of a kind side by side (copyFrom). -/
theorem zrep_app : ∀ (i1 : List Nat) (w1 : va_W) (i2 : List Nat) (w2 ws : va_W), i1.length = w1.length → zrep ws (i1 ++ i2) (w1 ++ w2) = zrep (zrep ws i1 w1) i2 w2
  | [], [], i2, w2, ws, _ => rfl
  | [], _ :: _, i2, w2, ws, h => by simp at h
  | _ :: _, [], i2, w2, ws, h => by simp at h
  | i :: i1, e :: w1, i2, w2, ws, h => zrep_app i1 w1 i2 w2 (ws.set i e) (by simpa using h)
theorem zget_2 {ws : va_W} {i1 i2 : List Nat} {w1 w2 : va_W} (h1 : i1.map (fun i => ws[i]?) = w1.map some) (h2 : i2.map (fun i => ws[i]?) = w2.map some) : (i1 ++ i2).map (fun i => ws[i]?) = (w1 ++ w2).map some := by
  rw [List.map_append, List.map_append, h1, h2]

def llW (g : zG) (q : Nat → Nat) (d : LD) (r : Nat → Nat) (u : LD) : va_W := lW g q d ++ lW g r u
theorem llW_g0 {g : zG} {q r : Nat → Nat} {d u : LD} : (llW g q d r u)[0]? = some (q 0, .inr (2, [.int (l_num d), .ref (q 1), .ref (q 2), .ref (q 3), .ref (q 4), .ref (q 5)])) := rfl
theorem llW_s0_0 {g : zG} {q r : Nat → Nat} {d u : LD} {v : Int32} : (llW g q d r u).set 0 (q 0, .inr (2, ([.int (l_num d), .ref (q 1), .ref (q 2), .ref (q 3), .ref (q 4), .ref (q 5)] : List Value).set 0 (.int v))) = llW g q (l_snum d v) r u := rfl
theorem llW_g1 {g : zG} {q r : Nat → Nat} {d u : LD} : (llW g q d r u)[1]? = some (q 1, .inl (g.2.1 0, 40, .inl (l_len d))) := rfl
theorem llW_s1 {g : zG} {q r : Nat → Nat} {d u : LD} {v : Nat → Int32} : (llW g q d r u).set 1 (q 1, .inl (g.2.1 0, 40, .inl v)) = llW g q (l_slen d v) r u := rfl
theorem llW_g2 {g : zG} {q r : Nat → Nat} {d u : LD} : (llW g q d r u)[2]? = some (q 2, .inl (g.2.1 0, 40, .inl (l_bor d))) := rfl
theorem llW_s2 {g : zG} {q r : Nat → Nat} {d u : LD} {v : Nat → Int32} : (llW g q d r u).set 2 (q 2, .inl (g.2.1 0, 40, .inl v)) = llW g q (l_sbor d v) r u := rfl
theorem llW_g3 {g : zG} {q r : Nat → Nat} {d u : LD} : (llW g q d r u)[3]? = some (q 3, .inl (g.2.1 0, 40, .inl (l_min d))) := rfl
theorem llW_s3 {g : zG} {q r : Nat → Nat} {d u : LD} {v : Nat → Int32} : (llW g q d r u).set 3 (q 3, .inl (g.2.1 0, 40, .inl v)) = llW g q (l_smin d v) r u := rfl
theorem llW_g4 {g : zG} {q r : Nat → Nat} {d u : LD} : (llW g q d r u)[4]? = some (q 4, .inl (g.2.1 0, 40, .inl (l_owe d))) := rfl
theorem llW_s4 {g : zG} {q r : Nat → Nat} {d u : LD} {v : Nat → Int32} : (llW g q d r u).set 4 (q 4, .inl (g.2.1 0, 40, .inl v)) = llW g q (l_sowe d v) r u := rfl
theorem llW_g5 {g : zG} {q r : Nat → Nat} {d u : LD} : (llW g q d r u)[5]? = some (q 5, .inl (g.2.1 0, 40, .inl (l_due d))) := rfl
theorem llW_s5 {g : zG} {q r : Nat → Nat} {d u : LD} {v : Nat → Int32} : (llW g q d r u).set 5 (q 5, .inl (g.2.1 0, 40, .inl v)) = llW g q (l_sdue d v) r u := rfl
theorem llW_g6 {g : zG} {q r : Nat → Nat} {d u : LD} : (llW g q d r u)[6]? = some (r 0, .inr (2, [.int (l_num u), .ref (r 1), .ref (r 2), .ref (r 3), .ref (r 4), .ref (r 5)])) := rfl
theorem llW_g7 {g : zG} {q r : Nat → Nat} {d u : LD} : (llW g q d r u)[7]? = some (r 1, .inl (g.2.1 0, 40, .inl (l_len u))) := rfl
theorem llW_g8 {g : zG} {q r : Nat → Nat} {d u : LD} : (llW g q d r u)[8]? = some (r 2, .inl (g.2.1 0, 40, .inl (l_bor u))) := rfl
theorem llW_g9 {g : zG} {q r : Nat → Nat} {d u : LD} : (llW g q d r u)[9]? = some (r 3, .inl (g.2.1 0, 40, .inl (l_min u))) := rfl
theorem llW_g10 {g : zG} {q r : Nat → Nat} {d u : LD} : (llW g q d r u)[10]? = some (r 4, .inl (g.2.1 0, 40, .inl (l_owe u))) := rfl
theorem llW_g11 {g : zG} {q r : Nat → Nat} {d u : LD} : (llW g q d r u)[11]? = some (r 5, .inl (g.2.1 0, 40, .inl (l_due u))) := rfl
theorem llW_f {g : zG} {q r : Nat → Nat} {d u : LD} {d2 : LD} : (llW g q d2 r u).map Prod.fst = (llW g q d r u).map Prod.fst := rfl
theorem llW_c {g : zG} {q r : Nat → Nat} {d u : LD} : ([0, 1, 2, 3, 4, 5, 6, 7, 8, 9, 10, 11] : List Nat).map (fun i => (llW g q d r u)[i]?) = (llW g q d r u).map some := zget_a rfl
theorem llW_r {g : zG} {q r : Nat → Nat} {d u : LD} {d2 : LD} : zrep (llW g q d r u) [0, 1, 2, 3, 4, 5, 6, 7, 8, 9, 10, 11] (llW g q d2 r u) = llW g q d2 r u := zrep_a rfl rfl
theorem llW_n : va_nd [0, 1, 2, 3, 4, 5, 6, 7, 8, 9, 10, 11] = true := by decide
def ppW (g : zG) (q : Nat → Nat) (d : PD) (r : Nat → Nat) (u : PD) : va_W := pW g q d ++ pW g r u
theorem ppW_g0 {g : zG} {q r : Nat → Nat} {d u : PD} : (ppW g q d r u)[0]? = some (q 0, .inr (4, [.int (p_num d), .ref (q 1), .ref (q 2), .ref (q 3), .ref (q 4), .ref (q 5), .ref (q 6), .int (p_wat d), .int (p_wf d)])) := rfl
theorem ppW_s0_0 {g : zG} {q r : Nat → Nat} {d u : PD} {v : Int32} : (ppW g q d r u).set 0 (q 0, .inr (4, ([.int (p_num d), .ref (q 1), .ref (q 2), .ref (q 3), .ref (q 4), .ref (q 5), .ref (q 6), .int (p_wat d), .int (p_wf d)] : List Value).set 0 (.int v))) = ppW g q (p_snum d v) r u := rfl
theorem ppW_s0_7 {g : zG} {q r : Nat → Nat} {d u : PD} {v : Int32} : (ppW g q d r u).set 0 (q 0, .inr (4, ([.int (p_num d), .ref (q 1), .ref (q 2), .ref (q 3), .ref (q 4), .ref (q 5), .ref (q 6), .int (p_wat d), .int (p_wf d)] : List Value).set 7 (.int v))) = ppW g q (p_swat d v) r u := rfl
theorem ppW_s0_8 {g : zG} {q r : Nat → Nat} {d u : PD} {v : Int32} : (ppW g q d r u).set 0 (q 0, .inr (4, ([.int (p_num d), .ref (q 1), .ref (q 2), .ref (q 3), .ref (q 4), .ref (q 5), .ref (q 6), .int (p_wat d), .int (p_wf d)] : List Value).set 8 (.int v))) = ppW g q (p_swf d v) r u := rfl
theorem ppW_g1 {g : zG} {q r : Nat → Nat} {d u : PD} : (ppW g q d r u)[1]? = some (q 1, .inl (g.2.1 0, 30, .inl (p_srv d))) := rfl
theorem ppW_s1 {g : zG} {q r : Nat → Nat} {d u : PD} {v : Nat → Int32} : (ppW g q d r u).set 1 (q 1, .inl (g.2.1 0, 30, .inl v)) = ppW g q (p_ssrv d v) r u := rfl
theorem ppW_g2 {g : zG} {q r : Nat → Nat} {d u : PD} : (ppW g q d r u)[2]? = some (q 2, .inl (g.2.1 0, 30, .inl (p_hr d))) := rfl
theorem ppW_s2 {g : zG} {q r : Nat → Nat} {d u : PD} {v : Nat → Int32} : (ppW g q d r u).set 2 (q 2, .inl (g.2.1 0, 30, .inl v)) = ppW g q (p_shr d v) r u := rfl
theorem ppW_g3 {g : zG} {q r : Nat → Nat} {d u : PD} : (ppW g q d r u)[3]? = some (q 3, .inl (g.2.1 0, 30, .inl (p_sz d))) := rfl
theorem ppW_s3 {g : zG} {q r : Nat → Nat} {d u : PD} {v : Nat → Int32} : (ppW g q d r u).set 3 (q 3, .inl (g.2.1 0, 30, .inl v)) = ppW g q (p_ssz d v) r u := rfl
theorem ppW_g4 {g : zG} {q r : Nat → Nat} {d u : PD} : (ppW g q d r u)[4]? = some (q 4, .inl (g.2.1 0, 30, .inl (p_pri d))) := rfl
theorem ppW_s4 {g : zG} {q r : Nat → Nat} {d u : PD} {v : Nat → Int32} : (ppW g q d r u).set 4 (q 4, .inl (g.2.1 0, 30, .inl v)) = ppW g q (p_spri d v) r u := rfl
theorem ppW_g5 {g : zG} {q r : Nat → Nat} {d u : PD} : (ppW g q d r u)[5]? = some (q 5, .inl (g.2.1 0, 30, .inl (p_fate d))) := rfl
theorem ppW_s5 {g : zG} {q r : Nat → Nat} {d u : PD} {v : Nat → Int32} : (ppW g q d r u).set 5 (q 5, .inl (g.2.1 0, 30, .inl v)) = ppW g q (p_sfate d v) r u := rfl
theorem ppW_g6 {g : zG} {q r : Nat → Nat} {d u : PD} : (ppW g q d r u)[6]? = some (q 6, .inl (g.2.1 0, 30, .inl (p_turn d))) := rfl
theorem ppW_s6 {g : zG} {q r : Nat → Nat} {d u : PD} {v : Nat → Int32} : (ppW g q d r u).set 6 (q 6, .inl (g.2.1 0, 30, .inl v)) = ppW g q (p_sturn d v) r u := rfl
theorem ppW_g7 {g : zG} {q r : Nat → Nat} {d u : PD} : (ppW g q d r u)[7]? = some (r 0, .inr (4, [.int (p_num u), .ref (r 1), .ref (r 2), .ref (r 3), .ref (r 4), .ref (r 5), .ref (r 6), .int (p_wat u), .int (p_wf u)])) := rfl
theorem ppW_g8 {g : zG} {q r : Nat → Nat} {d u : PD} : (ppW g q d r u)[8]? = some (r 1, .inl (g.2.1 0, 30, .inl (p_srv u))) := rfl
theorem ppW_g9 {g : zG} {q r : Nat → Nat} {d u : PD} : (ppW g q d r u)[9]? = some (r 2, .inl (g.2.1 0, 30, .inl (p_hr u))) := rfl
theorem ppW_g10 {g : zG} {q r : Nat → Nat} {d u : PD} : (ppW g q d r u)[10]? = some (r 3, .inl (g.2.1 0, 30, .inl (p_sz u))) := rfl
theorem ppW_g11 {g : zG} {q r : Nat → Nat} {d u : PD} : (ppW g q d r u)[11]? = some (r 4, .inl (g.2.1 0, 30, .inl (p_pri u))) := rfl
theorem ppW_g12 {g : zG} {q r : Nat → Nat} {d u : PD} : (ppW g q d r u)[12]? = some (r 5, .inl (g.2.1 0, 30, .inl (p_fate u))) := rfl
theorem ppW_g13 {g : zG} {q r : Nat → Nat} {d u : PD} : (ppW g q d r u)[13]? = some (r 6, .inl (g.2.1 0, 30, .inl (p_turn u))) := rfl
theorem ppW_f {g : zG} {q r : Nat → Nat} {d u : PD} {d2 : PD} : (ppW g q d2 r u).map Prod.fst = (ppW g q d r u).map Prod.fst := rfl
theorem ppW_c {g : zG} {q r : Nat → Nat} {d u : PD} : ([0, 1, 2, 3, 4, 5, 6, 7, 8, 9, 10, 11, 12, 13] : List Nat).map (fun i => (ppW g q d r u)[i]?) = (ppW g q d r u).map some := zget_a rfl
theorem ppW_r {g : zG} {q r : Nat → Nat} {d u : PD} {d2 : PD} : zrep (ppW g q d r u) [0, 1, 2, 3, 4, 5, 6, 7, 8, 9, 10, 11, 12, 13] (ppW g q d2 r u) = ppW g q d2 r u := zrep_a rfl rfl
theorem ppW_n : va_nd [0, 1, 2, 3, 4, 5, 6, 7, 8, 9, 10, 11, 12, 13] = true := by decide
def hhW (g : zG) (q : Nat → Nat) (d : HD) (r : Nat → Nat) (u : HD) : va_W := hW g q d ++ hW g r u
theorem hhW_g0 {g : zG} {q r : Nat → Nat} {d u : HD} : (hhW g q d r u)[0]? = some (q 0, .inr (1, [.ref (q 1), .int (h_hour d), .int (h_win d), .int (h_ws d), .int (h_cnt d), .int (h_frz d), .ref (q 2), .ref (q 3), .ref (q 4), .ref (q 5), .ref (q 6), .ref (q 7), .ref (q 8), .ref (q 14)])) := rfl
theorem hhW_s0_1 {g : zG} {q r : Nat → Nat} {d u : HD} {v : Int32} : (hhW g q d r u).set 0 (q 0, .inr (1, ([.ref (q 1), .int (h_hour d), .int (h_win d), .int (h_ws d), .int (h_cnt d), .int (h_frz d), .ref (q 2), .ref (q 3), .ref (q 4), .ref (q 5), .ref (q 6), .ref (q 7), .ref (q 8), .ref (q 14)] : List Value).set 1 (.int v))) = hhW g q (h_shour d v) r u := rfl
theorem hhW_s0_2 {g : zG} {q r : Nat → Nat} {d u : HD} {v : Int32} : (hhW g q d r u).set 0 (q 0, .inr (1, ([.ref (q 1), .int (h_hour d), .int (h_win d), .int (h_ws d), .int (h_cnt d), .int (h_frz d), .ref (q 2), .ref (q 3), .ref (q 4), .ref (q 5), .ref (q 6), .ref (q 7), .ref (q 8), .ref (q 14)] : List Value).set 2 (.int v))) = hhW g q (h_swin d v) r u := rfl
theorem hhW_s0_3 {g : zG} {q r : Nat → Nat} {d u : HD} {v : Int32} : (hhW g q d r u).set 0 (q 0, .inr (1, ([.ref (q 1), .int (h_hour d), .int (h_win d), .int (h_ws d), .int (h_cnt d), .int (h_frz d), .ref (q 2), .ref (q 3), .ref (q 4), .ref (q 5), .ref (q 6), .ref (q 7), .ref (q 8), .ref (q 14)] : List Value).set 3 (.int v))) = hhW g q (h_sws d v) r u := rfl
theorem hhW_s0_4 {g : zG} {q r : Nat → Nat} {d u : HD} {v : Int32} : (hhW g q d r u).set 0 (q 0, .inr (1, ([.ref (q 1), .int (h_hour d), .int (h_win d), .int (h_ws d), .int (h_cnt d), .int (h_frz d), .ref (q 2), .ref (q 3), .ref (q 4), .ref (q 5), .ref (q 6), .ref (q 7), .ref (q 8), .ref (q 14)] : List Value).set 4 (.int v))) = hhW g q (h_scnt d v) r u := rfl
theorem hhW_s0_5 {g : zG} {q r : Nat → Nat} {d u : HD} {v : Int32} : (hhW g q d r u).set 0 (q 0, .inr (1, ([.ref (q 1), .int (h_hour d), .int (h_win d), .int (h_ws d), .int (h_cnt d), .int (h_frz d), .ref (q 2), .ref (q 3), .ref (q 4), .ref (q 5), .ref (q 6), .ref (q 7), .ref (q 8), .ref (q 14)] : List Value).set 5 (.int v))) = hhW g q (h_sfrz d v) r u := rfl
theorem hhW_g1 {g : zG} {q r : Nat → Nat} {d u : HD} : (hhW g q d r u)[1]? = some (q 1, .inl (g.2.1 0, 8, .inl (h_set d))) := rfl
theorem hhW_s1 {g : zG} {q r : Nat → Nat} {d u : HD} {v : Nat → Int32} : (hhW g q d r u).set 1 (q 1, .inl (g.2.1 0, 8, .inl v)) = hhW g q (h_sset d v) r u := rfl
theorem hhW_g2 {g : zG} {q r : Nat → Nat} {d u : HD} : (hhW g q d r u)[2]? = some (q 2, .inl (g.2.1 0, 8, .inl (h_bud d))) := rfl
theorem hhW_s2 {g : zG} {q r : Nat → Nat} {d u : HD} {v : Nat → Int32} : (hhW g q d r u).set 2 (q 2, .inl (g.2.1 0, 8, .inl v)) = hhW g q (h_sbud d v) r u := rfl
theorem hhW_g3 {g : zG} {q r : Nat → Nat} {d u : HD} : (hhW g q d r u)[3]? = some (q 3, .inl (g.2.1 0, 8, .inl (h_exe d))) := rfl
theorem hhW_s3 {g : zG} {q r : Nat → Nat} {d u : HD} {v : Nat → Int32} : (hhW g q d r u).set 3 (q 3, .inl (g.2.1 0, 8, .inl v)) = hhW g q (h_sexe d v) r u := rfl
theorem hhW_g4 {g : zG} {q r : Nat → Nat} {d u : HD} : (hhW g q d r u)[4]? = some (q 4, .inl (g.2.1 0, 8, .inl (h_rel d))) := rfl
theorem hhW_s4 {g : zG} {q r : Nat → Nat} {d u : HD} {v : Nat → Int32} : (hhW g q d r u).set 4 (q 4, .inl (g.2.1 0, 8, .inl v)) = hhW g q (h_srel d v) r u := rfl
theorem hhW_g5 {g : zG} {q r : Nat → Nat} {d u : HD} : (hhW g q d r u)[5]? = some (q 5, .inl (g.2.1 0, 8, .inl (h_drp d))) := rfl
theorem hhW_s5 {g : zG} {q r : Nat → Nat} {d u : HD} {v : Nat → Int32} : (hhW g q d r u).set 5 (q 5, .inl (g.2.1 0, 8, .inl v)) = hhW g q (h_sdrp d v) r u := rfl
theorem hhW_g6 {g : zG} {q r : Nat → Nat} {d u : HD} : (hhW g q d r u)[6]? = some (q 6, .inl (g.2.1 0, 8, .inl (h_fr d))) := rfl
theorem hhW_s6 {g : zG} {q r : Nat → Nat} {d u : HD} {v : Nat → Int32} : (hhW g q d r u).set 6 (q 6, .inl (g.2.1 0, 8, .inl v)) = hhW g q (h_sfr d v) r u := rfl
theorem hhW_g7 {g : zG} {q r : Nat → Nat} {d u : HD} : (hhW g q d r u)[7]? = some (q 7, .inl (g.2.1 1, 72, .inr (.inl (h_acc d)))) := rfl
theorem hhW_s7 {g : zG} {q r : Nat → Nat} {d u : HD} {v : Nat → Int64} : (hhW g q d r u).set 7 (q 7, .inl (g.2.1 1, 72, .inr (.inl v))) = hhW g q (h_sacc d v) r u := rfl
theorem hhW_g8 {g : zG} {q r : Nat → Nat} {d u : HD} : (hhW g q d r u)[8]? = some (q 8, .inr (2, [.int (l_num (h_lo d)), .ref (q 9), .ref (q 10), .ref (q 11), .ref (q 12), .ref (q 13)])) := rfl
theorem hhW_g14 {g : zG} {q r : Nat → Nat} {d u : HD} : (hhW g q d r u)[14]? = some (q 14, .inr (4, [.int (p_num (h_pl d)), .ref (q 15), .ref (q 16), .ref (q 17), .ref (q 18), .ref (q 19), .ref (q 20), .int (p_wat (h_pl d)), .int (p_wf (h_pl d))])) := rfl
theorem hhW_g21 {g : zG} {q r : Nat → Nat} {d u : HD} : (hhW g q d r u)[21]? = some (r 0, .inr (1, [.ref (r 1), .int (h_hour u), .int (h_win u), .int (h_ws u), .int (h_cnt u), .int (h_frz u), .ref (r 2), .ref (r 3), .ref (r 4), .ref (r 5), .ref (r 6), .ref (r 7), .ref (r 8), .ref (r 14)])) := rfl
theorem hhW_g22 {g : zG} {q r : Nat → Nat} {d u : HD} : (hhW g q d r u)[22]? = some (r 1, .inl (g.2.1 0, 8, .inl (h_set u))) := rfl
theorem hhW_g23 {g : zG} {q r : Nat → Nat} {d u : HD} : (hhW g q d r u)[23]? = some (r 2, .inl (g.2.1 0, 8, .inl (h_bud u))) := rfl
theorem hhW_g24 {g : zG} {q r : Nat → Nat} {d u : HD} : (hhW g q d r u)[24]? = some (r 3, .inl (g.2.1 0, 8, .inl (h_exe u))) := rfl
theorem hhW_g25 {g : zG} {q r : Nat → Nat} {d u : HD} : (hhW g q d r u)[25]? = some (r 4, .inl (g.2.1 0, 8, .inl (h_rel u))) := rfl
theorem hhW_g26 {g : zG} {q r : Nat → Nat} {d u : HD} : (hhW g q d r u)[26]? = some (r 5, .inl (g.2.1 0, 8, .inl (h_drp u))) := rfl
theorem hhW_g27 {g : zG} {q r : Nat → Nat} {d u : HD} : (hhW g q d r u)[27]? = some (r 6, .inl (g.2.1 0, 8, .inl (h_fr u))) := rfl
theorem hhW_g28 {g : zG} {q r : Nat → Nat} {d u : HD} : (hhW g q d r u)[28]? = some (r 7, .inl (g.2.1 1, 72, .inr (.inl (h_acc u)))) := rfl
theorem hhW_g29 {g : zG} {q r : Nat → Nat} {d u : HD} : (hhW g q d r u)[29]? = some (r 8, .inr (2, [.int (l_num (h_lo u)), .ref (r 9), .ref (r 10), .ref (r 11), .ref (r 12), .ref (r 13)])) := rfl
theorem hhW_g35 {g : zG} {q r : Nat → Nat} {d u : HD} : (hhW g q d r u)[35]? = some (r 14, .inr (4, [.int (p_num (h_pl u)), .ref (r 15), .ref (r 16), .ref (r 17), .ref (r 18), .ref (r 19), .ref (r 20), .int (p_wat (h_pl u)), .int (p_wf (h_pl u))])) := rfl
theorem hhW_f {g : zG} {q r : Nat → Nat} {d u : HD} {d2 : HD} : (hhW g q d2 r u).map Prod.fst = (hhW g q d r u).map Prod.fst := rfl
theorem hhW_c {g : zG} {q r : Nat → Nat} {d u : HD} : ([0, 1, 2, 3, 4, 5, 6, 7, 8, 9, 10, 11, 12, 13, 14, 15, 16, 17, 18, 19, 20, 21, 22, 23, 24, 25, 26, 27, 28, 29, 30, 31, 32, 33, 34, 35, 36, 37, 38, 39, 40, 41] : List Nat).map (fun i => (hhW g q d r u)[i]?) = (hhW g q d r u).map some := zget_a rfl
theorem hhW_r {g : zG} {q r : Nat → Nat} {d u : HD} {d2 : HD} : zrep (hhW g q d r u) [0, 1, 2, 3, 4, 5, 6, 7, 8, 9, 10, 11, 12, 13, 14, 15, 16, 17, 18, 19, 20, 21, 22, 23, 24, 25, 26, 27, 28, 29, 30, 31, 32, 33, 34, 35, 36, 37, 38, 39, 40, 41] (hhW g q d2 r u) = hhW g q d2 r u := zrep_a rfl rfl
theorem hhW_n : va_nd [0, 1, 2, 3, 4, 5, 6, 7, 8, 9, 10, 11, 12, 13, 14, 15, 16, 17, 18, 19, 20, 21, 22, 23, 24, 25, 26, 27, 28, 29, 30, 31, 32, 33, 34, 35, 36, 37, 38, 39, 40, 41] = true := by decide
theorem ppW_c0 {g : zG} {q r : Nat → Nat} {d u : PD} : ([0, 1, 2, 3, 4, 5, 6] : List Nat).map (fun i => (ppW g q d r u)[i]?) = (pW g q d).map some := zget_m [] (pW g q d) (pW g r u) rfl rfl
theorem ppW_r0 {g : zG} {q r : Nat → Nat} {d u d2 : PD} : zrep (ppW g q d r u) [0, 1, 2, 3, 4, 5, 6] (pW g q d2) = ppW g q d2 r u := zrep_m [] (pW g q d) (pW g r u) rfl rfl rfl rfl
theorem hhW_c8 {g : zG} {q r : Nat → Nat} {d u : HD} : ([8, 9, 10, 11, 12, 13, 29, 30, 31, 32, 33, 34] : List Nat).map (fun i => (hhW g q d r u)[i]?) = (llW g (fun j => q (8 + j)) (h_lo d) (fun j => r (8 + j)) (h_lo u)).map some := zget_2 (i1 := [8, 9, 10, 11, 12, 13]) (i2 := [29, 30, 31, 32, 33, 34]) (zget_m (hW0 g q d) (lW g (fun j => q (8 + j)) (h_lo d)) (pW g (fun j => q (14 + j)) (h_pl d) ++ hW g r u) (by simp only [hhW, hW, List.append_assoc, List.append_nil]) rfl) (zget_m (hW g q d ++ hW0 g r u) (lW g (fun j => r (8 + j)) (h_lo u)) (pW g (fun j => r (14 + j)) (h_pl u)) (by simp only [hhW, hW, List.append_assoc, List.append_nil]) rfl)
theorem hhW_r8 {g : zG} {q r : Nat → Nat} {d u : HD} {v : LD} : zrep (hhW g q d r u) [8, 9, 10, 11, 12, 13, 29, 30, 31, 32, 33, 34] (llW g (fun j => q (8 + j)) v (fun j => r (8 + j)) (h_lo u)) = hhW g q (h_slo d v) r u := by
  have e1 : zrep (hhW g q d r u) [8, 9, 10, 11, 12, 13] (lW g (fun j => q (8 + j)) v) = hhW g q (h_slo d v) r u := zrep_m (hW0 g q d) (lW g (fun j => q (8 + j)) (h_lo d)) (pW g (fun j => q (14 + j)) (h_pl d) ++ hW g r u) (by simp only [hhW, hW, List.append_assoc, List.append_nil]) rfl rfl (by simp only [hhW, hW, List.append_assoc, List.append_nil] <;> rfl)
  have e2 : zrep (hhW g q (h_slo d v) r u) [29, 30, 31, 32, 33, 34] (lW g (fun j => r (8 + j)) (h_lo u)) = hhW g q (h_slo d v) r u := zrep_m (hW g q (h_slo d v) ++ hW0 g r u) (lW g (fun j => r (8 + j)) (h_lo u)) (pW g (fun j => r (14 + j)) (h_pl u)) (by simp only [hhW, hW, List.append_assoc, List.append_nil]) rfl rfl (by simp only [hhW, hW, List.append_assoc, List.append_nil])
  rw [← e2, ← e1]
  rw [e1, e2]
  show zrep (hhW g q d r u) ([8, 9, 10, 11, 12, 13] ++ [29, 30, 31, 32, 33, 34]) (lW g (fun j => q (8 + j)) v ++ lW g (fun j => r (8 + j)) (h_lo u)) = _
  rw [zrep_app [8, 9, 10, 11, 12, 13] (lW g (fun j => q (8 + j)) v) [29, 30, 31, 32, 33, 34] _ _ rfl, e1, e2]
theorem hhW_n8 : va_nd [8, 9, 10, 11, 12, 13, 29, 30, 31, 32, 33, 34] = true := by decide
theorem hhW_c14 {g : zG} {q r : Nat → Nat} {d u : HD} : ([14, 15, 16, 17, 18, 19, 20, 35, 36, 37, 38, 39, 40, 41] : List Nat).map (fun i => (hhW g q d r u)[i]?) = (ppW g (fun j => q (14 + j)) (h_pl d) (fun j => r (14 + j)) (h_pl u)).map some := zget_2 (i1 := [14, 15, 16, 17, 18, 19, 20]) (i2 := [35, 36, 37, 38, 39, 40, 41]) (zget_m (hW0 g q d ++ lW g (fun j => q (8 + j)) (h_lo d)) (pW g (fun j => q (14 + j)) (h_pl d)) (hW g r u) (by simp only [hhW, hW, List.append_assoc, List.append_nil]) rfl) (zget_m (hW g q d ++ (hW0 g r u ++ lW g (fun j => r (8 + j)) (h_lo u))) (pW g (fun j => r (14 + j)) (h_pl u)) [] (by simp only [hhW, hW, List.append_assoc, List.append_nil]) rfl)
theorem hhW_r14 {g : zG} {q r : Nat → Nat} {d u : HD} {v : PD} : zrep (hhW g q d r u) [14, 15, 16, 17, 18, 19, 20, 35, 36, 37, 38, 39, 40, 41] (ppW g (fun j => q (14 + j)) v (fun j => r (14 + j)) (h_pl u)) = hhW g q (h_spl d v) r u := by
  have e1 : zrep (hhW g q d r u) [14, 15, 16, 17, 18, 19, 20] (pW g (fun j => q (14 + j)) v) = hhW g q (h_spl d v) r u := zrep_m (hW0 g q d ++ lW g (fun j => q (8 + j)) (h_lo d)) (pW g (fun j => q (14 + j)) (h_pl d)) (hW g r u) (by simp only [hhW, hW, List.append_assoc, List.append_nil]) rfl rfl (by simp only [hhW, hW, List.append_assoc, List.append_nil] <;> rfl)
  have e2 : zrep (hhW g q (h_spl d v) r u) [35, 36, 37, 38, 39, 40, 41] (pW g (fun j => r (14 + j)) (h_pl u)) = hhW g q (h_spl d v) r u := zrep_m (hW g q (h_spl d v) ++ (hW0 g r u ++ lW g (fun j => r (8 + j)) (h_lo u))) (pW g (fun j => r (14 + j)) (h_pl u)) [] (by simp only [hhW, hW, List.append_assoc, List.append_nil]) rfl rfl (by simp only [hhW, hW, List.append_assoc, List.append_nil])
  rw [← e2, ← e1]
  rw [e1, e2]
  show zrep (hhW g q d r u) ([14, 15, 16, 17, 18, 19, 20] ++ [35, 36, 37, 38, 39, 40, 41]) (pW g (fun j => q (14 + j)) v ++ pW g (fun j => r (14 + j)) (h_pl u)) = _
  rw [zrep_app [14, 15, 16, 17, 18, 19, 20] (pW g (fun j => q (14 + j)) v) [35, 36, 37, 38, 39, 40, 41] _ _ rfl, e1, e2]
theorem hhW_n14 : va_nd [14, 15, 16, 17, 18, 19, 20, 35, 36, 37, 38, 39, 40, 41] = true := by decide
theorem hW_r8o {g : zG} {q : Nat → Nat} {d : HD} : zrep (hW g q d) [8, 9, 10, 11, 12, 13] (lW g (fun j => q (8 + j)) (h_lo d)) = hW g q d := hW_r8
theorem hW_r14o {g : zG} {q : Nat → Nat} {d : HD} : zrep (hW g q d) [14, 15, 16, 17, 18, 19, 20] (pW g (fun j => q (14 + j)) (h_pl d)) = hW g q d := hW_r14
end
section
/-! The history and the whole object. -/
theorem zat_m {ws : va_W} {i j : Nat} {c : Nat × va_E} (A B C : va_W) (h1 : ws = A ++ (B ++ C)) (h2 : i = A.length + j) (hB : B[j]? = some c) : ws[i]? = some c := by
  subst h1 h2
  rw [List.getElem?_append_right (Nat.le_add_right _ _), Nat.add_sub_cancel_left, List.getElem?_append_left (List.getElem?_eq_some_iff.mp hB).1]
  exact hB
theorem zset_m {ws w2 B2 : va_W} {i j : Nat} {c : Nat × va_E} (A B C : va_W) (h1 : ws = A ++ (B ++ C)) (h2 : i = A.length + j) (hj : j < B.length) (hB : B.set j c = B2) (h3 : A ++ (B2 ++ C) = w2) : ws.set i c = w2 := by
  subst h1 h2 hB h3
  rw [List.set_append_right _ _ (Nat.le_add_right _ _), Nat.add_sub_cancel_left, List.set_append_left _ _ hj]
def hsW (g : zG) (q : Nat → Nat) (s : Nat → HD) : Nat → Nat → va_W
  | _, 0 => []
  | a, n + 1 => hW g (fun j => q (21 * a + j)) (s a) ++ hsW g q s (a + 1) n
theorem hW_len {g : zG} {q : Nat → Nat} {d : HD} : (hW g q d).length = 21 := rfl
theorem hsW_len (g : zG) (q : Nat → Nat) (s : Nat → HD) : ∀ n a, (hsW g q s a n).length = 21 * n
  | 0, _ => rfl
  | n + 1, a => by
    show (hW g (fun j => q (21 * a + j)) (s a) ++ hsW g q s (a + 1) n).length = _
    rw [List.length_append, hsW_len g q s n (a + 1), hW_len]; omega
theorem hsW_split (g : zG) (q : Nat → Nat) (s : Nat → HD) (k : Nat) : ∀ i a, hsW g q s a (i + (1 + k)) = hsW g q s a i ++ (hW g (fun j => q (21 * (a + i) + j)) (s (a + i)) ++ hsW g q s (a + i + 1) k)
  | 0, a => by
    rw [Nat.zero_add, Nat.add_comm 1 k]; rfl
  | i + 1, a => by
    rw [show i + 1 + (1 + k) = (i + (1 + k)) + 1 by omega]
    show hW g (fun j => q (21 * a + j)) (s a) ++ hsW g q s (a + 1) (i + (1 + k)) = (hW g (fun j => q (21 * a + j)) (s a) ++ hsW g q s (a + 1) i) ++ _
    rw [hsW_split g q s k i (a + 1), List.append_assoc, show a + 1 + i = a + (i + 1) by omega]
theorem hsW_congr (g : zG) (q : Nat → Nat) {s t : Nat → HD} : ∀ n a, (∀ j, a ≤ j → j < a + n → s j = t j) → hsW g q s a n = hsW g q t a n
  | 0, _, _ => rfl
  | n + 1, a, h => by
    show hW g _ (s a) ++ hsW g q s (a + 1) n = hW g _ (t a) ++ hsW g q t (a + 1) n
    rw [h a (Nat.le_refl _) (by omega), hsW_congr g q n (a + 1) (fun j h1 h2 => h j (by omega) (by omega))]
theorem hsW_at (g : zG) (q : Nat → Nat) (s : Nat → HD) {i n : Nat} (hi : i < n) : hsW g q s 0 n = hsW g q s 0 i ++ (hW g (fun j => q (21 * i + j)) (s i) ++ hsW g q s (i + 1) (n - 1 - i)) := by
  have h := hsW_split g q s (n - 1 - i) i 0
  rw [show i + (1 + (n - 1 - i)) = n by omega, Nat.zero_add] at h
  exact h
theorem hsW_up (g : zG) (q : Nat → Nat) (s : Nat → HD) (d : HD) {i n : Nat} (hi : i < n) : hsW g q (vf_upd s i d) 0 n = hsW g q s 0 i ++ (hW g (fun j => q (21 * i + j)) d ++ hsW g q s (i + 1) (n - 1 - i)) := by
  rw [hsW_at g q _ hi]
  rw [hsW_congr g q (s := vf_upd s i d) (t := s) i 0 (fun j h1 h2 => if_neg (by omega)), hsW_congr g q (s := vf_upd s i d) (t := s) (n - 1 - i) (i + 1) (fun j h1 h2 => if_neg (by omega))]
  rw [show vf_upd s i d i = d from if_pos rfl]
theorem zfrom_app : ∀ (a b c : Nat), zfrom a (b + c) = zfrom a b ++ zfrom (a + b) c
  | a, 0, c => by rw [Nat.zero_add]; rfl
  | a, b + 1, c => by
    rw [show b + 1 + c = (b + c) + 1 by omega]
    show a :: zfrom (a + 1) (b + c) = a :: (zfrom (a + 1) b ++ zfrom (a + (b + 1)) c)
    rw [zfrom_app (a + 1) b c, show a + 1 + b = a + (b + 1) by omega]
theorem zfrom_mem : ∀ (n a x : Nat), x ∈ zfrom a n → a ≤ x ∧ x < a + n
  | 0, a, x, h => by simp [zfrom] at h
  | n + 1, a, x, h => by
    rcases List.mem_cons.mp h with h | h
    · omega
    · have := zfrom_mem n (a + 1) x h; omega
theorem zfrom_nd : ∀ (n a : Nat), va_nd (zfrom a n) = true
  | 0, _ => rfl
  | n + 1, a => by
    show (decide (a ∉ zfrom (a + 1) n) && va_nd (zfrom (a + 1) n)) = true
    rw [zfrom_nd n (a + 1), Bool.and_true, decide_eq_true_eq]
    intro h; have := zfrom_mem n (a + 1) a h; omega
theorem va_nd_app : ∀ (l m : List Nat), va_nd l = true → va_nd m = true → (∀ x, x ∈ l → x ∉ m) → va_nd (l ++ m) = true
  | [], m, _, h, _ => h
  | a :: l, m, h1, h2, h3 => by
    simp only [va_nd, Bool.and_eq_true, decide_eq_true_eq] at h1
    show (decide (a ∉ l ++ m) && va_nd (l ++ m)) = true
    rw [va_nd_app l m h1.2 h2 (fun x hx => h3 x (List.mem_cons_of_mem _ hx)), Bool.and_true, decide_eq_true_eq, List.mem_append]
    rintro (h | h)
    · exact h1.1 h
    · exact h3 a List.mem_cons_self h
theorem zfrom_nd2 {a b n m : Nat} (h : a + n ≤ b ∨ b + m ≤ a) : va_nd (zfrom a n ++ zfrom b m) = true :=
  va_nd_app _ _ (zfrom_nd _ _) (zfrom_nd _ _) (fun x h1 h2 => by have := zfrom_mem _ _ _ h1; have := zfrom_mem _ _ _ h2; omega)
def yW0 (g : zG) (q : Nat → Nat) (y : YD) : va_W := [(q 0, .inr (0, [.ref (q 1), .int (y_old y), .int (y_kept y)])), (q 1, .inl (g.2.1 4, 7, .inr (.inr (.inr (.inr (fun i => some (q (2 + 21 * i))))))))]
def yyW (g : zG) (q : Nat → Nat) (y : YD) (r : Nat → Nat) (d : HD) : va_W := yW0 g q y ++ (hsW g (fun j => q (2 + j)) (y_st y) 0 7 ++ hW g r d)
def eW0 (q : Nat → Nat) (e : ED) : va_W := [(q 0, .inr (5, [.ref (q 1), .ref (q 22), .ref (q 43), .ref (q 192), .ref (q 193), .ref (q 194), .int (e_rea e)]))]
def eWm (g : zG) (q : Nat → Nat) (e : ED) : va_W := [(q 192, .inl (g.2.1 4, 2, .inr (.inr (.inr (.inr (fun i => some (q (198 + 21 * i)))))))), (q 193, .inl (g.2.1 2, 2, .inl (e_sav e)))]
def eW (g : zG) (q : Nat → Nat) (e : ED) : va_W := eW0 q e ++ (hW g (fun j => q (1 + j)) (e_now e) ++ (hW g (fun j => q (22 + j)) (e_tri e) ++ (yW0 g (fun j => q (43 + j)) (e_his e) ++ (hsW g (fun j => q (43 + (2 + j))) (y_st (e_his e)) 0 7 ++ (eWm g q e ++ (aW g (fun j => q (194 + j)) (e_pad e) ++ hsW g (fun j => q (198 + j)) (e_sl e) 0 2))))))

theorem eW_b0 {g : zG} {q : Nat → Nat} {e : ED} : eW g q e = [] ++ ((eW0 q e) ++ (hW g (fun j => q (1 + j)) (e_now e) ++ (hW g (fun j => q (22 + j)) (e_tri e) ++ (yW0 g (fun j => q (43 + j)) (e_his e) ++ (hsW g (fun j => q (43 + (2 + j))) (y_st (e_his e)) 0 7 ++ (eWm g q e ++ (aW g (fun j => q (194 + j)) (e_pad e) ++ (hsW g (fun j => q (198 + j)) (e_sl e) 0 2)))))))) ∧ ([] : va_W).length = 0 := ⟨(by simp only [eW, List.append_assoc, List.append_nil, List.nil_append]), by first | rfl | (simp only [List.length_append, hW_len, hsW_len] <;> rfl)⟩
theorem eW_b1 {g : zG} {q : Nat → Nat} {e : ED} : eW g q e = (eW0 q e) ++ ((hW g (fun j => q (1 + j)) (e_now e)) ++ (hW g (fun j => q (22 + j)) (e_tri e) ++ (yW0 g (fun j => q (43 + j)) (e_his e) ++ (hsW g (fun j => q (43 + (2 + j))) (y_st (e_his e)) 0 7 ++ (eWm g q e ++ (aW g (fun j => q (194 + j)) (e_pad e) ++ (hsW g (fun j => q (198 + j)) (e_sl e) 0 2))))))) ∧ ((eW0 q e) : va_W).length = 1 := ⟨(by simp only [eW, List.append_assoc, List.append_nil, List.nil_append]), by first | rfl | (simp only [List.length_append, hW_len, hsW_len] <;> rfl)⟩
theorem eW_b2 {g : zG} {q : Nat → Nat} {e : ED} : eW g q e = (eW0 q e ++ (hW g (fun j => q (1 + j)) (e_now e))) ++ ((hW g (fun j => q (22 + j)) (e_tri e)) ++ (yW0 g (fun j => q (43 + j)) (e_his e) ++ (hsW g (fun j => q (43 + (2 + j))) (y_st (e_his e)) 0 7 ++ (eWm g q e ++ (aW g (fun j => q (194 + j)) (e_pad e) ++ (hsW g (fun j => q (198 + j)) (e_sl e) 0 2)))))) ∧ ((eW0 q e ++ (hW g (fun j => q (1 + j)) (e_now e))) : va_W).length = 22 := ⟨(by simp only [eW, List.append_assoc, List.append_nil, List.nil_append]), by first | rfl | (simp only [List.length_append, hW_len, hsW_len] <;> rfl)⟩
theorem eW_b3 {g : zG} {q : Nat → Nat} {e : ED} : eW g q e = (eW0 q e ++ (hW g (fun j => q (1 + j)) (e_now e) ++ (hW g (fun j => q (22 + j)) (e_tri e)))) ++ ((yW0 g (fun j => q (43 + j)) (e_his e)) ++ (hsW g (fun j => q (43 + (2 + j))) (y_st (e_his e)) 0 7 ++ (eWm g q e ++ (aW g (fun j => q (194 + j)) (e_pad e) ++ (hsW g (fun j => q (198 + j)) (e_sl e) 0 2))))) ∧ ((eW0 q e ++ (hW g (fun j => q (1 + j)) (e_now e) ++ (hW g (fun j => q (22 + j)) (e_tri e)))) : va_W).length = 43 := ⟨(by simp only [eW, List.append_assoc, List.append_nil, List.nil_append]), by first | rfl | (simp only [List.length_append, hW_len, hsW_len] <;> rfl)⟩
theorem eW_b4 {g : zG} {q : Nat → Nat} {e : ED} : eW g q e = (eW0 q e ++ (hW g (fun j => q (1 + j)) (e_now e) ++ (hW g (fun j => q (22 + j)) (e_tri e) ++ (yW0 g (fun j => q (43 + j)) (e_his e))))) ++ ((hsW g (fun j => q (43 + (2 + j))) (y_st (e_his e)) 0 7) ++ (eWm g q e ++ (aW g (fun j => q (194 + j)) (e_pad e) ++ (hsW g (fun j => q (198 + j)) (e_sl e) 0 2)))) ∧ ((eW0 q e ++ (hW g (fun j => q (1 + j)) (e_now e) ++ (hW g (fun j => q (22 + j)) (e_tri e) ++ (yW0 g (fun j => q (43 + j)) (e_his e))))) : va_W).length = 45 := ⟨(by simp only [eW, List.append_assoc, List.append_nil, List.nil_append]), by first | rfl | (simp only [List.length_append, hW_len, hsW_len] <;> rfl)⟩
theorem eW_b5 {g : zG} {q : Nat → Nat} {e : ED} : eW g q e = (eW0 q e ++ (hW g (fun j => q (1 + j)) (e_now e) ++ (hW g (fun j => q (22 + j)) (e_tri e) ++ (yW0 g (fun j => q (43 + j)) (e_his e) ++ (hsW g (fun j => q (43 + (2 + j))) (y_st (e_his e)) 0 7))))) ++ ((eWm g q e) ++ (aW g (fun j => q (194 + j)) (e_pad e) ++ (hsW g (fun j => q (198 + j)) (e_sl e) 0 2))) ∧ ((eW0 q e ++ (hW g (fun j => q (1 + j)) (e_now e) ++ (hW g (fun j => q (22 + j)) (e_tri e) ++ (yW0 g (fun j => q (43 + j)) (e_his e) ++ (hsW g (fun j => q (43 + (2 + j))) (y_st (e_his e)) 0 7))))) : va_W).length = 192 := ⟨(by simp only [eW, List.append_assoc, List.append_nil, List.nil_append]), by first | rfl | (simp only [List.length_append, hW_len, hsW_len] <;> rfl)⟩
theorem eW_b6 {g : zG} {q : Nat → Nat} {e : ED} : eW g q e = (eW0 q e ++ (hW g (fun j => q (1 + j)) (e_now e) ++ (hW g (fun j => q (22 + j)) (e_tri e) ++ (yW0 g (fun j => q (43 + j)) (e_his e) ++ (hsW g (fun j => q (43 + (2 + j))) (y_st (e_his e)) 0 7 ++ (eWm g q e)))))) ++ ((aW g (fun j => q (194 + j)) (e_pad e)) ++ (hsW g (fun j => q (198 + j)) (e_sl e) 0 2)) ∧ ((eW0 q e ++ (hW g (fun j => q (1 + j)) (e_now e) ++ (hW g (fun j => q (22 + j)) (e_tri e) ++ (yW0 g (fun j => q (43 + j)) (e_his e) ++ (hsW g (fun j => q (43 + (2 + j))) (y_st (e_his e)) 0 7 ++ (eWm g q e)))))) : va_W).length = 194 := ⟨(by simp only [eW, List.append_assoc, List.append_nil, List.nil_append]), by first | rfl | (simp only [List.length_append, hW_len, hsW_len] <;> rfl)⟩
theorem eW_b7 {g : zG} {q : Nat → Nat} {e : ED} : eW g q e = (eW0 q e ++ (hW g (fun j => q (1 + j)) (e_now e) ++ (hW g (fun j => q (22 + j)) (e_tri e) ++ (yW0 g (fun j => q (43 + j)) (e_his e) ++ (hsW g (fun j => q (43 + (2 + j))) (y_st (e_his e)) 0 7 ++ (eWm g q e ++ (aW g (fun j => q (194 + j)) (e_pad e)))))))) ++ ((hsW g (fun j => q (198 + j)) (e_sl e) 0 2) ++ []) ∧ ((eW0 q e ++ (hW g (fun j => q (1 + j)) (e_now e) ++ (hW g (fun j => q (22 + j)) (e_tri e) ++ (yW0 g (fun j => q (43 + j)) (e_his e) ++ (hsW g (fun j => q (43 + (2 + j))) (y_st (e_his e)) 0 7 ++ (eWm g q e ++ (aW g (fun j => q (194 + j)) (e_pad e)))))))) : va_W).length = 198 := ⟨(by simp only [eW, List.append_assoc, List.append_nil, List.nil_append]), by first | rfl | (simp only [List.length_append, hW_len, hsW_len] <;> rfl)⟩
theorem eW_g0 {g : zG} {q : Nat → Nat} {e : ED} : (eW g q e)[0]? = some (q 0, .inr (5, [.ref (q 1), .ref (q 22), .ref (q 43), .ref (q 192), .ref (q 193), .ref (q 194), .int (e_rea e)])) := rfl
theorem eW_s0_6 {g : zG} {q : Nat → Nat} {e : ED} {v : Int32} : (eW g q e).set 0 (q 0, .inr (5, ([.ref (q 1), .ref (q 22), .ref (q 43), .ref (q 192), .ref (q 193), .ref (q 194), .int (e_rea e)] : List Value).set 6 (.int v))) = eW g q (e_srea e v) := rfl
theorem eW_g1 {g : zG} {q : Nat → Nat} {e : ED} : (eW g q e)[1]? = some (q 1, .inr (1, [.ref (q 2), .int (h_hour (e_now e)), .int (h_win (e_now e)), .int (h_ws (e_now e)), .int (h_cnt (e_now e)), .int (h_frz (e_now e)), .ref (q 3), .ref (q 4), .ref (q 5), .ref (q 6), .ref (q 7), .ref (q 8), .ref (q 9), .ref (q 15)])) := zat_m (eW0 q e) (hW g (fun j => q (1 + j)) (e_now e)) (hW g (fun j => q (22 + j)) (e_tri e) ++ (yW0 g (fun j => q (43 + j)) (e_his e) ++ (hsW g (fun j => q (43 + (2 + j))) (y_st (e_his e)) 0 7 ++ (eWm g q e ++ (aW g (fun j => q (194 + j)) (e_pad e) ++ (hsW g (fun j => q (198 + j)) (e_sl e) 0 2)))))) eW_b1.1 (j := 0) (by rw [(eW_b1 (g := g)).2]) (show _ = _ from hW_g0)
theorem eW_s1_1 {g : zG} {q : Nat → Nat} {e : ED} {v : Int32} : (eW g q e).set 1 (q 1, .inr (1, ([.ref (q 2), .int (h_hour (e_now e)), .int (h_win (e_now e)), .int (h_ws (e_now e)), .int (h_cnt (e_now e)), .int (h_frz (e_now e)), .ref (q 3), .ref (q 4), .ref (q 5), .ref (q 6), .ref (q 7), .ref (q 8), .ref (q 9), .ref (q 15)] : List Value).set 1 (.int v))) = eW g q (e_snow e (h_shour (e_now e) v)) := zset_m (eW0 q e) (hW g (fun j => q (1 + j)) (e_now e)) (hW g (fun j => q (22 + j)) (e_tri e) ++ (yW0 g (fun j => q (43 + j)) (e_his e) ++ (hsW g (fun j => q (43 + (2 + j))) (y_st (e_his e)) 0 7 ++ (eWm g q e ++ (aW g (fun j => q (194 + j)) (e_pad e) ++ (hsW g (fun j => q (198 + j)) (e_sl e) 0 2)))))) eW_b1.1 (j := 0) (by rw [(eW_b1 (g := g)).2]) (Nat.le_of_ble_eq_true rfl) (show _ = _ from hW_s0_1) (by rw [eW_b1.1] <;> rfl)
theorem eW_s1_2 {g : zG} {q : Nat → Nat} {e : ED} {v : Int32} : (eW g q e).set 1 (q 1, .inr (1, ([.ref (q 2), .int (h_hour (e_now e)), .int (h_win (e_now e)), .int (h_ws (e_now e)), .int (h_cnt (e_now e)), .int (h_frz (e_now e)), .ref (q 3), .ref (q 4), .ref (q 5), .ref (q 6), .ref (q 7), .ref (q 8), .ref (q 9), .ref (q 15)] : List Value).set 2 (.int v))) = eW g q (e_snow e (h_swin (e_now e) v)) := zset_m (eW0 q e) (hW g (fun j => q (1 + j)) (e_now e)) (hW g (fun j => q (22 + j)) (e_tri e) ++ (yW0 g (fun j => q (43 + j)) (e_his e) ++ (hsW g (fun j => q (43 + (2 + j))) (y_st (e_his e)) 0 7 ++ (eWm g q e ++ (aW g (fun j => q (194 + j)) (e_pad e) ++ (hsW g (fun j => q (198 + j)) (e_sl e) 0 2)))))) eW_b1.1 (j := 0) (by rw [(eW_b1 (g := g)).2]) (Nat.le_of_ble_eq_true rfl) (show _ = _ from hW_s0_2) (by rw [eW_b1.1] <;> rfl)
theorem eW_s1_3 {g : zG} {q : Nat → Nat} {e : ED} {v : Int32} : (eW g q e).set 1 (q 1, .inr (1, ([.ref (q 2), .int (h_hour (e_now e)), .int (h_win (e_now e)), .int (h_ws (e_now e)), .int (h_cnt (e_now e)), .int (h_frz (e_now e)), .ref (q 3), .ref (q 4), .ref (q 5), .ref (q 6), .ref (q 7), .ref (q 8), .ref (q 9), .ref (q 15)] : List Value).set 3 (.int v))) = eW g q (e_snow e (h_sws (e_now e) v)) := zset_m (eW0 q e) (hW g (fun j => q (1 + j)) (e_now e)) (hW g (fun j => q (22 + j)) (e_tri e) ++ (yW0 g (fun j => q (43 + j)) (e_his e) ++ (hsW g (fun j => q (43 + (2 + j))) (y_st (e_his e)) 0 7 ++ (eWm g q e ++ (aW g (fun j => q (194 + j)) (e_pad e) ++ (hsW g (fun j => q (198 + j)) (e_sl e) 0 2)))))) eW_b1.1 (j := 0) (by rw [(eW_b1 (g := g)).2]) (Nat.le_of_ble_eq_true rfl) (show _ = _ from hW_s0_3) (by rw [eW_b1.1] <;> rfl)
theorem eW_s1_4 {g : zG} {q : Nat → Nat} {e : ED} {v : Int32} : (eW g q e).set 1 (q 1, .inr (1, ([.ref (q 2), .int (h_hour (e_now e)), .int (h_win (e_now e)), .int (h_ws (e_now e)), .int (h_cnt (e_now e)), .int (h_frz (e_now e)), .ref (q 3), .ref (q 4), .ref (q 5), .ref (q 6), .ref (q 7), .ref (q 8), .ref (q 9), .ref (q 15)] : List Value).set 4 (.int v))) = eW g q (e_snow e (h_scnt (e_now e) v)) := zset_m (eW0 q e) (hW g (fun j => q (1 + j)) (e_now e)) (hW g (fun j => q (22 + j)) (e_tri e) ++ (yW0 g (fun j => q (43 + j)) (e_his e) ++ (hsW g (fun j => q (43 + (2 + j))) (y_st (e_his e)) 0 7 ++ (eWm g q e ++ (aW g (fun j => q (194 + j)) (e_pad e) ++ (hsW g (fun j => q (198 + j)) (e_sl e) 0 2)))))) eW_b1.1 (j := 0) (by rw [(eW_b1 (g := g)).2]) (Nat.le_of_ble_eq_true rfl) (show _ = _ from hW_s0_4) (by rw [eW_b1.1] <;> rfl)
theorem eW_s1_5 {g : zG} {q : Nat → Nat} {e : ED} {v : Int32} : (eW g q e).set 1 (q 1, .inr (1, ([.ref (q 2), .int (h_hour (e_now e)), .int (h_win (e_now e)), .int (h_ws (e_now e)), .int (h_cnt (e_now e)), .int (h_frz (e_now e)), .ref (q 3), .ref (q 4), .ref (q 5), .ref (q 6), .ref (q 7), .ref (q 8), .ref (q 9), .ref (q 15)] : List Value).set 5 (.int v))) = eW g q (e_snow e (h_sfrz (e_now e) v)) := zset_m (eW0 q e) (hW g (fun j => q (1 + j)) (e_now e)) (hW g (fun j => q (22 + j)) (e_tri e) ++ (yW0 g (fun j => q (43 + j)) (e_his e) ++ (hsW g (fun j => q (43 + (2 + j))) (y_st (e_his e)) 0 7 ++ (eWm g q e ++ (aW g (fun j => q (194 + j)) (e_pad e) ++ (hsW g (fun j => q (198 + j)) (e_sl e) 0 2)))))) eW_b1.1 (j := 0) (by rw [(eW_b1 (g := g)).2]) (Nat.le_of_ble_eq_true rfl) (show _ = _ from hW_s0_5) (by rw [eW_b1.1] <;> rfl)
theorem eW_g2 {g : zG} {q : Nat → Nat} {e : ED} : (eW g q e)[2]? = some (q 2, .inl (g.2.1 0, 8, .inl (h_set (e_now e)))) := zat_m (eW0 q e) (hW g (fun j => q (1 + j)) (e_now e)) (hW g (fun j => q (22 + j)) (e_tri e) ++ (yW0 g (fun j => q (43 + j)) (e_his e) ++ (hsW g (fun j => q (43 + (2 + j))) (y_st (e_his e)) 0 7 ++ (eWm g q e ++ (aW g (fun j => q (194 + j)) (e_pad e) ++ (hsW g (fun j => q (198 + j)) (e_sl e) 0 2)))))) eW_b1.1 (j := 1) (by rw [(eW_b1 (g := g)).2]) (show _ = _ from hW_g1)
theorem eW_s2 {g : zG} {q : Nat → Nat} {e : ED} {v : Nat → Int32} : (eW g q e).set 2 (q 2, .inl (g.2.1 0, 8, .inl v)) = eW g q (e_snow e (h_sset (e_now e) v)) := zset_m (eW0 q e) (hW g (fun j => q (1 + j)) (e_now e)) (hW g (fun j => q (22 + j)) (e_tri e) ++ (yW0 g (fun j => q (43 + j)) (e_his e) ++ (hsW g (fun j => q (43 + (2 + j))) (y_st (e_his e)) 0 7 ++ (eWm g q e ++ (aW g (fun j => q (194 + j)) (e_pad e) ++ (hsW g (fun j => q (198 + j)) (e_sl e) 0 2)))))) eW_b1.1 (j := 1) (by rw [(eW_b1 (g := g)).2]) (Nat.le_of_ble_eq_true rfl) (show _ = _ from hW_s1) (by rw [eW_b1.1] <;> rfl)
theorem eW_g3 {g : zG} {q : Nat → Nat} {e : ED} : (eW g q e)[3]? = some (q 3, .inl (g.2.1 0, 8, .inl (h_bud (e_now e)))) := zat_m (eW0 q e) (hW g (fun j => q (1 + j)) (e_now e)) (hW g (fun j => q (22 + j)) (e_tri e) ++ (yW0 g (fun j => q (43 + j)) (e_his e) ++ (hsW g (fun j => q (43 + (2 + j))) (y_st (e_his e)) 0 7 ++ (eWm g q e ++ (aW g (fun j => q (194 + j)) (e_pad e) ++ (hsW g (fun j => q (198 + j)) (e_sl e) 0 2)))))) eW_b1.1 (j := 2) (by rw [(eW_b1 (g := g)).2]) (show _ = _ from hW_g2)
theorem eW_s3 {g : zG} {q : Nat → Nat} {e : ED} {v : Nat → Int32} : (eW g q e).set 3 (q 3, .inl (g.2.1 0, 8, .inl v)) = eW g q (e_snow e (h_sbud (e_now e) v)) := zset_m (eW0 q e) (hW g (fun j => q (1 + j)) (e_now e)) (hW g (fun j => q (22 + j)) (e_tri e) ++ (yW0 g (fun j => q (43 + j)) (e_his e) ++ (hsW g (fun j => q (43 + (2 + j))) (y_st (e_his e)) 0 7 ++ (eWm g q e ++ (aW g (fun j => q (194 + j)) (e_pad e) ++ (hsW g (fun j => q (198 + j)) (e_sl e) 0 2)))))) eW_b1.1 (j := 2) (by rw [(eW_b1 (g := g)).2]) (Nat.le_of_ble_eq_true rfl) (show _ = _ from hW_s2) (by rw [eW_b1.1] <;> rfl)
theorem eW_g4 {g : zG} {q : Nat → Nat} {e : ED} : (eW g q e)[4]? = some (q 4, .inl (g.2.1 0, 8, .inl (h_exe (e_now e)))) := zat_m (eW0 q e) (hW g (fun j => q (1 + j)) (e_now e)) (hW g (fun j => q (22 + j)) (e_tri e) ++ (yW0 g (fun j => q (43 + j)) (e_his e) ++ (hsW g (fun j => q (43 + (2 + j))) (y_st (e_his e)) 0 7 ++ (eWm g q e ++ (aW g (fun j => q (194 + j)) (e_pad e) ++ (hsW g (fun j => q (198 + j)) (e_sl e) 0 2)))))) eW_b1.1 (j := 3) (by rw [(eW_b1 (g := g)).2]) (show _ = _ from hW_g3)
theorem eW_s4 {g : zG} {q : Nat → Nat} {e : ED} {v : Nat → Int32} : (eW g q e).set 4 (q 4, .inl (g.2.1 0, 8, .inl v)) = eW g q (e_snow e (h_sexe (e_now e) v)) := zset_m (eW0 q e) (hW g (fun j => q (1 + j)) (e_now e)) (hW g (fun j => q (22 + j)) (e_tri e) ++ (yW0 g (fun j => q (43 + j)) (e_his e) ++ (hsW g (fun j => q (43 + (2 + j))) (y_st (e_his e)) 0 7 ++ (eWm g q e ++ (aW g (fun j => q (194 + j)) (e_pad e) ++ (hsW g (fun j => q (198 + j)) (e_sl e) 0 2)))))) eW_b1.1 (j := 3) (by rw [(eW_b1 (g := g)).2]) (Nat.le_of_ble_eq_true rfl) (show _ = _ from hW_s3) (by rw [eW_b1.1] <;> rfl)
theorem eW_g5 {g : zG} {q : Nat → Nat} {e : ED} : (eW g q e)[5]? = some (q 5, .inl (g.2.1 0, 8, .inl (h_rel (e_now e)))) := zat_m (eW0 q e) (hW g (fun j => q (1 + j)) (e_now e)) (hW g (fun j => q (22 + j)) (e_tri e) ++ (yW0 g (fun j => q (43 + j)) (e_his e) ++ (hsW g (fun j => q (43 + (2 + j))) (y_st (e_his e)) 0 7 ++ (eWm g q e ++ (aW g (fun j => q (194 + j)) (e_pad e) ++ (hsW g (fun j => q (198 + j)) (e_sl e) 0 2)))))) eW_b1.1 (j := 4) (by rw [(eW_b1 (g := g)).2]) (show _ = _ from hW_g4)
theorem eW_s5 {g : zG} {q : Nat → Nat} {e : ED} {v : Nat → Int32} : (eW g q e).set 5 (q 5, .inl (g.2.1 0, 8, .inl v)) = eW g q (e_snow e (h_srel (e_now e) v)) := zset_m (eW0 q e) (hW g (fun j => q (1 + j)) (e_now e)) (hW g (fun j => q (22 + j)) (e_tri e) ++ (yW0 g (fun j => q (43 + j)) (e_his e) ++ (hsW g (fun j => q (43 + (2 + j))) (y_st (e_his e)) 0 7 ++ (eWm g q e ++ (aW g (fun j => q (194 + j)) (e_pad e) ++ (hsW g (fun j => q (198 + j)) (e_sl e) 0 2)))))) eW_b1.1 (j := 4) (by rw [(eW_b1 (g := g)).2]) (Nat.le_of_ble_eq_true rfl) (show _ = _ from hW_s4) (by rw [eW_b1.1] <;> rfl)
theorem eW_g6 {g : zG} {q : Nat → Nat} {e : ED} : (eW g q e)[6]? = some (q 6, .inl (g.2.1 0, 8, .inl (h_drp (e_now e)))) := zat_m (eW0 q e) (hW g (fun j => q (1 + j)) (e_now e)) (hW g (fun j => q (22 + j)) (e_tri e) ++ (yW0 g (fun j => q (43 + j)) (e_his e) ++ (hsW g (fun j => q (43 + (2 + j))) (y_st (e_his e)) 0 7 ++ (eWm g q e ++ (aW g (fun j => q (194 + j)) (e_pad e) ++ (hsW g (fun j => q (198 + j)) (e_sl e) 0 2)))))) eW_b1.1 (j := 5) (by rw [(eW_b1 (g := g)).2]) (show _ = _ from hW_g5)
theorem eW_s6 {g : zG} {q : Nat → Nat} {e : ED} {v : Nat → Int32} : (eW g q e).set 6 (q 6, .inl (g.2.1 0, 8, .inl v)) = eW g q (e_snow e (h_sdrp (e_now e) v)) := zset_m (eW0 q e) (hW g (fun j => q (1 + j)) (e_now e)) (hW g (fun j => q (22 + j)) (e_tri e) ++ (yW0 g (fun j => q (43 + j)) (e_his e) ++ (hsW g (fun j => q (43 + (2 + j))) (y_st (e_his e)) 0 7 ++ (eWm g q e ++ (aW g (fun j => q (194 + j)) (e_pad e) ++ (hsW g (fun j => q (198 + j)) (e_sl e) 0 2)))))) eW_b1.1 (j := 5) (by rw [(eW_b1 (g := g)).2]) (Nat.le_of_ble_eq_true rfl) (show _ = _ from hW_s5) (by rw [eW_b1.1] <;> rfl)
theorem eW_g7 {g : zG} {q : Nat → Nat} {e : ED} : (eW g q e)[7]? = some (q 7, .inl (g.2.1 0, 8, .inl (h_fr (e_now e)))) := zat_m (eW0 q e) (hW g (fun j => q (1 + j)) (e_now e)) (hW g (fun j => q (22 + j)) (e_tri e) ++ (yW0 g (fun j => q (43 + j)) (e_his e) ++ (hsW g (fun j => q (43 + (2 + j))) (y_st (e_his e)) 0 7 ++ (eWm g q e ++ (aW g (fun j => q (194 + j)) (e_pad e) ++ (hsW g (fun j => q (198 + j)) (e_sl e) 0 2)))))) eW_b1.1 (j := 6) (by rw [(eW_b1 (g := g)).2]) (show _ = _ from hW_g6)
theorem eW_s7 {g : zG} {q : Nat → Nat} {e : ED} {v : Nat → Int32} : (eW g q e).set 7 (q 7, .inl (g.2.1 0, 8, .inl v)) = eW g q (e_snow e (h_sfr (e_now e) v)) := zset_m (eW0 q e) (hW g (fun j => q (1 + j)) (e_now e)) (hW g (fun j => q (22 + j)) (e_tri e) ++ (yW0 g (fun j => q (43 + j)) (e_his e) ++ (hsW g (fun j => q (43 + (2 + j))) (y_st (e_his e)) 0 7 ++ (eWm g q e ++ (aW g (fun j => q (194 + j)) (e_pad e) ++ (hsW g (fun j => q (198 + j)) (e_sl e) 0 2)))))) eW_b1.1 (j := 6) (by rw [(eW_b1 (g := g)).2]) (Nat.le_of_ble_eq_true rfl) (show _ = _ from hW_s6) (by rw [eW_b1.1] <;> rfl)
theorem eW_g8 {g : zG} {q : Nat → Nat} {e : ED} : (eW g q e)[8]? = some (q 8, .inl (g.2.1 1, 72, .inr (.inl (h_acc (e_now e))))) := zat_m (eW0 q e) (hW g (fun j => q (1 + j)) (e_now e)) (hW g (fun j => q (22 + j)) (e_tri e) ++ (yW0 g (fun j => q (43 + j)) (e_his e) ++ (hsW g (fun j => q (43 + (2 + j))) (y_st (e_his e)) 0 7 ++ (eWm g q e ++ (aW g (fun j => q (194 + j)) (e_pad e) ++ (hsW g (fun j => q (198 + j)) (e_sl e) 0 2)))))) eW_b1.1 (j := 7) (by rw [(eW_b1 (g := g)).2]) (show _ = _ from hW_g7)
theorem eW_s8 {g : zG} {q : Nat → Nat} {e : ED} {v : Nat → Int64} : (eW g q e).set 8 (q 8, .inl (g.2.1 1, 72, .inr (.inl v))) = eW g q (e_snow e (h_sacc (e_now e) v)) := zset_m (eW0 q e) (hW g (fun j => q (1 + j)) (e_now e)) (hW g (fun j => q (22 + j)) (e_tri e) ++ (yW0 g (fun j => q (43 + j)) (e_his e) ++ (hsW g (fun j => q (43 + (2 + j))) (y_st (e_his e)) 0 7 ++ (eWm g q e ++ (aW g (fun j => q (194 + j)) (e_pad e) ++ (hsW g (fun j => q (198 + j)) (e_sl e) 0 2)))))) eW_b1.1 (j := 7) (by rw [(eW_b1 (g := g)).2]) (Nat.le_of_ble_eq_true rfl) (show _ = _ from hW_s7) (by rw [eW_b1.1] <;> rfl)
theorem eW_g9 {g : zG} {q : Nat → Nat} {e : ED} : (eW g q e)[9]? = some (q 9, .inr (2, [.int (l_num (h_lo (e_now e))), .ref (q 10), .ref (q 11), .ref (q 12), .ref (q 13), .ref (q 14)])) := zat_m (eW0 q e) (hW g (fun j => q (1 + j)) (e_now e)) (hW g (fun j => q (22 + j)) (e_tri e) ++ (yW0 g (fun j => q (43 + j)) (e_his e) ++ (hsW g (fun j => q (43 + (2 + j))) (y_st (e_his e)) 0 7 ++ (eWm g q e ++ (aW g (fun j => q (194 + j)) (e_pad e) ++ (hsW g (fun j => q (198 + j)) (e_sl e) 0 2)))))) eW_b1.1 (j := 8) (by rw [(eW_b1 (g := g)).2]) (show _ = _ from hW_g8)
theorem eW_s9_0 {g : zG} {q : Nat → Nat} {e : ED} {v : Int32} : (eW g q e).set 9 (q 9, .inr (2, ([.int (l_num (h_lo (e_now e))), .ref (q 10), .ref (q 11), .ref (q 12), .ref (q 13), .ref (q 14)] : List Value).set 0 (.int v))) = eW g q (e_snow e (h_slo (e_now e) (l_snum (h_lo (e_now e)) v))) := zset_m (eW0 q e) (hW g (fun j => q (1 + j)) (e_now e)) (hW g (fun j => q (22 + j)) (e_tri e) ++ (yW0 g (fun j => q (43 + j)) (e_his e) ++ (hsW g (fun j => q (43 + (2 + j))) (y_st (e_his e)) 0 7 ++ (eWm g q e ++ (aW g (fun j => q (194 + j)) (e_pad e) ++ (hsW g (fun j => q (198 + j)) (e_sl e) 0 2)))))) eW_b1.1 (j := 8) (by rw [(eW_b1 (g := g)).2]) (Nat.le_of_ble_eq_true rfl) (show _ = _ from hW_s8_0) (by rw [eW_b1.1] <;> rfl)
theorem eW_g10 {g : zG} {q : Nat → Nat} {e : ED} : (eW g q e)[10]? = some (q 10, .inl (g.2.1 0, 40, .inl (l_len (h_lo (e_now e))))) := zat_m (eW0 q e) (hW g (fun j => q (1 + j)) (e_now e)) (hW g (fun j => q (22 + j)) (e_tri e) ++ (yW0 g (fun j => q (43 + j)) (e_his e) ++ (hsW g (fun j => q (43 + (2 + j))) (y_st (e_his e)) 0 7 ++ (eWm g q e ++ (aW g (fun j => q (194 + j)) (e_pad e) ++ (hsW g (fun j => q (198 + j)) (e_sl e) 0 2)))))) eW_b1.1 (j := 9) (by rw [(eW_b1 (g := g)).2]) (show _ = _ from hW_g9)
theorem eW_s10 {g : zG} {q : Nat → Nat} {e : ED} {v : Nat → Int32} : (eW g q e).set 10 (q 10, .inl (g.2.1 0, 40, .inl v)) = eW g q (e_snow e (h_slo (e_now e) (l_slen (h_lo (e_now e)) v))) := zset_m (eW0 q e) (hW g (fun j => q (1 + j)) (e_now e)) (hW g (fun j => q (22 + j)) (e_tri e) ++ (yW0 g (fun j => q (43 + j)) (e_his e) ++ (hsW g (fun j => q (43 + (2 + j))) (y_st (e_his e)) 0 7 ++ (eWm g q e ++ (aW g (fun j => q (194 + j)) (e_pad e) ++ (hsW g (fun j => q (198 + j)) (e_sl e) 0 2)))))) eW_b1.1 (j := 9) (by rw [(eW_b1 (g := g)).2]) (Nat.le_of_ble_eq_true rfl) (show _ = _ from hW_s9) (by rw [eW_b1.1] <;> rfl)
theorem eW_g11 {g : zG} {q : Nat → Nat} {e : ED} : (eW g q e)[11]? = some (q 11, .inl (g.2.1 0, 40, .inl (l_bor (h_lo (e_now e))))) := zat_m (eW0 q e) (hW g (fun j => q (1 + j)) (e_now e)) (hW g (fun j => q (22 + j)) (e_tri e) ++ (yW0 g (fun j => q (43 + j)) (e_his e) ++ (hsW g (fun j => q (43 + (2 + j))) (y_st (e_his e)) 0 7 ++ (eWm g q e ++ (aW g (fun j => q (194 + j)) (e_pad e) ++ (hsW g (fun j => q (198 + j)) (e_sl e) 0 2)))))) eW_b1.1 (j := 10) (by rw [(eW_b1 (g := g)).2]) (show _ = _ from hW_g10)
theorem eW_s11 {g : zG} {q : Nat → Nat} {e : ED} {v : Nat → Int32} : (eW g q e).set 11 (q 11, .inl (g.2.1 0, 40, .inl v)) = eW g q (e_snow e (h_slo (e_now e) (l_sbor (h_lo (e_now e)) v))) := zset_m (eW0 q e) (hW g (fun j => q (1 + j)) (e_now e)) (hW g (fun j => q (22 + j)) (e_tri e) ++ (yW0 g (fun j => q (43 + j)) (e_his e) ++ (hsW g (fun j => q (43 + (2 + j))) (y_st (e_his e)) 0 7 ++ (eWm g q e ++ (aW g (fun j => q (194 + j)) (e_pad e) ++ (hsW g (fun j => q (198 + j)) (e_sl e) 0 2)))))) eW_b1.1 (j := 10) (by rw [(eW_b1 (g := g)).2]) (Nat.le_of_ble_eq_true rfl) (show _ = _ from hW_s10) (by rw [eW_b1.1] <;> rfl)
theorem eW_g12 {g : zG} {q : Nat → Nat} {e : ED} : (eW g q e)[12]? = some (q 12, .inl (g.2.1 0, 40, .inl (l_min (h_lo (e_now e))))) := zat_m (eW0 q e) (hW g (fun j => q (1 + j)) (e_now e)) (hW g (fun j => q (22 + j)) (e_tri e) ++ (yW0 g (fun j => q (43 + j)) (e_his e) ++ (hsW g (fun j => q (43 + (2 + j))) (y_st (e_his e)) 0 7 ++ (eWm g q e ++ (aW g (fun j => q (194 + j)) (e_pad e) ++ (hsW g (fun j => q (198 + j)) (e_sl e) 0 2)))))) eW_b1.1 (j := 11) (by rw [(eW_b1 (g := g)).2]) (show _ = _ from hW_g11)
theorem eW_s12 {g : zG} {q : Nat → Nat} {e : ED} {v : Nat → Int32} : (eW g q e).set 12 (q 12, .inl (g.2.1 0, 40, .inl v)) = eW g q (e_snow e (h_slo (e_now e) (l_smin (h_lo (e_now e)) v))) := zset_m (eW0 q e) (hW g (fun j => q (1 + j)) (e_now e)) (hW g (fun j => q (22 + j)) (e_tri e) ++ (yW0 g (fun j => q (43 + j)) (e_his e) ++ (hsW g (fun j => q (43 + (2 + j))) (y_st (e_his e)) 0 7 ++ (eWm g q e ++ (aW g (fun j => q (194 + j)) (e_pad e) ++ (hsW g (fun j => q (198 + j)) (e_sl e) 0 2)))))) eW_b1.1 (j := 11) (by rw [(eW_b1 (g := g)).2]) (Nat.le_of_ble_eq_true rfl) (show _ = _ from hW_s11) (by rw [eW_b1.1] <;> rfl)
theorem eW_g13 {g : zG} {q : Nat → Nat} {e : ED} : (eW g q e)[13]? = some (q 13, .inl (g.2.1 0, 40, .inl (l_owe (h_lo (e_now e))))) := zat_m (eW0 q e) (hW g (fun j => q (1 + j)) (e_now e)) (hW g (fun j => q (22 + j)) (e_tri e) ++ (yW0 g (fun j => q (43 + j)) (e_his e) ++ (hsW g (fun j => q (43 + (2 + j))) (y_st (e_his e)) 0 7 ++ (eWm g q e ++ (aW g (fun j => q (194 + j)) (e_pad e) ++ (hsW g (fun j => q (198 + j)) (e_sl e) 0 2)))))) eW_b1.1 (j := 12) (by rw [(eW_b1 (g := g)).2]) (show _ = _ from hW_g12)
theorem eW_s13 {g : zG} {q : Nat → Nat} {e : ED} {v : Nat → Int32} : (eW g q e).set 13 (q 13, .inl (g.2.1 0, 40, .inl v)) = eW g q (e_snow e (h_slo (e_now e) (l_sowe (h_lo (e_now e)) v))) := zset_m (eW0 q e) (hW g (fun j => q (1 + j)) (e_now e)) (hW g (fun j => q (22 + j)) (e_tri e) ++ (yW0 g (fun j => q (43 + j)) (e_his e) ++ (hsW g (fun j => q (43 + (2 + j))) (y_st (e_his e)) 0 7 ++ (eWm g q e ++ (aW g (fun j => q (194 + j)) (e_pad e) ++ (hsW g (fun j => q (198 + j)) (e_sl e) 0 2)))))) eW_b1.1 (j := 12) (by rw [(eW_b1 (g := g)).2]) (Nat.le_of_ble_eq_true rfl) (show _ = _ from hW_s12) (by rw [eW_b1.1] <;> rfl)
theorem eW_g14 {g : zG} {q : Nat → Nat} {e : ED} : (eW g q e)[14]? = some (q 14, .inl (g.2.1 0, 40, .inl (l_due (h_lo (e_now e))))) := zat_m (eW0 q e) (hW g (fun j => q (1 + j)) (e_now e)) (hW g (fun j => q (22 + j)) (e_tri e) ++ (yW0 g (fun j => q (43 + j)) (e_his e) ++ (hsW g (fun j => q (43 + (2 + j))) (y_st (e_his e)) 0 7 ++ (eWm g q e ++ (aW g (fun j => q (194 + j)) (e_pad e) ++ (hsW g (fun j => q (198 + j)) (e_sl e) 0 2)))))) eW_b1.1 (j := 13) (by rw [(eW_b1 (g := g)).2]) (show _ = _ from hW_g13)
theorem eW_s14 {g : zG} {q : Nat → Nat} {e : ED} {v : Nat → Int32} : (eW g q e).set 14 (q 14, .inl (g.2.1 0, 40, .inl v)) = eW g q (e_snow e (h_slo (e_now e) (l_sdue (h_lo (e_now e)) v))) := zset_m (eW0 q e) (hW g (fun j => q (1 + j)) (e_now e)) (hW g (fun j => q (22 + j)) (e_tri e) ++ (yW0 g (fun j => q (43 + j)) (e_his e) ++ (hsW g (fun j => q (43 + (2 + j))) (y_st (e_his e)) 0 7 ++ (eWm g q e ++ (aW g (fun j => q (194 + j)) (e_pad e) ++ (hsW g (fun j => q (198 + j)) (e_sl e) 0 2)))))) eW_b1.1 (j := 13) (by rw [(eW_b1 (g := g)).2]) (Nat.le_of_ble_eq_true rfl) (show _ = _ from hW_s13) (by rw [eW_b1.1] <;> rfl)
theorem eW_g15 {g : zG} {q : Nat → Nat} {e : ED} : (eW g q e)[15]? = some (q 15, .inr (4, [.int (p_num (h_pl (e_now e))), .ref (q 16), .ref (q 17), .ref (q 18), .ref (q 19), .ref (q 20), .ref (q 21), .int (p_wat (h_pl (e_now e))), .int (p_wf (h_pl (e_now e)))])) := zat_m (eW0 q e) (hW g (fun j => q (1 + j)) (e_now e)) (hW g (fun j => q (22 + j)) (e_tri e) ++ (yW0 g (fun j => q (43 + j)) (e_his e) ++ (hsW g (fun j => q (43 + (2 + j))) (y_st (e_his e)) 0 7 ++ (eWm g q e ++ (aW g (fun j => q (194 + j)) (e_pad e) ++ (hsW g (fun j => q (198 + j)) (e_sl e) 0 2)))))) eW_b1.1 (j := 14) (by rw [(eW_b1 (g := g)).2]) (show _ = _ from hW_g14)
theorem eW_s15_0 {g : zG} {q : Nat → Nat} {e : ED} {v : Int32} : (eW g q e).set 15 (q 15, .inr (4, ([.int (p_num (h_pl (e_now e))), .ref (q 16), .ref (q 17), .ref (q 18), .ref (q 19), .ref (q 20), .ref (q 21), .int (p_wat (h_pl (e_now e))), .int (p_wf (h_pl (e_now e)))] : List Value).set 0 (.int v))) = eW g q (e_snow e (h_spl (e_now e) (p_snum (h_pl (e_now e)) v))) := zset_m (eW0 q e) (hW g (fun j => q (1 + j)) (e_now e)) (hW g (fun j => q (22 + j)) (e_tri e) ++ (yW0 g (fun j => q (43 + j)) (e_his e) ++ (hsW g (fun j => q (43 + (2 + j))) (y_st (e_his e)) 0 7 ++ (eWm g q e ++ (aW g (fun j => q (194 + j)) (e_pad e) ++ (hsW g (fun j => q (198 + j)) (e_sl e) 0 2)))))) eW_b1.1 (j := 14) (by rw [(eW_b1 (g := g)).2]) (Nat.le_of_ble_eq_true rfl) (show _ = _ from hW_s14_0) (by rw [eW_b1.1] <;> rfl)
theorem eW_s15_7 {g : zG} {q : Nat → Nat} {e : ED} {v : Int32} : (eW g q e).set 15 (q 15, .inr (4, ([.int (p_num (h_pl (e_now e))), .ref (q 16), .ref (q 17), .ref (q 18), .ref (q 19), .ref (q 20), .ref (q 21), .int (p_wat (h_pl (e_now e))), .int (p_wf (h_pl (e_now e)))] : List Value).set 7 (.int v))) = eW g q (e_snow e (h_spl (e_now e) (p_swat (h_pl (e_now e)) v))) := zset_m (eW0 q e) (hW g (fun j => q (1 + j)) (e_now e)) (hW g (fun j => q (22 + j)) (e_tri e) ++ (yW0 g (fun j => q (43 + j)) (e_his e) ++ (hsW g (fun j => q (43 + (2 + j))) (y_st (e_his e)) 0 7 ++ (eWm g q e ++ (aW g (fun j => q (194 + j)) (e_pad e) ++ (hsW g (fun j => q (198 + j)) (e_sl e) 0 2)))))) eW_b1.1 (j := 14) (by rw [(eW_b1 (g := g)).2]) (Nat.le_of_ble_eq_true rfl) (show _ = _ from hW_s14_7) (by rw [eW_b1.1] <;> rfl)
theorem eW_s15_8 {g : zG} {q : Nat → Nat} {e : ED} {v : Int32} : (eW g q e).set 15 (q 15, .inr (4, ([.int (p_num (h_pl (e_now e))), .ref (q 16), .ref (q 17), .ref (q 18), .ref (q 19), .ref (q 20), .ref (q 21), .int (p_wat (h_pl (e_now e))), .int (p_wf (h_pl (e_now e)))] : List Value).set 8 (.int v))) = eW g q (e_snow e (h_spl (e_now e) (p_swf (h_pl (e_now e)) v))) := zset_m (eW0 q e) (hW g (fun j => q (1 + j)) (e_now e)) (hW g (fun j => q (22 + j)) (e_tri e) ++ (yW0 g (fun j => q (43 + j)) (e_his e) ++ (hsW g (fun j => q (43 + (2 + j))) (y_st (e_his e)) 0 7 ++ (eWm g q e ++ (aW g (fun j => q (194 + j)) (e_pad e) ++ (hsW g (fun j => q (198 + j)) (e_sl e) 0 2)))))) eW_b1.1 (j := 14) (by rw [(eW_b1 (g := g)).2]) (Nat.le_of_ble_eq_true rfl) (show _ = _ from hW_s14_8) (by rw [eW_b1.1] <;> rfl)
theorem eW_g16 {g : zG} {q : Nat → Nat} {e : ED} : (eW g q e)[16]? = some (q 16, .inl (g.2.1 0, 30, .inl (p_srv (h_pl (e_now e))))) := zat_m (eW0 q e) (hW g (fun j => q (1 + j)) (e_now e)) (hW g (fun j => q (22 + j)) (e_tri e) ++ (yW0 g (fun j => q (43 + j)) (e_his e) ++ (hsW g (fun j => q (43 + (2 + j))) (y_st (e_his e)) 0 7 ++ (eWm g q e ++ (aW g (fun j => q (194 + j)) (e_pad e) ++ (hsW g (fun j => q (198 + j)) (e_sl e) 0 2)))))) eW_b1.1 (j := 15) (by rw [(eW_b1 (g := g)).2]) (show _ = _ from hW_g15)
theorem eW_s16 {g : zG} {q : Nat → Nat} {e : ED} {v : Nat → Int32} : (eW g q e).set 16 (q 16, .inl (g.2.1 0, 30, .inl v)) = eW g q (e_snow e (h_spl (e_now e) (p_ssrv (h_pl (e_now e)) v))) := zset_m (eW0 q e) (hW g (fun j => q (1 + j)) (e_now e)) (hW g (fun j => q (22 + j)) (e_tri e) ++ (yW0 g (fun j => q (43 + j)) (e_his e) ++ (hsW g (fun j => q (43 + (2 + j))) (y_st (e_his e)) 0 7 ++ (eWm g q e ++ (aW g (fun j => q (194 + j)) (e_pad e) ++ (hsW g (fun j => q (198 + j)) (e_sl e) 0 2)))))) eW_b1.1 (j := 15) (by rw [(eW_b1 (g := g)).2]) (Nat.le_of_ble_eq_true rfl) (show _ = _ from hW_s15) (by rw [eW_b1.1] <;> rfl)
theorem eW_g17 {g : zG} {q : Nat → Nat} {e : ED} : (eW g q e)[17]? = some (q 17, .inl (g.2.1 0, 30, .inl (p_hr (h_pl (e_now e))))) := zat_m (eW0 q e) (hW g (fun j => q (1 + j)) (e_now e)) (hW g (fun j => q (22 + j)) (e_tri e) ++ (yW0 g (fun j => q (43 + j)) (e_his e) ++ (hsW g (fun j => q (43 + (2 + j))) (y_st (e_his e)) 0 7 ++ (eWm g q e ++ (aW g (fun j => q (194 + j)) (e_pad e) ++ (hsW g (fun j => q (198 + j)) (e_sl e) 0 2)))))) eW_b1.1 (j := 16) (by rw [(eW_b1 (g := g)).2]) (show _ = _ from hW_g16)
theorem eW_s17 {g : zG} {q : Nat → Nat} {e : ED} {v : Nat → Int32} : (eW g q e).set 17 (q 17, .inl (g.2.1 0, 30, .inl v)) = eW g q (e_snow e (h_spl (e_now e) (p_shr (h_pl (e_now e)) v))) := zset_m (eW0 q e) (hW g (fun j => q (1 + j)) (e_now e)) (hW g (fun j => q (22 + j)) (e_tri e) ++ (yW0 g (fun j => q (43 + j)) (e_his e) ++ (hsW g (fun j => q (43 + (2 + j))) (y_st (e_his e)) 0 7 ++ (eWm g q e ++ (aW g (fun j => q (194 + j)) (e_pad e) ++ (hsW g (fun j => q (198 + j)) (e_sl e) 0 2)))))) eW_b1.1 (j := 16) (by rw [(eW_b1 (g := g)).2]) (Nat.le_of_ble_eq_true rfl) (show _ = _ from hW_s16) (by rw [eW_b1.1] <;> rfl)
theorem eW_g18 {g : zG} {q : Nat → Nat} {e : ED} : (eW g q e)[18]? = some (q 18, .inl (g.2.1 0, 30, .inl (p_sz (h_pl (e_now e))))) := zat_m (eW0 q e) (hW g (fun j => q (1 + j)) (e_now e)) (hW g (fun j => q (22 + j)) (e_tri e) ++ (yW0 g (fun j => q (43 + j)) (e_his e) ++ (hsW g (fun j => q (43 + (2 + j))) (y_st (e_his e)) 0 7 ++ (eWm g q e ++ (aW g (fun j => q (194 + j)) (e_pad e) ++ (hsW g (fun j => q (198 + j)) (e_sl e) 0 2)))))) eW_b1.1 (j := 17) (by rw [(eW_b1 (g := g)).2]) (show _ = _ from hW_g17)
theorem eW_s18 {g : zG} {q : Nat → Nat} {e : ED} {v : Nat → Int32} : (eW g q e).set 18 (q 18, .inl (g.2.1 0, 30, .inl v)) = eW g q (e_snow e (h_spl (e_now e) (p_ssz (h_pl (e_now e)) v))) := zset_m (eW0 q e) (hW g (fun j => q (1 + j)) (e_now e)) (hW g (fun j => q (22 + j)) (e_tri e) ++ (yW0 g (fun j => q (43 + j)) (e_his e) ++ (hsW g (fun j => q (43 + (2 + j))) (y_st (e_his e)) 0 7 ++ (eWm g q e ++ (aW g (fun j => q (194 + j)) (e_pad e) ++ (hsW g (fun j => q (198 + j)) (e_sl e) 0 2)))))) eW_b1.1 (j := 17) (by rw [(eW_b1 (g := g)).2]) (Nat.le_of_ble_eq_true rfl) (show _ = _ from hW_s17) (by rw [eW_b1.1] <;> rfl)
theorem eW_g19 {g : zG} {q : Nat → Nat} {e : ED} : (eW g q e)[19]? = some (q 19, .inl (g.2.1 0, 30, .inl (p_pri (h_pl (e_now e))))) := zat_m (eW0 q e) (hW g (fun j => q (1 + j)) (e_now e)) (hW g (fun j => q (22 + j)) (e_tri e) ++ (yW0 g (fun j => q (43 + j)) (e_his e) ++ (hsW g (fun j => q (43 + (2 + j))) (y_st (e_his e)) 0 7 ++ (eWm g q e ++ (aW g (fun j => q (194 + j)) (e_pad e) ++ (hsW g (fun j => q (198 + j)) (e_sl e) 0 2)))))) eW_b1.1 (j := 18) (by rw [(eW_b1 (g := g)).2]) (show _ = _ from hW_g18)
theorem eW_s19 {g : zG} {q : Nat → Nat} {e : ED} {v : Nat → Int32} : (eW g q e).set 19 (q 19, .inl (g.2.1 0, 30, .inl v)) = eW g q (e_snow e (h_spl (e_now e) (p_spri (h_pl (e_now e)) v))) := zset_m (eW0 q e) (hW g (fun j => q (1 + j)) (e_now e)) (hW g (fun j => q (22 + j)) (e_tri e) ++ (yW0 g (fun j => q (43 + j)) (e_his e) ++ (hsW g (fun j => q (43 + (2 + j))) (y_st (e_his e)) 0 7 ++ (eWm g q e ++ (aW g (fun j => q (194 + j)) (e_pad e) ++ (hsW g (fun j => q (198 + j)) (e_sl e) 0 2)))))) eW_b1.1 (j := 18) (by rw [(eW_b1 (g := g)).2]) (Nat.le_of_ble_eq_true rfl) (show _ = _ from hW_s18) (by rw [eW_b1.1] <;> rfl)
theorem eW_g20 {g : zG} {q : Nat → Nat} {e : ED} : (eW g q e)[20]? = some (q 20, .inl (g.2.1 0, 30, .inl (p_fate (h_pl (e_now e))))) := zat_m (eW0 q e) (hW g (fun j => q (1 + j)) (e_now e)) (hW g (fun j => q (22 + j)) (e_tri e) ++ (yW0 g (fun j => q (43 + j)) (e_his e) ++ (hsW g (fun j => q (43 + (2 + j))) (y_st (e_his e)) 0 7 ++ (eWm g q e ++ (aW g (fun j => q (194 + j)) (e_pad e) ++ (hsW g (fun j => q (198 + j)) (e_sl e) 0 2)))))) eW_b1.1 (j := 19) (by rw [(eW_b1 (g := g)).2]) (show _ = _ from hW_g19)
theorem eW_s20 {g : zG} {q : Nat → Nat} {e : ED} {v : Nat → Int32} : (eW g q e).set 20 (q 20, .inl (g.2.1 0, 30, .inl v)) = eW g q (e_snow e (h_spl (e_now e) (p_sfate (h_pl (e_now e)) v))) := zset_m (eW0 q e) (hW g (fun j => q (1 + j)) (e_now e)) (hW g (fun j => q (22 + j)) (e_tri e) ++ (yW0 g (fun j => q (43 + j)) (e_his e) ++ (hsW g (fun j => q (43 + (2 + j))) (y_st (e_his e)) 0 7 ++ (eWm g q e ++ (aW g (fun j => q (194 + j)) (e_pad e) ++ (hsW g (fun j => q (198 + j)) (e_sl e) 0 2)))))) eW_b1.1 (j := 19) (by rw [(eW_b1 (g := g)).2]) (Nat.le_of_ble_eq_true rfl) (show _ = _ from hW_s19) (by rw [eW_b1.1] <;> rfl)
theorem eW_g21 {g : zG} {q : Nat → Nat} {e : ED} : (eW g q e)[21]? = some (q 21, .inl (g.2.1 0, 30, .inl (p_turn (h_pl (e_now e))))) := zat_m (eW0 q e) (hW g (fun j => q (1 + j)) (e_now e)) (hW g (fun j => q (22 + j)) (e_tri e) ++ (yW0 g (fun j => q (43 + j)) (e_his e) ++ (hsW g (fun j => q (43 + (2 + j))) (y_st (e_his e)) 0 7 ++ (eWm g q e ++ (aW g (fun j => q (194 + j)) (e_pad e) ++ (hsW g (fun j => q (198 + j)) (e_sl e) 0 2)))))) eW_b1.1 (j := 20) (by rw [(eW_b1 (g := g)).2]) (show _ = _ from hW_g20)
theorem eW_s21 {g : zG} {q : Nat → Nat} {e : ED} {v : Nat → Int32} : (eW g q e).set 21 (q 21, .inl (g.2.1 0, 30, .inl v)) = eW g q (e_snow e (h_spl (e_now e) (p_sturn (h_pl (e_now e)) v))) := zset_m (eW0 q e) (hW g (fun j => q (1 + j)) (e_now e)) (hW g (fun j => q (22 + j)) (e_tri e) ++ (yW0 g (fun j => q (43 + j)) (e_his e) ++ (hsW g (fun j => q (43 + (2 + j))) (y_st (e_his e)) 0 7 ++ (eWm g q e ++ (aW g (fun j => q (194 + j)) (e_pad e) ++ (hsW g (fun j => q (198 + j)) (e_sl e) 0 2)))))) eW_b1.1 (j := 20) (by rw [(eW_b1 (g := g)).2]) (Nat.le_of_ble_eq_true rfl) (show _ = _ from hW_s20) (by rw [eW_b1.1] <;> rfl)
theorem eW_g22 {g : zG} {q : Nat → Nat} {e : ED} : (eW g q e)[22]? = some (q 22, .inr (1, [.ref (q 23), .int (h_hour (e_tri e)), .int (h_win (e_tri e)), .int (h_ws (e_tri e)), .int (h_cnt (e_tri e)), .int (h_frz (e_tri e)), .ref (q 24), .ref (q 25), .ref (q 26), .ref (q 27), .ref (q 28), .ref (q 29), .ref (q 30), .ref (q 36)])) := zat_m (eW0 q e ++ (hW g (fun j => q (1 + j)) (e_now e))) (hW g (fun j => q (22 + j)) (e_tri e)) (yW0 g (fun j => q (43 + j)) (e_his e) ++ (hsW g (fun j => q (43 + (2 + j))) (y_st (e_his e)) 0 7 ++ (eWm g q e ++ (aW g (fun j => q (194 + j)) (e_pad e) ++ (hsW g (fun j => q (198 + j)) (e_sl e) 0 2))))) eW_b2.1 (j := 0) (by rw [(eW_b2 (g := g)).2]) (show _ = _ from hW_g0)
theorem eW_s22_1 {g : zG} {q : Nat → Nat} {e : ED} {v : Int32} : (eW g q e).set 22 (q 22, .inr (1, ([.ref (q 23), .int (h_hour (e_tri e)), .int (h_win (e_tri e)), .int (h_ws (e_tri e)), .int (h_cnt (e_tri e)), .int (h_frz (e_tri e)), .ref (q 24), .ref (q 25), .ref (q 26), .ref (q 27), .ref (q 28), .ref (q 29), .ref (q 30), .ref (q 36)] : List Value).set 1 (.int v))) = eW g q (e_stri e (h_shour (e_tri e) v)) := zset_m (eW0 q e ++ (hW g (fun j => q (1 + j)) (e_now e))) (hW g (fun j => q (22 + j)) (e_tri e)) (yW0 g (fun j => q (43 + j)) (e_his e) ++ (hsW g (fun j => q (43 + (2 + j))) (y_st (e_his e)) 0 7 ++ (eWm g q e ++ (aW g (fun j => q (194 + j)) (e_pad e) ++ (hsW g (fun j => q (198 + j)) (e_sl e) 0 2))))) eW_b2.1 (j := 0) (by rw [(eW_b2 (g := g)).2]) (Nat.le_of_ble_eq_true rfl) (show _ = _ from hW_s0_1) (by rw [eW_b2.1] <;> rfl)
theorem eW_s22_2 {g : zG} {q : Nat → Nat} {e : ED} {v : Int32} : (eW g q e).set 22 (q 22, .inr (1, ([.ref (q 23), .int (h_hour (e_tri e)), .int (h_win (e_tri e)), .int (h_ws (e_tri e)), .int (h_cnt (e_tri e)), .int (h_frz (e_tri e)), .ref (q 24), .ref (q 25), .ref (q 26), .ref (q 27), .ref (q 28), .ref (q 29), .ref (q 30), .ref (q 36)] : List Value).set 2 (.int v))) = eW g q (e_stri e (h_swin (e_tri e) v)) := zset_m (eW0 q e ++ (hW g (fun j => q (1 + j)) (e_now e))) (hW g (fun j => q (22 + j)) (e_tri e)) (yW0 g (fun j => q (43 + j)) (e_his e) ++ (hsW g (fun j => q (43 + (2 + j))) (y_st (e_his e)) 0 7 ++ (eWm g q e ++ (aW g (fun j => q (194 + j)) (e_pad e) ++ (hsW g (fun j => q (198 + j)) (e_sl e) 0 2))))) eW_b2.1 (j := 0) (by rw [(eW_b2 (g := g)).2]) (Nat.le_of_ble_eq_true rfl) (show _ = _ from hW_s0_2) (by rw [eW_b2.1] <;> rfl)
theorem eW_s22_3 {g : zG} {q : Nat → Nat} {e : ED} {v : Int32} : (eW g q e).set 22 (q 22, .inr (1, ([.ref (q 23), .int (h_hour (e_tri e)), .int (h_win (e_tri e)), .int (h_ws (e_tri e)), .int (h_cnt (e_tri e)), .int (h_frz (e_tri e)), .ref (q 24), .ref (q 25), .ref (q 26), .ref (q 27), .ref (q 28), .ref (q 29), .ref (q 30), .ref (q 36)] : List Value).set 3 (.int v))) = eW g q (e_stri e (h_sws (e_tri e) v)) := zset_m (eW0 q e ++ (hW g (fun j => q (1 + j)) (e_now e))) (hW g (fun j => q (22 + j)) (e_tri e)) (yW0 g (fun j => q (43 + j)) (e_his e) ++ (hsW g (fun j => q (43 + (2 + j))) (y_st (e_his e)) 0 7 ++ (eWm g q e ++ (aW g (fun j => q (194 + j)) (e_pad e) ++ (hsW g (fun j => q (198 + j)) (e_sl e) 0 2))))) eW_b2.1 (j := 0) (by rw [(eW_b2 (g := g)).2]) (Nat.le_of_ble_eq_true rfl) (show _ = _ from hW_s0_3) (by rw [eW_b2.1] <;> rfl)
theorem eW_s22_4 {g : zG} {q : Nat → Nat} {e : ED} {v : Int32} : (eW g q e).set 22 (q 22, .inr (1, ([.ref (q 23), .int (h_hour (e_tri e)), .int (h_win (e_tri e)), .int (h_ws (e_tri e)), .int (h_cnt (e_tri e)), .int (h_frz (e_tri e)), .ref (q 24), .ref (q 25), .ref (q 26), .ref (q 27), .ref (q 28), .ref (q 29), .ref (q 30), .ref (q 36)] : List Value).set 4 (.int v))) = eW g q (e_stri e (h_scnt (e_tri e) v)) := zset_m (eW0 q e ++ (hW g (fun j => q (1 + j)) (e_now e))) (hW g (fun j => q (22 + j)) (e_tri e)) (yW0 g (fun j => q (43 + j)) (e_his e) ++ (hsW g (fun j => q (43 + (2 + j))) (y_st (e_his e)) 0 7 ++ (eWm g q e ++ (aW g (fun j => q (194 + j)) (e_pad e) ++ (hsW g (fun j => q (198 + j)) (e_sl e) 0 2))))) eW_b2.1 (j := 0) (by rw [(eW_b2 (g := g)).2]) (Nat.le_of_ble_eq_true rfl) (show _ = _ from hW_s0_4) (by rw [eW_b2.1] <;> rfl)
theorem eW_s22_5 {g : zG} {q : Nat → Nat} {e : ED} {v : Int32} : (eW g q e).set 22 (q 22, .inr (1, ([.ref (q 23), .int (h_hour (e_tri e)), .int (h_win (e_tri e)), .int (h_ws (e_tri e)), .int (h_cnt (e_tri e)), .int (h_frz (e_tri e)), .ref (q 24), .ref (q 25), .ref (q 26), .ref (q 27), .ref (q 28), .ref (q 29), .ref (q 30), .ref (q 36)] : List Value).set 5 (.int v))) = eW g q (e_stri e (h_sfrz (e_tri e) v)) := zset_m (eW0 q e ++ (hW g (fun j => q (1 + j)) (e_now e))) (hW g (fun j => q (22 + j)) (e_tri e)) (yW0 g (fun j => q (43 + j)) (e_his e) ++ (hsW g (fun j => q (43 + (2 + j))) (y_st (e_his e)) 0 7 ++ (eWm g q e ++ (aW g (fun j => q (194 + j)) (e_pad e) ++ (hsW g (fun j => q (198 + j)) (e_sl e) 0 2))))) eW_b2.1 (j := 0) (by rw [(eW_b2 (g := g)).2]) (Nat.le_of_ble_eq_true rfl) (show _ = _ from hW_s0_5) (by rw [eW_b2.1] <;> rfl)
theorem eW_g23 {g : zG} {q : Nat → Nat} {e : ED} : (eW g q e)[23]? = some (q 23, .inl (g.2.1 0, 8, .inl (h_set (e_tri e)))) := zat_m (eW0 q e ++ (hW g (fun j => q (1 + j)) (e_now e))) (hW g (fun j => q (22 + j)) (e_tri e)) (yW0 g (fun j => q (43 + j)) (e_his e) ++ (hsW g (fun j => q (43 + (2 + j))) (y_st (e_his e)) 0 7 ++ (eWm g q e ++ (aW g (fun j => q (194 + j)) (e_pad e) ++ (hsW g (fun j => q (198 + j)) (e_sl e) 0 2))))) eW_b2.1 (j := 1) (by rw [(eW_b2 (g := g)).2]) (show _ = _ from hW_g1)
theorem eW_s23 {g : zG} {q : Nat → Nat} {e : ED} {v : Nat → Int32} : (eW g q e).set 23 (q 23, .inl (g.2.1 0, 8, .inl v)) = eW g q (e_stri e (h_sset (e_tri e) v)) := zset_m (eW0 q e ++ (hW g (fun j => q (1 + j)) (e_now e))) (hW g (fun j => q (22 + j)) (e_tri e)) (yW0 g (fun j => q (43 + j)) (e_his e) ++ (hsW g (fun j => q (43 + (2 + j))) (y_st (e_his e)) 0 7 ++ (eWm g q e ++ (aW g (fun j => q (194 + j)) (e_pad e) ++ (hsW g (fun j => q (198 + j)) (e_sl e) 0 2))))) eW_b2.1 (j := 1) (by rw [(eW_b2 (g := g)).2]) (Nat.le_of_ble_eq_true rfl) (show _ = _ from hW_s1) (by rw [eW_b2.1] <;> rfl)
theorem eW_g24 {g : zG} {q : Nat → Nat} {e : ED} : (eW g q e)[24]? = some (q 24, .inl (g.2.1 0, 8, .inl (h_bud (e_tri e)))) := zat_m (eW0 q e ++ (hW g (fun j => q (1 + j)) (e_now e))) (hW g (fun j => q (22 + j)) (e_tri e)) (yW0 g (fun j => q (43 + j)) (e_his e) ++ (hsW g (fun j => q (43 + (2 + j))) (y_st (e_his e)) 0 7 ++ (eWm g q e ++ (aW g (fun j => q (194 + j)) (e_pad e) ++ (hsW g (fun j => q (198 + j)) (e_sl e) 0 2))))) eW_b2.1 (j := 2) (by rw [(eW_b2 (g := g)).2]) (show _ = _ from hW_g2)
theorem eW_s24 {g : zG} {q : Nat → Nat} {e : ED} {v : Nat → Int32} : (eW g q e).set 24 (q 24, .inl (g.2.1 0, 8, .inl v)) = eW g q (e_stri e (h_sbud (e_tri e) v)) := zset_m (eW0 q e ++ (hW g (fun j => q (1 + j)) (e_now e))) (hW g (fun j => q (22 + j)) (e_tri e)) (yW0 g (fun j => q (43 + j)) (e_his e) ++ (hsW g (fun j => q (43 + (2 + j))) (y_st (e_his e)) 0 7 ++ (eWm g q e ++ (aW g (fun j => q (194 + j)) (e_pad e) ++ (hsW g (fun j => q (198 + j)) (e_sl e) 0 2))))) eW_b2.1 (j := 2) (by rw [(eW_b2 (g := g)).2]) (Nat.le_of_ble_eq_true rfl) (show _ = _ from hW_s2) (by rw [eW_b2.1] <;> rfl)
theorem eW_g25 {g : zG} {q : Nat → Nat} {e : ED} : (eW g q e)[25]? = some (q 25, .inl (g.2.1 0, 8, .inl (h_exe (e_tri e)))) := zat_m (eW0 q e ++ (hW g (fun j => q (1 + j)) (e_now e))) (hW g (fun j => q (22 + j)) (e_tri e)) (yW0 g (fun j => q (43 + j)) (e_his e) ++ (hsW g (fun j => q (43 + (2 + j))) (y_st (e_his e)) 0 7 ++ (eWm g q e ++ (aW g (fun j => q (194 + j)) (e_pad e) ++ (hsW g (fun j => q (198 + j)) (e_sl e) 0 2))))) eW_b2.1 (j := 3) (by rw [(eW_b2 (g := g)).2]) (show _ = _ from hW_g3)
theorem eW_s25 {g : zG} {q : Nat → Nat} {e : ED} {v : Nat → Int32} : (eW g q e).set 25 (q 25, .inl (g.2.1 0, 8, .inl v)) = eW g q (e_stri e (h_sexe (e_tri e) v)) := zset_m (eW0 q e ++ (hW g (fun j => q (1 + j)) (e_now e))) (hW g (fun j => q (22 + j)) (e_tri e)) (yW0 g (fun j => q (43 + j)) (e_his e) ++ (hsW g (fun j => q (43 + (2 + j))) (y_st (e_his e)) 0 7 ++ (eWm g q e ++ (aW g (fun j => q (194 + j)) (e_pad e) ++ (hsW g (fun j => q (198 + j)) (e_sl e) 0 2))))) eW_b2.1 (j := 3) (by rw [(eW_b2 (g := g)).2]) (Nat.le_of_ble_eq_true rfl) (show _ = _ from hW_s3) (by rw [eW_b2.1] <;> rfl)
theorem eW_g26 {g : zG} {q : Nat → Nat} {e : ED} : (eW g q e)[26]? = some (q 26, .inl (g.2.1 0, 8, .inl (h_rel (e_tri e)))) := zat_m (eW0 q e ++ (hW g (fun j => q (1 + j)) (e_now e))) (hW g (fun j => q (22 + j)) (e_tri e)) (yW0 g (fun j => q (43 + j)) (e_his e) ++ (hsW g (fun j => q (43 + (2 + j))) (y_st (e_his e)) 0 7 ++ (eWm g q e ++ (aW g (fun j => q (194 + j)) (e_pad e) ++ (hsW g (fun j => q (198 + j)) (e_sl e) 0 2))))) eW_b2.1 (j := 4) (by rw [(eW_b2 (g := g)).2]) (show _ = _ from hW_g4)
theorem eW_s26 {g : zG} {q : Nat → Nat} {e : ED} {v : Nat → Int32} : (eW g q e).set 26 (q 26, .inl (g.2.1 0, 8, .inl v)) = eW g q (e_stri e (h_srel (e_tri e) v)) := zset_m (eW0 q e ++ (hW g (fun j => q (1 + j)) (e_now e))) (hW g (fun j => q (22 + j)) (e_tri e)) (yW0 g (fun j => q (43 + j)) (e_his e) ++ (hsW g (fun j => q (43 + (2 + j))) (y_st (e_his e)) 0 7 ++ (eWm g q e ++ (aW g (fun j => q (194 + j)) (e_pad e) ++ (hsW g (fun j => q (198 + j)) (e_sl e) 0 2))))) eW_b2.1 (j := 4) (by rw [(eW_b2 (g := g)).2]) (Nat.le_of_ble_eq_true rfl) (show _ = _ from hW_s4) (by rw [eW_b2.1] <;> rfl)
theorem eW_g27 {g : zG} {q : Nat → Nat} {e : ED} : (eW g q e)[27]? = some (q 27, .inl (g.2.1 0, 8, .inl (h_drp (e_tri e)))) := zat_m (eW0 q e ++ (hW g (fun j => q (1 + j)) (e_now e))) (hW g (fun j => q (22 + j)) (e_tri e)) (yW0 g (fun j => q (43 + j)) (e_his e) ++ (hsW g (fun j => q (43 + (2 + j))) (y_st (e_his e)) 0 7 ++ (eWm g q e ++ (aW g (fun j => q (194 + j)) (e_pad e) ++ (hsW g (fun j => q (198 + j)) (e_sl e) 0 2))))) eW_b2.1 (j := 5) (by rw [(eW_b2 (g := g)).2]) (show _ = _ from hW_g5)
theorem eW_s27 {g : zG} {q : Nat → Nat} {e : ED} {v : Nat → Int32} : (eW g q e).set 27 (q 27, .inl (g.2.1 0, 8, .inl v)) = eW g q (e_stri e (h_sdrp (e_tri e) v)) := zset_m (eW0 q e ++ (hW g (fun j => q (1 + j)) (e_now e))) (hW g (fun j => q (22 + j)) (e_tri e)) (yW0 g (fun j => q (43 + j)) (e_his e) ++ (hsW g (fun j => q (43 + (2 + j))) (y_st (e_his e)) 0 7 ++ (eWm g q e ++ (aW g (fun j => q (194 + j)) (e_pad e) ++ (hsW g (fun j => q (198 + j)) (e_sl e) 0 2))))) eW_b2.1 (j := 5) (by rw [(eW_b2 (g := g)).2]) (Nat.le_of_ble_eq_true rfl) (show _ = _ from hW_s5) (by rw [eW_b2.1] <;> rfl)
theorem eW_g28 {g : zG} {q : Nat → Nat} {e : ED} : (eW g q e)[28]? = some (q 28, .inl (g.2.1 0, 8, .inl (h_fr (e_tri e)))) := zat_m (eW0 q e ++ (hW g (fun j => q (1 + j)) (e_now e))) (hW g (fun j => q (22 + j)) (e_tri e)) (yW0 g (fun j => q (43 + j)) (e_his e) ++ (hsW g (fun j => q (43 + (2 + j))) (y_st (e_his e)) 0 7 ++ (eWm g q e ++ (aW g (fun j => q (194 + j)) (e_pad e) ++ (hsW g (fun j => q (198 + j)) (e_sl e) 0 2))))) eW_b2.1 (j := 6) (by rw [(eW_b2 (g := g)).2]) (show _ = _ from hW_g6)
theorem eW_s28 {g : zG} {q : Nat → Nat} {e : ED} {v : Nat → Int32} : (eW g q e).set 28 (q 28, .inl (g.2.1 0, 8, .inl v)) = eW g q (e_stri e (h_sfr (e_tri e) v)) := zset_m (eW0 q e ++ (hW g (fun j => q (1 + j)) (e_now e))) (hW g (fun j => q (22 + j)) (e_tri e)) (yW0 g (fun j => q (43 + j)) (e_his e) ++ (hsW g (fun j => q (43 + (2 + j))) (y_st (e_his e)) 0 7 ++ (eWm g q e ++ (aW g (fun j => q (194 + j)) (e_pad e) ++ (hsW g (fun j => q (198 + j)) (e_sl e) 0 2))))) eW_b2.1 (j := 6) (by rw [(eW_b2 (g := g)).2]) (Nat.le_of_ble_eq_true rfl) (show _ = _ from hW_s6) (by rw [eW_b2.1] <;> rfl)
theorem eW_g29 {g : zG} {q : Nat → Nat} {e : ED} : (eW g q e)[29]? = some (q 29, .inl (g.2.1 1, 72, .inr (.inl (h_acc (e_tri e))))) := zat_m (eW0 q e ++ (hW g (fun j => q (1 + j)) (e_now e))) (hW g (fun j => q (22 + j)) (e_tri e)) (yW0 g (fun j => q (43 + j)) (e_his e) ++ (hsW g (fun j => q (43 + (2 + j))) (y_st (e_his e)) 0 7 ++ (eWm g q e ++ (aW g (fun j => q (194 + j)) (e_pad e) ++ (hsW g (fun j => q (198 + j)) (e_sl e) 0 2))))) eW_b2.1 (j := 7) (by rw [(eW_b2 (g := g)).2]) (show _ = _ from hW_g7)
theorem eW_s29 {g : zG} {q : Nat → Nat} {e : ED} {v : Nat → Int64} : (eW g q e).set 29 (q 29, .inl (g.2.1 1, 72, .inr (.inl v))) = eW g q (e_stri e (h_sacc (e_tri e) v)) := zset_m (eW0 q e ++ (hW g (fun j => q (1 + j)) (e_now e))) (hW g (fun j => q (22 + j)) (e_tri e)) (yW0 g (fun j => q (43 + j)) (e_his e) ++ (hsW g (fun j => q (43 + (2 + j))) (y_st (e_his e)) 0 7 ++ (eWm g q e ++ (aW g (fun j => q (194 + j)) (e_pad e) ++ (hsW g (fun j => q (198 + j)) (e_sl e) 0 2))))) eW_b2.1 (j := 7) (by rw [(eW_b2 (g := g)).2]) (Nat.le_of_ble_eq_true rfl) (show _ = _ from hW_s7) (by rw [eW_b2.1] <;> rfl)
theorem eW_g30 {g : zG} {q : Nat → Nat} {e : ED} : (eW g q e)[30]? = some (q 30, .inr (2, [.int (l_num (h_lo (e_tri e))), .ref (q 31), .ref (q 32), .ref (q 33), .ref (q 34), .ref (q 35)])) := zat_m (eW0 q e ++ (hW g (fun j => q (1 + j)) (e_now e))) (hW g (fun j => q (22 + j)) (e_tri e)) (yW0 g (fun j => q (43 + j)) (e_his e) ++ (hsW g (fun j => q (43 + (2 + j))) (y_st (e_his e)) 0 7 ++ (eWm g q e ++ (aW g (fun j => q (194 + j)) (e_pad e) ++ (hsW g (fun j => q (198 + j)) (e_sl e) 0 2))))) eW_b2.1 (j := 8) (by rw [(eW_b2 (g := g)).2]) (show _ = _ from hW_g8)
theorem eW_s30_0 {g : zG} {q : Nat → Nat} {e : ED} {v : Int32} : (eW g q e).set 30 (q 30, .inr (2, ([.int (l_num (h_lo (e_tri e))), .ref (q 31), .ref (q 32), .ref (q 33), .ref (q 34), .ref (q 35)] : List Value).set 0 (.int v))) = eW g q (e_stri e (h_slo (e_tri e) (l_snum (h_lo (e_tri e)) v))) := zset_m (eW0 q e ++ (hW g (fun j => q (1 + j)) (e_now e))) (hW g (fun j => q (22 + j)) (e_tri e)) (yW0 g (fun j => q (43 + j)) (e_his e) ++ (hsW g (fun j => q (43 + (2 + j))) (y_st (e_his e)) 0 7 ++ (eWm g q e ++ (aW g (fun j => q (194 + j)) (e_pad e) ++ (hsW g (fun j => q (198 + j)) (e_sl e) 0 2))))) eW_b2.1 (j := 8) (by rw [(eW_b2 (g := g)).2]) (Nat.le_of_ble_eq_true rfl) (show _ = _ from hW_s8_0) (by rw [eW_b2.1] <;> rfl)
theorem eW_g31 {g : zG} {q : Nat → Nat} {e : ED} : (eW g q e)[31]? = some (q 31, .inl (g.2.1 0, 40, .inl (l_len (h_lo (e_tri e))))) := zat_m (eW0 q e ++ (hW g (fun j => q (1 + j)) (e_now e))) (hW g (fun j => q (22 + j)) (e_tri e)) (yW0 g (fun j => q (43 + j)) (e_his e) ++ (hsW g (fun j => q (43 + (2 + j))) (y_st (e_his e)) 0 7 ++ (eWm g q e ++ (aW g (fun j => q (194 + j)) (e_pad e) ++ (hsW g (fun j => q (198 + j)) (e_sl e) 0 2))))) eW_b2.1 (j := 9) (by rw [(eW_b2 (g := g)).2]) (show _ = _ from hW_g9)
theorem eW_s31 {g : zG} {q : Nat → Nat} {e : ED} {v : Nat → Int32} : (eW g q e).set 31 (q 31, .inl (g.2.1 0, 40, .inl v)) = eW g q (e_stri e (h_slo (e_tri e) (l_slen (h_lo (e_tri e)) v))) := zset_m (eW0 q e ++ (hW g (fun j => q (1 + j)) (e_now e))) (hW g (fun j => q (22 + j)) (e_tri e)) (yW0 g (fun j => q (43 + j)) (e_his e) ++ (hsW g (fun j => q (43 + (2 + j))) (y_st (e_his e)) 0 7 ++ (eWm g q e ++ (aW g (fun j => q (194 + j)) (e_pad e) ++ (hsW g (fun j => q (198 + j)) (e_sl e) 0 2))))) eW_b2.1 (j := 9) (by rw [(eW_b2 (g := g)).2]) (Nat.le_of_ble_eq_true rfl) (show _ = _ from hW_s9) (by rw [eW_b2.1] <;> rfl)
theorem eW_g32 {g : zG} {q : Nat → Nat} {e : ED} : (eW g q e)[32]? = some (q 32, .inl (g.2.1 0, 40, .inl (l_bor (h_lo (e_tri e))))) := zat_m (eW0 q e ++ (hW g (fun j => q (1 + j)) (e_now e))) (hW g (fun j => q (22 + j)) (e_tri e)) (yW0 g (fun j => q (43 + j)) (e_his e) ++ (hsW g (fun j => q (43 + (2 + j))) (y_st (e_his e)) 0 7 ++ (eWm g q e ++ (aW g (fun j => q (194 + j)) (e_pad e) ++ (hsW g (fun j => q (198 + j)) (e_sl e) 0 2))))) eW_b2.1 (j := 10) (by rw [(eW_b2 (g := g)).2]) (show _ = _ from hW_g10)
theorem eW_s32 {g : zG} {q : Nat → Nat} {e : ED} {v : Nat → Int32} : (eW g q e).set 32 (q 32, .inl (g.2.1 0, 40, .inl v)) = eW g q (e_stri e (h_slo (e_tri e) (l_sbor (h_lo (e_tri e)) v))) := zset_m (eW0 q e ++ (hW g (fun j => q (1 + j)) (e_now e))) (hW g (fun j => q (22 + j)) (e_tri e)) (yW0 g (fun j => q (43 + j)) (e_his e) ++ (hsW g (fun j => q (43 + (2 + j))) (y_st (e_his e)) 0 7 ++ (eWm g q e ++ (aW g (fun j => q (194 + j)) (e_pad e) ++ (hsW g (fun j => q (198 + j)) (e_sl e) 0 2))))) eW_b2.1 (j := 10) (by rw [(eW_b2 (g := g)).2]) (Nat.le_of_ble_eq_true rfl) (show _ = _ from hW_s10) (by rw [eW_b2.1] <;> rfl)
theorem eW_g33 {g : zG} {q : Nat → Nat} {e : ED} : (eW g q e)[33]? = some (q 33, .inl (g.2.1 0, 40, .inl (l_min (h_lo (e_tri e))))) := zat_m (eW0 q e ++ (hW g (fun j => q (1 + j)) (e_now e))) (hW g (fun j => q (22 + j)) (e_tri e)) (yW0 g (fun j => q (43 + j)) (e_his e) ++ (hsW g (fun j => q (43 + (2 + j))) (y_st (e_his e)) 0 7 ++ (eWm g q e ++ (aW g (fun j => q (194 + j)) (e_pad e) ++ (hsW g (fun j => q (198 + j)) (e_sl e) 0 2))))) eW_b2.1 (j := 11) (by rw [(eW_b2 (g := g)).2]) (show _ = _ from hW_g11)
theorem eW_s33 {g : zG} {q : Nat → Nat} {e : ED} {v : Nat → Int32} : (eW g q e).set 33 (q 33, .inl (g.2.1 0, 40, .inl v)) = eW g q (e_stri e (h_slo (e_tri e) (l_smin (h_lo (e_tri e)) v))) := zset_m (eW0 q e ++ (hW g (fun j => q (1 + j)) (e_now e))) (hW g (fun j => q (22 + j)) (e_tri e)) (yW0 g (fun j => q (43 + j)) (e_his e) ++ (hsW g (fun j => q (43 + (2 + j))) (y_st (e_his e)) 0 7 ++ (eWm g q e ++ (aW g (fun j => q (194 + j)) (e_pad e) ++ (hsW g (fun j => q (198 + j)) (e_sl e) 0 2))))) eW_b2.1 (j := 11) (by rw [(eW_b2 (g := g)).2]) (Nat.le_of_ble_eq_true rfl) (show _ = _ from hW_s11) (by rw [eW_b2.1] <;> rfl)
theorem eW_g34 {g : zG} {q : Nat → Nat} {e : ED} : (eW g q e)[34]? = some (q 34, .inl (g.2.1 0, 40, .inl (l_owe (h_lo (e_tri e))))) := zat_m (eW0 q e ++ (hW g (fun j => q (1 + j)) (e_now e))) (hW g (fun j => q (22 + j)) (e_tri e)) (yW0 g (fun j => q (43 + j)) (e_his e) ++ (hsW g (fun j => q (43 + (2 + j))) (y_st (e_his e)) 0 7 ++ (eWm g q e ++ (aW g (fun j => q (194 + j)) (e_pad e) ++ (hsW g (fun j => q (198 + j)) (e_sl e) 0 2))))) eW_b2.1 (j := 12) (by rw [(eW_b2 (g := g)).2]) (show _ = _ from hW_g12)
theorem eW_s34 {g : zG} {q : Nat → Nat} {e : ED} {v : Nat → Int32} : (eW g q e).set 34 (q 34, .inl (g.2.1 0, 40, .inl v)) = eW g q (e_stri e (h_slo (e_tri e) (l_sowe (h_lo (e_tri e)) v))) := zset_m (eW0 q e ++ (hW g (fun j => q (1 + j)) (e_now e))) (hW g (fun j => q (22 + j)) (e_tri e)) (yW0 g (fun j => q (43 + j)) (e_his e) ++ (hsW g (fun j => q (43 + (2 + j))) (y_st (e_his e)) 0 7 ++ (eWm g q e ++ (aW g (fun j => q (194 + j)) (e_pad e) ++ (hsW g (fun j => q (198 + j)) (e_sl e) 0 2))))) eW_b2.1 (j := 12) (by rw [(eW_b2 (g := g)).2]) (Nat.le_of_ble_eq_true rfl) (show _ = _ from hW_s12) (by rw [eW_b2.1] <;> rfl)
theorem eW_g35 {g : zG} {q : Nat → Nat} {e : ED} : (eW g q e)[35]? = some (q 35, .inl (g.2.1 0, 40, .inl (l_due (h_lo (e_tri e))))) := zat_m (eW0 q e ++ (hW g (fun j => q (1 + j)) (e_now e))) (hW g (fun j => q (22 + j)) (e_tri e)) (yW0 g (fun j => q (43 + j)) (e_his e) ++ (hsW g (fun j => q (43 + (2 + j))) (y_st (e_his e)) 0 7 ++ (eWm g q e ++ (aW g (fun j => q (194 + j)) (e_pad e) ++ (hsW g (fun j => q (198 + j)) (e_sl e) 0 2))))) eW_b2.1 (j := 13) (by rw [(eW_b2 (g := g)).2]) (show _ = _ from hW_g13)
theorem eW_s35 {g : zG} {q : Nat → Nat} {e : ED} {v : Nat → Int32} : (eW g q e).set 35 (q 35, .inl (g.2.1 0, 40, .inl v)) = eW g q (e_stri e (h_slo (e_tri e) (l_sdue (h_lo (e_tri e)) v))) := zset_m (eW0 q e ++ (hW g (fun j => q (1 + j)) (e_now e))) (hW g (fun j => q (22 + j)) (e_tri e)) (yW0 g (fun j => q (43 + j)) (e_his e) ++ (hsW g (fun j => q (43 + (2 + j))) (y_st (e_his e)) 0 7 ++ (eWm g q e ++ (aW g (fun j => q (194 + j)) (e_pad e) ++ (hsW g (fun j => q (198 + j)) (e_sl e) 0 2))))) eW_b2.1 (j := 13) (by rw [(eW_b2 (g := g)).2]) (Nat.le_of_ble_eq_true rfl) (show _ = _ from hW_s13) (by rw [eW_b2.1] <;> rfl)
theorem eW_g36 {g : zG} {q : Nat → Nat} {e : ED} : (eW g q e)[36]? = some (q 36, .inr (4, [.int (p_num (h_pl (e_tri e))), .ref (q 37), .ref (q 38), .ref (q 39), .ref (q 40), .ref (q 41), .ref (q 42), .int (p_wat (h_pl (e_tri e))), .int (p_wf (h_pl (e_tri e)))])) := zat_m (eW0 q e ++ (hW g (fun j => q (1 + j)) (e_now e))) (hW g (fun j => q (22 + j)) (e_tri e)) (yW0 g (fun j => q (43 + j)) (e_his e) ++ (hsW g (fun j => q (43 + (2 + j))) (y_st (e_his e)) 0 7 ++ (eWm g q e ++ (aW g (fun j => q (194 + j)) (e_pad e) ++ (hsW g (fun j => q (198 + j)) (e_sl e) 0 2))))) eW_b2.1 (j := 14) (by rw [(eW_b2 (g := g)).2]) (show _ = _ from hW_g14)
theorem eW_s36_0 {g : zG} {q : Nat → Nat} {e : ED} {v : Int32} : (eW g q e).set 36 (q 36, .inr (4, ([.int (p_num (h_pl (e_tri e))), .ref (q 37), .ref (q 38), .ref (q 39), .ref (q 40), .ref (q 41), .ref (q 42), .int (p_wat (h_pl (e_tri e))), .int (p_wf (h_pl (e_tri e)))] : List Value).set 0 (.int v))) = eW g q (e_stri e (h_spl (e_tri e) (p_snum (h_pl (e_tri e)) v))) := zset_m (eW0 q e ++ (hW g (fun j => q (1 + j)) (e_now e))) (hW g (fun j => q (22 + j)) (e_tri e)) (yW0 g (fun j => q (43 + j)) (e_his e) ++ (hsW g (fun j => q (43 + (2 + j))) (y_st (e_his e)) 0 7 ++ (eWm g q e ++ (aW g (fun j => q (194 + j)) (e_pad e) ++ (hsW g (fun j => q (198 + j)) (e_sl e) 0 2))))) eW_b2.1 (j := 14) (by rw [(eW_b2 (g := g)).2]) (Nat.le_of_ble_eq_true rfl) (show _ = _ from hW_s14_0) (by rw [eW_b2.1] <;> rfl)
theorem eW_s36_7 {g : zG} {q : Nat → Nat} {e : ED} {v : Int32} : (eW g q e).set 36 (q 36, .inr (4, ([.int (p_num (h_pl (e_tri e))), .ref (q 37), .ref (q 38), .ref (q 39), .ref (q 40), .ref (q 41), .ref (q 42), .int (p_wat (h_pl (e_tri e))), .int (p_wf (h_pl (e_tri e)))] : List Value).set 7 (.int v))) = eW g q (e_stri e (h_spl (e_tri e) (p_swat (h_pl (e_tri e)) v))) := zset_m (eW0 q e ++ (hW g (fun j => q (1 + j)) (e_now e))) (hW g (fun j => q (22 + j)) (e_tri e)) (yW0 g (fun j => q (43 + j)) (e_his e) ++ (hsW g (fun j => q (43 + (2 + j))) (y_st (e_his e)) 0 7 ++ (eWm g q e ++ (aW g (fun j => q (194 + j)) (e_pad e) ++ (hsW g (fun j => q (198 + j)) (e_sl e) 0 2))))) eW_b2.1 (j := 14) (by rw [(eW_b2 (g := g)).2]) (Nat.le_of_ble_eq_true rfl) (show _ = _ from hW_s14_7) (by rw [eW_b2.1] <;> rfl)
theorem eW_s36_8 {g : zG} {q : Nat → Nat} {e : ED} {v : Int32} : (eW g q e).set 36 (q 36, .inr (4, ([.int (p_num (h_pl (e_tri e))), .ref (q 37), .ref (q 38), .ref (q 39), .ref (q 40), .ref (q 41), .ref (q 42), .int (p_wat (h_pl (e_tri e))), .int (p_wf (h_pl (e_tri e)))] : List Value).set 8 (.int v))) = eW g q (e_stri e (h_spl (e_tri e) (p_swf (h_pl (e_tri e)) v))) := zset_m (eW0 q e ++ (hW g (fun j => q (1 + j)) (e_now e))) (hW g (fun j => q (22 + j)) (e_tri e)) (yW0 g (fun j => q (43 + j)) (e_his e) ++ (hsW g (fun j => q (43 + (2 + j))) (y_st (e_his e)) 0 7 ++ (eWm g q e ++ (aW g (fun j => q (194 + j)) (e_pad e) ++ (hsW g (fun j => q (198 + j)) (e_sl e) 0 2))))) eW_b2.1 (j := 14) (by rw [(eW_b2 (g := g)).2]) (Nat.le_of_ble_eq_true rfl) (show _ = _ from hW_s14_8) (by rw [eW_b2.1] <;> rfl)
theorem eW_g37 {g : zG} {q : Nat → Nat} {e : ED} : (eW g q e)[37]? = some (q 37, .inl (g.2.1 0, 30, .inl (p_srv (h_pl (e_tri e))))) := zat_m (eW0 q e ++ (hW g (fun j => q (1 + j)) (e_now e))) (hW g (fun j => q (22 + j)) (e_tri e)) (yW0 g (fun j => q (43 + j)) (e_his e) ++ (hsW g (fun j => q (43 + (2 + j))) (y_st (e_his e)) 0 7 ++ (eWm g q e ++ (aW g (fun j => q (194 + j)) (e_pad e) ++ (hsW g (fun j => q (198 + j)) (e_sl e) 0 2))))) eW_b2.1 (j := 15) (by rw [(eW_b2 (g := g)).2]) (show _ = _ from hW_g15)
theorem eW_s37 {g : zG} {q : Nat → Nat} {e : ED} {v : Nat → Int32} : (eW g q e).set 37 (q 37, .inl (g.2.1 0, 30, .inl v)) = eW g q (e_stri e (h_spl (e_tri e) (p_ssrv (h_pl (e_tri e)) v))) := zset_m (eW0 q e ++ (hW g (fun j => q (1 + j)) (e_now e))) (hW g (fun j => q (22 + j)) (e_tri e)) (yW0 g (fun j => q (43 + j)) (e_his e) ++ (hsW g (fun j => q (43 + (2 + j))) (y_st (e_his e)) 0 7 ++ (eWm g q e ++ (aW g (fun j => q (194 + j)) (e_pad e) ++ (hsW g (fun j => q (198 + j)) (e_sl e) 0 2))))) eW_b2.1 (j := 15) (by rw [(eW_b2 (g := g)).2]) (Nat.le_of_ble_eq_true rfl) (show _ = _ from hW_s15) (by rw [eW_b2.1] <;> rfl)
theorem eW_g38 {g : zG} {q : Nat → Nat} {e : ED} : (eW g q e)[38]? = some (q 38, .inl (g.2.1 0, 30, .inl (p_hr (h_pl (e_tri e))))) := zat_m (eW0 q e ++ (hW g (fun j => q (1 + j)) (e_now e))) (hW g (fun j => q (22 + j)) (e_tri e)) (yW0 g (fun j => q (43 + j)) (e_his e) ++ (hsW g (fun j => q (43 + (2 + j))) (y_st (e_his e)) 0 7 ++ (eWm g q e ++ (aW g (fun j => q (194 + j)) (e_pad e) ++ (hsW g (fun j => q (198 + j)) (e_sl e) 0 2))))) eW_b2.1 (j := 16) (by rw [(eW_b2 (g := g)).2]) (show _ = _ from hW_g16)
theorem eW_s38 {g : zG} {q : Nat → Nat} {e : ED} {v : Nat → Int32} : (eW g q e).set 38 (q 38, .inl (g.2.1 0, 30, .inl v)) = eW g q (e_stri e (h_spl (e_tri e) (p_shr (h_pl (e_tri e)) v))) := zset_m (eW0 q e ++ (hW g (fun j => q (1 + j)) (e_now e))) (hW g (fun j => q (22 + j)) (e_tri e)) (yW0 g (fun j => q (43 + j)) (e_his e) ++ (hsW g (fun j => q (43 + (2 + j))) (y_st (e_his e)) 0 7 ++ (eWm g q e ++ (aW g (fun j => q (194 + j)) (e_pad e) ++ (hsW g (fun j => q (198 + j)) (e_sl e) 0 2))))) eW_b2.1 (j := 16) (by rw [(eW_b2 (g := g)).2]) (Nat.le_of_ble_eq_true rfl) (show _ = _ from hW_s16) (by rw [eW_b2.1] <;> rfl)
theorem eW_g39 {g : zG} {q : Nat → Nat} {e : ED} : (eW g q e)[39]? = some (q 39, .inl (g.2.1 0, 30, .inl (p_sz (h_pl (e_tri e))))) := zat_m (eW0 q e ++ (hW g (fun j => q (1 + j)) (e_now e))) (hW g (fun j => q (22 + j)) (e_tri e)) (yW0 g (fun j => q (43 + j)) (e_his e) ++ (hsW g (fun j => q (43 + (2 + j))) (y_st (e_his e)) 0 7 ++ (eWm g q e ++ (aW g (fun j => q (194 + j)) (e_pad e) ++ (hsW g (fun j => q (198 + j)) (e_sl e) 0 2))))) eW_b2.1 (j := 17) (by rw [(eW_b2 (g := g)).2]) (show _ = _ from hW_g17)
theorem eW_s39 {g : zG} {q : Nat → Nat} {e : ED} {v : Nat → Int32} : (eW g q e).set 39 (q 39, .inl (g.2.1 0, 30, .inl v)) = eW g q (e_stri e (h_spl (e_tri e) (p_ssz (h_pl (e_tri e)) v))) := zset_m (eW0 q e ++ (hW g (fun j => q (1 + j)) (e_now e))) (hW g (fun j => q (22 + j)) (e_tri e)) (yW0 g (fun j => q (43 + j)) (e_his e) ++ (hsW g (fun j => q (43 + (2 + j))) (y_st (e_his e)) 0 7 ++ (eWm g q e ++ (aW g (fun j => q (194 + j)) (e_pad e) ++ (hsW g (fun j => q (198 + j)) (e_sl e) 0 2))))) eW_b2.1 (j := 17) (by rw [(eW_b2 (g := g)).2]) (Nat.le_of_ble_eq_true rfl) (show _ = _ from hW_s17) (by rw [eW_b2.1] <;> rfl)
theorem eW_g40 {g : zG} {q : Nat → Nat} {e : ED} : (eW g q e)[40]? = some (q 40, .inl (g.2.1 0, 30, .inl (p_pri (h_pl (e_tri e))))) := zat_m (eW0 q e ++ (hW g (fun j => q (1 + j)) (e_now e))) (hW g (fun j => q (22 + j)) (e_tri e)) (yW0 g (fun j => q (43 + j)) (e_his e) ++ (hsW g (fun j => q (43 + (2 + j))) (y_st (e_his e)) 0 7 ++ (eWm g q e ++ (aW g (fun j => q (194 + j)) (e_pad e) ++ (hsW g (fun j => q (198 + j)) (e_sl e) 0 2))))) eW_b2.1 (j := 18) (by rw [(eW_b2 (g := g)).2]) (show _ = _ from hW_g18)
theorem eW_s40 {g : zG} {q : Nat → Nat} {e : ED} {v : Nat → Int32} : (eW g q e).set 40 (q 40, .inl (g.2.1 0, 30, .inl v)) = eW g q (e_stri e (h_spl (e_tri e) (p_spri (h_pl (e_tri e)) v))) := zset_m (eW0 q e ++ (hW g (fun j => q (1 + j)) (e_now e))) (hW g (fun j => q (22 + j)) (e_tri e)) (yW0 g (fun j => q (43 + j)) (e_his e) ++ (hsW g (fun j => q (43 + (2 + j))) (y_st (e_his e)) 0 7 ++ (eWm g q e ++ (aW g (fun j => q (194 + j)) (e_pad e) ++ (hsW g (fun j => q (198 + j)) (e_sl e) 0 2))))) eW_b2.1 (j := 18) (by rw [(eW_b2 (g := g)).2]) (Nat.le_of_ble_eq_true rfl) (show _ = _ from hW_s18) (by rw [eW_b2.1] <;> rfl)
theorem eW_g41 {g : zG} {q : Nat → Nat} {e : ED} : (eW g q e)[41]? = some (q 41, .inl (g.2.1 0, 30, .inl (p_fate (h_pl (e_tri e))))) := zat_m (eW0 q e ++ (hW g (fun j => q (1 + j)) (e_now e))) (hW g (fun j => q (22 + j)) (e_tri e)) (yW0 g (fun j => q (43 + j)) (e_his e) ++ (hsW g (fun j => q (43 + (2 + j))) (y_st (e_his e)) 0 7 ++ (eWm g q e ++ (aW g (fun j => q (194 + j)) (e_pad e) ++ (hsW g (fun j => q (198 + j)) (e_sl e) 0 2))))) eW_b2.1 (j := 19) (by rw [(eW_b2 (g := g)).2]) (show _ = _ from hW_g19)
theorem eW_s41 {g : zG} {q : Nat → Nat} {e : ED} {v : Nat → Int32} : (eW g q e).set 41 (q 41, .inl (g.2.1 0, 30, .inl v)) = eW g q (e_stri e (h_spl (e_tri e) (p_sfate (h_pl (e_tri e)) v))) := zset_m (eW0 q e ++ (hW g (fun j => q (1 + j)) (e_now e))) (hW g (fun j => q (22 + j)) (e_tri e)) (yW0 g (fun j => q (43 + j)) (e_his e) ++ (hsW g (fun j => q (43 + (2 + j))) (y_st (e_his e)) 0 7 ++ (eWm g q e ++ (aW g (fun j => q (194 + j)) (e_pad e) ++ (hsW g (fun j => q (198 + j)) (e_sl e) 0 2))))) eW_b2.1 (j := 19) (by rw [(eW_b2 (g := g)).2]) (Nat.le_of_ble_eq_true rfl) (show _ = _ from hW_s19) (by rw [eW_b2.1] <;> rfl)
theorem eW_g42 {g : zG} {q : Nat → Nat} {e : ED} : (eW g q e)[42]? = some (q 42, .inl (g.2.1 0, 30, .inl (p_turn (h_pl (e_tri e))))) := zat_m (eW0 q e ++ (hW g (fun j => q (1 + j)) (e_now e))) (hW g (fun j => q (22 + j)) (e_tri e)) (yW0 g (fun j => q (43 + j)) (e_his e) ++ (hsW g (fun j => q (43 + (2 + j))) (y_st (e_his e)) 0 7 ++ (eWm g q e ++ (aW g (fun j => q (194 + j)) (e_pad e) ++ (hsW g (fun j => q (198 + j)) (e_sl e) 0 2))))) eW_b2.1 (j := 20) (by rw [(eW_b2 (g := g)).2]) (show _ = _ from hW_g20)
theorem eW_s42 {g : zG} {q : Nat → Nat} {e : ED} {v : Nat → Int32} : (eW g q e).set 42 (q 42, .inl (g.2.1 0, 30, .inl v)) = eW g q (e_stri e (h_spl (e_tri e) (p_sturn (h_pl (e_tri e)) v))) := zset_m (eW0 q e ++ (hW g (fun j => q (1 + j)) (e_now e))) (hW g (fun j => q (22 + j)) (e_tri e)) (yW0 g (fun j => q (43 + j)) (e_his e) ++ (hsW g (fun j => q (43 + (2 + j))) (y_st (e_his e)) 0 7 ++ (eWm g q e ++ (aW g (fun j => q (194 + j)) (e_pad e) ++ (hsW g (fun j => q (198 + j)) (e_sl e) 0 2))))) eW_b2.1 (j := 20) (by rw [(eW_b2 (g := g)).2]) (Nat.le_of_ble_eq_true rfl) (show _ = _ from hW_s20) (by rw [eW_b2.1] <;> rfl)
theorem eW_g194 {g : zG} {q : Nat → Nat} {e : ED} : (eW g q e)[194]? = some (q 194, .inr (3, [.ref (q 195), .int (a_len (e_pad e)), .int (a_at (e_pad e)), .int (a_ord (e_pad e)), .ref (q 196), .ref (q 197)])) := zat_m (eW0 q e ++ (hW g (fun j => q (1 + j)) (e_now e) ++ (hW g (fun j => q (22 + j)) (e_tri e) ++ (yW0 g (fun j => q (43 + j)) (e_his e) ++ (hsW g (fun j => q (43 + (2 + j))) (y_st (e_his e)) 0 7 ++ (eWm g q e)))))) (aW g (fun j => q (194 + j)) (e_pad e)) (hsW g (fun j => q (198 + j)) (e_sl e) 0 2) eW_b6.1 (j := 0) (by rw [(eW_b6 (g := g)).2]) (show _ = _ from aW_g0)
theorem eW_s194_1 {g : zG} {q : Nat → Nat} {e : ED} {v : Int32} : (eW g q e).set 194 (q 194, .inr (3, ([.ref (q 195), .int (a_len (e_pad e)), .int (a_at (e_pad e)), .int (a_ord (e_pad e)), .ref (q 196), .ref (q 197)] : List Value).set 1 (.int v))) = eW g q (e_spad e (a_slen (e_pad e) v)) := zset_m (eW0 q e ++ (hW g (fun j => q (1 + j)) (e_now e) ++ (hW g (fun j => q (22 + j)) (e_tri e) ++ (yW0 g (fun j => q (43 + j)) (e_his e) ++ (hsW g (fun j => q (43 + (2 + j))) (y_st (e_his e)) 0 7 ++ (eWm g q e)))))) (aW g (fun j => q (194 + j)) (e_pad e)) (hsW g (fun j => q (198 + j)) (e_sl e) 0 2) eW_b6.1 (j := 0) (by rw [(eW_b6 (g := g)).2]) (Nat.le_of_ble_eq_true rfl) (show _ = _ from aW_s0_1) (by rw [eW_b6.1] <;> rfl)
theorem eW_s194_2 {g : zG} {q : Nat → Nat} {e : ED} {v : Int32} : (eW g q e).set 194 (q 194, .inr (3, ([.ref (q 195), .int (a_len (e_pad e)), .int (a_at (e_pad e)), .int (a_ord (e_pad e)), .ref (q 196), .ref (q 197)] : List Value).set 2 (.int v))) = eW g q (e_spad e (a_sat (e_pad e) v)) := zset_m (eW0 q e ++ (hW g (fun j => q (1 + j)) (e_now e) ++ (hW g (fun j => q (22 + j)) (e_tri e) ++ (yW0 g (fun j => q (43 + j)) (e_his e) ++ (hsW g (fun j => q (43 + (2 + j))) (y_st (e_his e)) 0 7 ++ (eWm g q e)))))) (aW g (fun j => q (194 + j)) (e_pad e)) (hsW g (fun j => q (198 + j)) (e_sl e) 0 2) eW_b6.1 (j := 0) (by rw [(eW_b6 (g := g)).2]) (Nat.le_of_ble_eq_true rfl) (show _ = _ from aW_s0_2) (by rw [eW_b6.1] <;> rfl)
theorem eW_s194_3 {g : zG} {q : Nat → Nat} {e : ED} {v : Int32} : (eW g q e).set 194 (q 194, .inr (3, ([.ref (q 195), .int (a_len (e_pad e)), .int (a_at (e_pad e)), .int (a_ord (e_pad e)), .ref (q 196), .ref (q 197)] : List Value).set 3 (.int v))) = eW g q (e_spad e (a_sord (e_pad e) v)) := zset_m (eW0 q e ++ (hW g (fun j => q (1 + j)) (e_now e) ++ (hW g (fun j => q (22 + j)) (e_tri e) ++ (yW0 g (fun j => q (43 + j)) (e_his e) ++ (hsW g (fun j => q (43 + (2 + j))) (y_st (e_his e)) 0 7 ++ (eWm g q e)))))) (aW g (fun j => q (194 + j)) (e_pad e)) (hsW g (fun j => q (198 + j)) (e_sl e) 0 2) eW_b6.1 (j := 0) (by rw [(eW_b6 (g := g)).2]) (Nat.le_of_ble_eq_true rfl) (show _ = _ from aW_s0_3) (by rw [eW_b6.1] <;> rfl)
theorem eW_g195 {g : zG} {q : Nat → Nat} {e : ED} : (eW g q e)[195]? = some (q 195, .inl (g.2.1 3, 80, .inl (a_sig (e_pad e)))) := zat_m (eW0 q e ++ (hW g (fun j => q (1 + j)) (e_now e) ++ (hW g (fun j => q (22 + j)) (e_tri e) ++ (yW0 g (fun j => q (43 + j)) (e_his e) ++ (hsW g (fun j => q (43 + (2 + j))) (y_st (e_his e)) 0 7 ++ (eWm g q e)))))) (aW g (fun j => q (194 + j)) (e_pad e)) (hsW g (fun j => q (198 + j)) (e_sl e) 0 2) eW_b6.1 (j := 1) (by rw [(eW_b6 (g := g)).2]) (show _ = _ from aW_g1)
theorem eW_s195 {g : zG} {q : Nat → Nat} {e : ED} {v : Nat → Int32} : (eW g q e).set 195 (q 195, .inl (g.2.1 3, 80, .inl v)) = eW g q (e_spad e (a_ssig (e_pad e) v)) := zset_m (eW0 q e ++ (hW g (fun j => q (1 + j)) (e_now e) ++ (hW g (fun j => q (22 + j)) (e_tri e) ++ (yW0 g (fun j => q (43 + j)) (e_his e) ++ (hsW g (fun j => q (43 + (2 + j))) (y_st (e_his e)) 0 7 ++ (eWm g q e)))))) (aW g (fun j => q (194 + j)) (e_pad e)) (hsW g (fun j => q (198 + j)) (e_sl e) 0 2) eW_b6.1 (j := 1) (by rw [(eW_b6 (g := g)).2]) (Nat.le_of_ble_eq_true rfl) (show _ = _ from aW_s1) (by rw [eW_b6.1] <;> rfl)
theorem eW_g196 {g : zG} {q : Nat → Nat} {e : ED} : (eW g q e)[196]? = some (q 196, .inl (g.2.1 3, 27, .inl (a_kin (e_pad e)))) := zat_m (eW0 q e ++ (hW g (fun j => q (1 + j)) (e_now e) ++ (hW g (fun j => q (22 + j)) (e_tri e) ++ (yW0 g (fun j => q (43 + j)) (e_his e) ++ (hsW g (fun j => q (43 + (2 + j))) (y_st (e_his e)) 0 7 ++ (eWm g q e)))))) (aW g (fun j => q (194 + j)) (e_pad e)) (hsW g (fun j => q (198 + j)) (e_sl e) 0 2) eW_b6.1 (j := 2) (by rw [(eW_b6 (g := g)).2]) (show _ = _ from aW_g2)
theorem eW_s196 {g : zG} {q : Nat → Nat} {e : ED} {v : Nat → Int32} : (eW g q e).set 196 (q 196, .inl (g.2.1 3, 27, .inl v)) = eW g q (e_spad e (a_skin (e_pad e) v)) := zset_m (eW0 q e ++ (hW g (fun j => q (1 + j)) (e_now e) ++ (hW g (fun j => q (22 + j)) (e_tri e) ++ (yW0 g (fun j => q (43 + j)) (e_his e) ++ (hsW g (fun j => q (43 + (2 + j))) (y_st (e_his e)) 0 7 ++ (eWm g q e)))))) (aW g (fun j => q (194 + j)) (e_pad e)) (hsW g (fun j => q (198 + j)) (e_sl e) 0 2) eW_b6.1 (j := 2) (by rw [(eW_b6 (g := g)).2]) (Nat.le_of_ble_eq_true rfl) (show _ = _ from aW_s2) (by rw [eW_b6.1] <;> rfl)
theorem eW_g197 {g : zG} {q : Nat → Nat} {e : ED} : (eW g q e)[197]? = some (q 197, .inl (g.2.1 0, 108, .inl (a_val (e_pad e)))) := zat_m (eW0 q e ++ (hW g (fun j => q (1 + j)) (e_now e) ++ (hW g (fun j => q (22 + j)) (e_tri e) ++ (yW0 g (fun j => q (43 + j)) (e_his e) ++ (hsW g (fun j => q (43 + (2 + j))) (y_st (e_his e)) 0 7 ++ (eWm g q e)))))) (aW g (fun j => q (194 + j)) (e_pad e)) (hsW g (fun j => q (198 + j)) (e_sl e) 0 2) eW_b6.1 (j := 3) (by rw [(eW_b6 (g := g)).2]) (show _ = _ from aW_g3)
theorem eW_s197 {g : zG} {q : Nat → Nat} {e : ED} {v : Nat → Int32} : (eW g q e).set 197 (q 197, .inl (g.2.1 0, 108, .inl v)) = eW g q (e_spad e (a_sval (e_pad e) v)) := zset_m (eW0 q e ++ (hW g (fun j => q (1 + j)) (e_now e) ++ (hW g (fun j => q (22 + j)) (e_tri e) ++ (yW0 g (fun j => q (43 + j)) (e_his e) ++ (hsW g (fun j => q (43 + (2 + j))) (y_st (e_his e)) 0 7 ++ (eWm g q e)))))) (aW g (fun j => q (194 + j)) (e_pad e)) (hsW g (fun j => q (198 + j)) (e_sl e) 0 2) eW_b6.1 (j := 3) (by rw [(eW_b6 (g := g)).2]) (Nat.le_of_ble_eq_true rfl) (show _ = _ from aW_s3) (by rw [eW_b6.1] <;> rfl)
theorem eW_g43 {g : zG} {q : Nat → Nat} {e : ED} : (eW g q e)[43]? = some (q 43, .inr (0, [.ref (q 44), .int (y_old (e_his e)), .int (y_kept (e_his e))])) := zat_m (eW0 q e ++ (hW g (fun j => q (1 + j)) (e_now e) ++ (hW g (fun j => q (22 + j)) (e_tri e)))) (yW0 g (fun j => q (43 + j)) (e_his e)) (hsW g (fun j => q (43 + (2 + j))) (y_st (e_his e)) 0 7 ++ (eWm g q e ++ (aW g (fun j => q (194 + j)) (e_pad e) ++ (hsW g (fun j => q (198 + j)) (e_sl e) 0 2)))) eW_b3.1 (j := 0) (by rw [(eW_b3 (g := g)).2]) rfl
theorem eW_g44 {g : zG} {q : Nat → Nat} {e : ED} : (eW g q e)[44]? = some (q 44, .inl (g.2.1 4, 7, .inr (.inr (.inr (.inr (fun i => some (q (43 + (2 + 21 * i)))))))) ) := zat_m (eW0 q e ++ (hW g (fun j => q (1 + j)) (e_now e) ++ (hW g (fun j => q (22 + j)) (e_tri e)))) (yW0 g (fun j => q (43 + j)) (e_his e)) (hsW g (fun j => q (43 + (2 + j))) (y_st (e_his e)) 0 7 ++ (eWm g q e ++ (aW g (fun j => q (194 + j)) (e_pad e) ++ (hsW g (fun j => q (198 + j)) (e_sl e) 0 2)))) eW_b3.1 (j := 1) (by rw [(eW_b3 (g := g)).2]) rfl
theorem eW_g192 {g : zG} {q : Nat → Nat} {e : ED} : (eW g q e)[192]? = some (q 192, .inl (g.2.1 4, 2, .inr (.inr (.inr (.inr (fun i => some (q (198 + 21 * i)))))))) := zat_m (eW0 q e ++ (hW g (fun j => q (1 + j)) (e_now e) ++ (hW g (fun j => q (22 + j)) (e_tri e) ++ (yW0 g (fun j => q (43 + j)) (e_his e) ++ (hsW g (fun j => q (43 + (2 + j))) (y_st (e_his e)) 0 7))))) (eWm g q e) (aW g (fun j => q (194 + j)) (e_pad e) ++ (hsW g (fun j => q (198 + j)) (e_sl e) 0 2)) eW_b5.1 (j := 0) (by rw [(eW_b5 (g := g)).2]) rfl
theorem eW_g193 {g : zG} {q : Nat → Nat} {e : ED} : (eW g q e)[193]? = some (q 193, .inl (g.2.1 2, 2, .inl (e_sav e))) := zat_m (eW0 q e ++ (hW g (fun j => q (1 + j)) (e_now e) ++ (hW g (fun j => q (22 + j)) (e_tri e) ++ (yW0 g (fun j => q (43 + j)) (e_his e) ++ (hsW g (fun j => q (43 + (2 + j))) (y_st (e_his e)) 0 7))))) (eWm g q e) (aW g (fun j => q (194 + j)) (e_pad e) ++ (hsW g (fun j => q (198 + j)) (e_sl e) 0 2)) eW_b5.1 (j := 1) (by rw [(eW_b5 (g := g)).2]) rfl
theorem eW_s193 {g : zG} {q : Nat → Nat} {e : ED} {v : Nat → Int32} : (eW g q e).set 193 (q 193, .inl (g.2.1 2, 2, .inl v)) = eW g q (e_ssav e v) := zset_m (eW0 q e ++ (hW g (fun j => q (1 + j)) (e_now e) ++ (hW g (fun j => q (22 + j)) (e_tri e) ++ (yW0 g (fun j => q (43 + j)) (e_his e) ++ (hsW g (fun j => q (43 + (2 + j))) (y_st (e_his e)) 0 7))))) (eWm g q e) (aW g (fun j => q (194 + j)) (e_pad e) ++ (hsW g (fun j => q (198 + j)) (e_sl e) 0 2)) eW_b5.1 (j := 1) (by rw [(eW_b5 (g := g)).2]) (Nat.le_of_ble_eq_true rfl) rfl (by rw [eW_b5.1] <;> rfl)
theorem eW_c1 {g : zG} {q : Nat → Nat} {e : ED} : ([1, 2, 3, 4, 5, 6, 7, 8, 9, 10, 11, 12, 13, 14, 15, 16, 17, 18, 19, 20, 21] : List Nat).map (fun i => (eW g q e)[i]?) = (hW g (fun j => q (1 + j)) (e_now e)).map some := zget_m (eW0 q e) (hW g (fun j => q (1 + j)) (e_now e)) (hW g (fun j => q (22 + j)) (e_tri e) ++ (yW0 g (fun j => q (43 + j)) (e_his e) ++ (hsW g (fun j => q (43 + (2 + j))) (y_st (e_his e)) 0 7 ++ (eWm g q e ++ (aW g (fun j => q (194 + j)) (e_pad e) ++ (hsW g (fun j => q (198 + j)) (e_sl e) 0 2)))))) eW_b1.1 (by rw [(eW_b1 (g := g)).2] <;> rfl)
theorem eW_r1 {g : zG} {q : Nat → Nat} {e : ED} {v : HD} : zrep (eW g q e) [1, 2, 3, 4, 5, 6, 7, 8, 9, 10, 11, 12, 13, 14, 15, 16, 17, 18, 19, 20, 21] (hW g (fun j => q (1 + j)) v) = eW g q (e_snow e v) := zrep_m (eW0 q e) (hW g (fun j => q (1 + j)) (e_now e)) (hW g (fun j => q (22 + j)) (e_tri e) ++ (yW0 g (fun j => q (43 + j)) (e_his e) ++ (hsW g (fun j => q (43 + (2 + j))) (y_st (e_his e)) 0 7 ++ (eWm g q e ++ (aW g (fun j => q (194 + j)) (e_pad e) ++ (hsW g (fun j => q (198 + j)) (e_sl e) 0 2)))))) eW_b1.1 (by rw [(eW_b1 (g := g)).2] <;> rfl) rfl (by rw [eW_b1.1] <;> rfl)
theorem eW_r1o {g : zG} {q : Nat → Nat} {e : ED} : zrep (eW g q e) [1, 2, 3, 4, 5, 6, 7, 8, 9, 10, 11, 12, 13, 14, 15, 16, 17, 18, 19, 20, 21] (hW g (fun j => q (1 + j)) (e_now e)) = eW g q e := eW_r1
theorem eW_n1 : va_nd [1, 2, 3, 4, 5, 6, 7, 8, 9, 10, 11, 12, 13, 14, 15, 16, 17, 18, 19, 20, 21] = true := zfrom_nd 21 1
theorem eW_c22 {g : zG} {q : Nat → Nat} {e : ED} : ([22, 23, 24, 25, 26, 27, 28, 29, 30, 31, 32, 33, 34, 35, 36, 37, 38, 39, 40, 41, 42] : List Nat).map (fun i => (eW g q e)[i]?) = (hW g (fun j => q (22 + j)) (e_tri e)).map some := zget_m (eW0 q e ++ (hW g (fun j => q (1 + j)) (e_now e))) (hW g (fun j => q (22 + j)) (e_tri e)) (yW0 g (fun j => q (43 + j)) (e_his e) ++ (hsW g (fun j => q (43 + (2 + j))) (y_st (e_his e)) 0 7 ++ (eWm g q e ++ (aW g (fun j => q (194 + j)) (e_pad e) ++ (hsW g (fun j => q (198 + j)) (e_sl e) 0 2))))) eW_b2.1 (by rw [(eW_b2 (g := g)).2] <;> rfl)
theorem eW_r22 {g : zG} {q : Nat → Nat} {e : ED} {v : HD} : zrep (eW g q e) [22, 23, 24, 25, 26, 27, 28, 29, 30, 31, 32, 33, 34, 35, 36, 37, 38, 39, 40, 41, 42] (hW g (fun j => q (22 + j)) v) = eW g q (e_stri e v) := zrep_m (eW0 q e ++ (hW g (fun j => q (1 + j)) (e_now e))) (hW g (fun j => q (22 + j)) (e_tri e)) (yW0 g (fun j => q (43 + j)) (e_his e) ++ (hsW g (fun j => q (43 + (2 + j))) (y_st (e_his e)) 0 7 ++ (eWm g q e ++ (aW g (fun j => q (194 + j)) (e_pad e) ++ (hsW g (fun j => q (198 + j)) (e_sl e) 0 2))))) eW_b2.1 (by rw [(eW_b2 (g := g)).2] <;> rfl) rfl (by rw [eW_b2.1] <;> rfl)
theorem eW_r22o {g : zG} {q : Nat → Nat} {e : ED} : zrep (eW g q e) [22, 23, 24, 25, 26, 27, 28, 29, 30, 31, 32, 33, 34, 35, 36, 37, 38, 39, 40, 41, 42] (hW g (fun j => q (22 + j)) (e_tri e)) = eW g q e := eW_r22
theorem eW_n22 : va_nd [22, 23, 24, 25, 26, 27, 28, 29, 30, 31, 32, 33, 34, 35, 36, 37, 38, 39, 40, 41, 42] = true := zfrom_nd 21 22
theorem eW_c194 {g : zG} {q : Nat → Nat} {e : ED} : ([194, 195, 196, 197] : List Nat).map (fun i => (eW g q e)[i]?) = (aW g (fun j => q (194 + j)) (e_pad e)).map some := zget_m (eW0 q e ++ (hW g (fun j => q (1 + j)) (e_now e) ++ (hW g (fun j => q (22 + j)) (e_tri e) ++ (yW0 g (fun j => q (43 + j)) (e_his e) ++ (hsW g (fun j => q (43 + (2 + j))) (y_st (e_his e)) 0 7 ++ (eWm g q e)))))) (aW g (fun j => q (194 + j)) (e_pad e)) (hsW g (fun j => q (198 + j)) (e_sl e) 0 2) eW_b6.1 (by rw [(eW_b6 (g := g)).2] <;> rfl)
theorem eW_r194 {g : zG} {q : Nat → Nat} {e : ED} {v : AD} : zrep (eW g q e) [194, 195, 196, 197] (aW g (fun j => q (194 + j)) v) = eW g q (e_spad e v) := zrep_m (eW0 q e ++ (hW g (fun j => q (1 + j)) (e_now e) ++ (hW g (fun j => q (22 + j)) (e_tri e) ++ (yW0 g (fun j => q (43 + j)) (e_his e) ++ (hsW g (fun j => q (43 + (2 + j))) (y_st (e_his e)) 0 7 ++ (eWm g q e)))))) (aW g (fun j => q (194 + j)) (e_pad e)) (hsW g (fun j => q (198 + j)) (e_sl e) 0 2) eW_b6.1 (by rw [(eW_b6 (g := g)).2] <;> rfl) rfl (by rw [eW_b6.1] <;> rfl)
theorem eW_r194o {g : zG} {q : Nat → Nat} {e : ED} : zrep (eW g q e) [194, 195, 196, 197] (aW g (fun j => q (194 + j)) (e_pad e)) = eW g q e := eW_r194
theorem eW_n194 : va_nd [194, 195, 196, 197] = true := zfrom_nd 4 194
theorem eW_d9 {g : zG} {q : Nat → Nat} {e : ED} : eW g q e = ((eW0 q e) ++ (hW0 g (fun j => q (1 + j)) (e_now e))) ++ ((lW g (fun j => (fun j => q (1 + j)) (8 + j)) (h_lo (e_now e))) ++ ((pW g (fun j => (fun j => q (1 + j)) (14 + j)) (h_pl (e_now e))) ++ (hW g (fun j => q (22 + j)) (e_tri e) ++ (yW0 g (fun j => q (43 + j)) (e_his e) ++ (hsW g (fun j => q (43 + (2 + j))) (y_st (e_his e)) 0 7 ++ (eWm g q e ++ (aW g (fun j => q (194 + j)) (e_pad e) ++ (hsW g (fun j => q (198 + j)) (e_sl e) 0 2)))))))) ∧ (((eW0 q e) ++ (hW0 g (fun j => q (1 + j)) (e_now e))) : va_W).length = 9 := ⟨by rw [eW_b1.1]; simp only [hW, List.append_assoc, List.append_nil, List.nil_append], by rw [List.length_append, (eW_b1 (g := g)).2] <;> rfl⟩
theorem eW_c9 {g : zG} {q : Nat → Nat} {e : ED} : ([9, 10, 11, 12, 13, 14] : List Nat).map (fun i => (eW g q e)[i]?) = (lW g (fun j => (fun j => q (1 + j)) (8 + j)) (h_lo (e_now e))).map some := zget_m ((eW0 q e) ++ (hW0 g (fun j => q (1 + j)) (e_now e))) (lW g (fun j => (fun j => q (1 + j)) (8 + j)) (h_lo (e_now e))) ((pW g (fun j => (fun j => q (1 + j)) (14 + j)) (h_pl (e_now e))) ++ (hW g (fun j => q (22 + j)) (e_tri e) ++ (yW0 g (fun j => q (43 + j)) (e_his e) ++ (hsW g (fun j => q (43 + (2 + j))) (y_st (e_his e)) 0 7 ++ (eWm g q e ++ (aW g (fun j => q (194 + j)) (e_pad e) ++ (hsW g (fun j => q (198 + j)) (e_sl e) 0 2))))))) eW_d9.1 (by rw [(eW_d9 (g := g)).2] <;> rfl)
theorem eW_r9 {g : zG} {q : Nat → Nat} {e : ED} {v : LD} : zrep (eW g q e) [9, 10, 11, 12, 13, 14] (lW g (fun j => (fun j => q (1 + j)) (8 + j)) v) = eW g q (e_snow e (h_slo (e_now e) v)) := zrep_m ((eW0 q e) ++ (hW0 g (fun j => q (1 + j)) (e_now e))) (lW g (fun j => (fun j => q (1 + j)) (8 + j)) (h_lo (e_now e))) ((pW g (fun j => (fun j => q (1 + j)) (14 + j)) (h_pl (e_now e))) ++ (hW g (fun j => q (22 + j)) (e_tri e) ++ (yW0 g (fun j => q (43 + j)) (e_his e) ++ (hsW g (fun j => q (43 + (2 + j))) (y_st (e_his e)) 0 7 ++ (eWm g q e ++ (aW g (fun j => q (194 + j)) (e_pad e) ++ (hsW g (fun j => q (198 + j)) (e_sl e) 0 2))))))) eW_d9.1 (by rw [(eW_d9 (g := g)).2] <;> rfl) rfl (by rw [eW_b1.1]; simp only [hW, List.append_assoc, List.append_nil, List.nil_append] <;> rfl)
theorem eW_r9o {g : zG} {q : Nat → Nat} {e : ED} : zrep (eW g q e) [9, 10, 11, 12, 13, 14] (lW g (fun j => (fun j => q (1 + j)) (8 + j)) (h_lo (e_now e))) = eW g q e := eW_r9
theorem eW_n9 : va_nd [9, 10, 11, 12, 13, 14] = true := zfrom_nd 6 9
theorem eW_d15 {g : zG} {q : Nat → Nat} {e : ED} : eW g q e = ((eW0 q e) ++ (hW0 g (fun j => q (1 + j)) (e_now e) ++ lW g (fun j => (fun j => q (1 + j)) (8 + j)) (h_lo (e_now e)))) ++ ((pW g (fun j => (fun j => q (1 + j)) (14 + j)) (h_pl (e_now e))) ++ (([]) ++ (hW g (fun j => q (22 + j)) (e_tri e) ++ (yW0 g (fun j => q (43 + j)) (e_his e) ++ (hsW g (fun j => q (43 + (2 + j))) (y_st (e_his e)) 0 7 ++ (eWm g q e ++ (aW g (fun j => q (194 + j)) (e_pad e) ++ (hsW g (fun j => q (198 + j)) (e_sl e) 0 2)))))))) ∧ (((eW0 q e) ++ (hW0 g (fun j => q (1 + j)) (e_now e) ++ lW g (fun j => (fun j => q (1 + j)) (8 + j)) (h_lo (e_now e)))) : va_W).length = 15 := ⟨by rw [eW_b1.1]; simp only [hW, List.append_assoc, List.append_nil, List.nil_append], by rw [List.length_append, (eW_b1 (g := g)).2] <;> rfl⟩
theorem eW_c15 {g : zG} {q : Nat → Nat} {e : ED} : ([15, 16, 17, 18, 19, 20, 21] : List Nat).map (fun i => (eW g q e)[i]?) = (pW g (fun j => (fun j => q (1 + j)) (14 + j)) (h_pl (e_now e))).map some := zget_m ((eW0 q e) ++ (hW0 g (fun j => q (1 + j)) (e_now e) ++ lW g (fun j => (fun j => q (1 + j)) (8 + j)) (h_lo (e_now e)))) (pW g (fun j => (fun j => q (1 + j)) (14 + j)) (h_pl (e_now e))) (([]) ++ (hW g (fun j => q (22 + j)) (e_tri e) ++ (yW0 g (fun j => q (43 + j)) (e_his e) ++ (hsW g (fun j => q (43 + (2 + j))) (y_st (e_his e)) 0 7 ++ (eWm g q e ++ (aW g (fun j => q (194 + j)) (e_pad e) ++ (hsW g (fun j => q (198 + j)) (e_sl e) 0 2))))))) eW_d15.1 (by rw [(eW_d15 (g := g)).2] <;> rfl)
theorem eW_r15 {g : zG} {q : Nat → Nat} {e : ED} {v : PD} : zrep (eW g q e) [15, 16, 17, 18, 19, 20, 21] (pW g (fun j => (fun j => q (1 + j)) (14 + j)) v) = eW g q (e_snow e (h_spl (e_now e) v)) := zrep_m ((eW0 q e) ++ (hW0 g (fun j => q (1 + j)) (e_now e) ++ lW g (fun j => (fun j => q (1 + j)) (8 + j)) (h_lo (e_now e)))) (pW g (fun j => (fun j => q (1 + j)) (14 + j)) (h_pl (e_now e))) (([]) ++ (hW g (fun j => q (22 + j)) (e_tri e) ++ (yW0 g (fun j => q (43 + j)) (e_his e) ++ (hsW g (fun j => q (43 + (2 + j))) (y_st (e_his e)) 0 7 ++ (eWm g q e ++ (aW g (fun j => q (194 + j)) (e_pad e) ++ (hsW g (fun j => q (198 + j)) (e_sl e) 0 2))))))) eW_d15.1 (by rw [(eW_d15 (g := g)).2] <;> rfl) rfl (by rw [eW_b1.1]; simp only [hW, List.append_assoc, List.append_nil, List.nil_append] <;> rfl)
theorem eW_r15o {g : zG} {q : Nat → Nat} {e : ED} : zrep (eW g q e) [15, 16, 17, 18, 19, 20, 21] (pW g (fun j => (fun j => q (1 + j)) (14 + j)) (h_pl (e_now e))) = eW g q e := eW_r15
theorem eW_n15 : va_nd [15, 16, 17, 18, 19, 20, 21] = true := zfrom_nd 7 15
theorem eW_d30 {g : zG} {q : Nat → Nat} {e : ED} : eW g q e = ((eW0 q e ++ (hW g (fun j => q (1 + j)) (e_now e))) ++ (hW0 g (fun j => q (22 + j)) (e_tri e))) ++ ((lW g (fun j => (fun j => q (22 + j)) (8 + j)) (h_lo (e_tri e))) ++ ((pW g (fun j => (fun j => q (22 + j)) (14 + j)) (h_pl (e_tri e))) ++ (yW0 g (fun j => q (43 + j)) (e_his e) ++ (hsW g (fun j => q (43 + (2 + j))) (y_st (e_his e)) 0 7 ++ (eWm g q e ++ (aW g (fun j => q (194 + j)) (e_pad e) ++ (hsW g (fun j => q (198 + j)) (e_sl e) 0 2))))))) ∧ (((eW0 q e ++ (hW g (fun j => q (1 + j)) (e_now e))) ++ (hW0 g (fun j => q (22 + j)) (e_tri e))) : va_W).length = 30 := ⟨by rw [eW_b2.1]; simp only [hW, List.append_assoc, List.append_nil, List.nil_append], by rw [List.length_append, (eW_b2 (g := g)).2] <;> rfl⟩
theorem eW_c30 {g : zG} {q : Nat → Nat} {e : ED} : ([30, 31, 32, 33, 34, 35] : List Nat).map (fun i => (eW g q e)[i]?) = (lW g (fun j => (fun j => q (22 + j)) (8 + j)) (h_lo (e_tri e))).map some := zget_m ((eW0 q e ++ (hW g (fun j => q (1 + j)) (e_now e))) ++ (hW0 g (fun j => q (22 + j)) (e_tri e))) (lW g (fun j => (fun j => q (22 + j)) (8 + j)) (h_lo (e_tri e))) ((pW g (fun j => (fun j => q (22 + j)) (14 + j)) (h_pl (e_tri e))) ++ (yW0 g (fun j => q (43 + j)) (e_his e) ++ (hsW g (fun j => q (43 + (2 + j))) (y_st (e_his e)) 0 7 ++ (eWm g q e ++ (aW g (fun j => q (194 + j)) (e_pad e) ++ (hsW g (fun j => q (198 + j)) (e_sl e) 0 2)))))) eW_d30.1 (by rw [(eW_d30 (g := g)).2] <;> rfl)
theorem eW_r30 {g : zG} {q : Nat → Nat} {e : ED} {v : LD} : zrep (eW g q e) [30, 31, 32, 33, 34, 35] (lW g (fun j => (fun j => q (22 + j)) (8 + j)) v) = eW g q (e_stri e (h_slo (e_tri e) v)) := zrep_m ((eW0 q e ++ (hW g (fun j => q (1 + j)) (e_now e))) ++ (hW0 g (fun j => q (22 + j)) (e_tri e))) (lW g (fun j => (fun j => q (22 + j)) (8 + j)) (h_lo (e_tri e))) ((pW g (fun j => (fun j => q (22 + j)) (14 + j)) (h_pl (e_tri e))) ++ (yW0 g (fun j => q (43 + j)) (e_his e) ++ (hsW g (fun j => q (43 + (2 + j))) (y_st (e_his e)) 0 7 ++ (eWm g q e ++ (aW g (fun j => q (194 + j)) (e_pad e) ++ (hsW g (fun j => q (198 + j)) (e_sl e) 0 2)))))) eW_d30.1 (by rw [(eW_d30 (g := g)).2] <;> rfl) rfl (by rw [eW_b2.1]; simp only [hW, List.append_assoc, List.append_nil, List.nil_append] <;> rfl)
theorem eW_r30o {g : zG} {q : Nat → Nat} {e : ED} : zrep (eW g q e) [30, 31, 32, 33, 34, 35] (lW g (fun j => (fun j => q (22 + j)) (8 + j)) (h_lo (e_tri e))) = eW g q e := eW_r30
theorem eW_n30 : va_nd [30, 31, 32, 33, 34, 35] = true := zfrom_nd 6 30
theorem eW_d36 {g : zG} {q : Nat → Nat} {e : ED} : eW g q e = ((eW0 q e ++ (hW g (fun j => q (1 + j)) (e_now e))) ++ (hW0 g (fun j => q (22 + j)) (e_tri e) ++ lW g (fun j => (fun j => q (22 + j)) (8 + j)) (h_lo (e_tri e)))) ++ ((pW g (fun j => (fun j => q (22 + j)) (14 + j)) (h_pl (e_tri e))) ++ (([]) ++ (yW0 g (fun j => q (43 + j)) (e_his e) ++ (hsW g (fun j => q (43 + (2 + j))) (y_st (e_his e)) 0 7 ++ (eWm g q e ++ (aW g (fun j => q (194 + j)) (e_pad e) ++ (hsW g (fun j => q (198 + j)) (e_sl e) 0 2))))))) ∧ (((eW0 q e ++ (hW g (fun j => q (1 + j)) (e_now e))) ++ (hW0 g (fun j => q (22 + j)) (e_tri e) ++ lW g (fun j => (fun j => q (22 + j)) (8 + j)) (h_lo (e_tri e)))) : va_W).length = 36 := ⟨by rw [eW_b2.1]; simp only [hW, List.append_assoc, List.append_nil, List.nil_append], by rw [List.length_append, (eW_b2 (g := g)).2] <;> rfl⟩
theorem eW_c36 {g : zG} {q : Nat → Nat} {e : ED} : ([36, 37, 38, 39, 40, 41, 42] : List Nat).map (fun i => (eW g q e)[i]?) = (pW g (fun j => (fun j => q (22 + j)) (14 + j)) (h_pl (e_tri e))).map some := zget_m ((eW0 q e ++ (hW g (fun j => q (1 + j)) (e_now e))) ++ (hW0 g (fun j => q (22 + j)) (e_tri e) ++ lW g (fun j => (fun j => q (22 + j)) (8 + j)) (h_lo (e_tri e)))) (pW g (fun j => (fun j => q (22 + j)) (14 + j)) (h_pl (e_tri e))) (([]) ++ (yW0 g (fun j => q (43 + j)) (e_his e) ++ (hsW g (fun j => q (43 + (2 + j))) (y_st (e_his e)) 0 7 ++ (eWm g q e ++ (aW g (fun j => q (194 + j)) (e_pad e) ++ (hsW g (fun j => q (198 + j)) (e_sl e) 0 2)))))) eW_d36.1 (by rw [(eW_d36 (g := g)).2] <;> rfl)
theorem eW_r36 {g : zG} {q : Nat → Nat} {e : ED} {v : PD} : zrep (eW g q e) [36, 37, 38, 39, 40, 41, 42] (pW g (fun j => (fun j => q (22 + j)) (14 + j)) v) = eW g q (e_stri e (h_spl (e_tri e) v)) := zrep_m ((eW0 q e ++ (hW g (fun j => q (1 + j)) (e_now e))) ++ (hW0 g (fun j => q (22 + j)) (e_tri e) ++ lW g (fun j => (fun j => q (22 + j)) (8 + j)) (h_lo (e_tri e)))) (pW g (fun j => (fun j => q (22 + j)) (14 + j)) (h_pl (e_tri e))) (([]) ++ (yW0 g (fun j => q (43 + j)) (e_his e) ++ (hsW g (fun j => q (43 + (2 + j))) (y_st (e_his e)) 0 7 ++ (eWm g q e ++ (aW g (fun j => q (194 + j)) (e_pad e) ++ (hsW g (fun j => q (198 + j)) (e_sl e) 0 2)))))) eW_d36.1 (by rw [(eW_d36 (g := g)).2] <;> rfl) rfl (by rw [eW_b2.1]; simp only [hW, List.append_assoc, List.append_nil, List.nil_append] <;> rfl)
theorem eW_r36o {g : zG} {q : Nat → Nat} {e : ED} : zrep (eW g q e) [36, 37, 38, 39, 40, 41, 42] (pW g (fun j => (fun j => q (22 + j)) (14 + j)) (h_pl (e_tri e))) = eW g q e := eW_r36
theorem eW_n36 : va_nd [36, 37, 38, 39, 40, 41, 42] = true := zfrom_nd 7 36
end
