section
-- ===== PART A: goes FIRST, ahead of the names: the tables' words, and 'selects' of the private methods out of them =====
/-- a private method of a class that the tables say can be made, by its rows of tables_1 -/
def lw_okq (q : MethodName × Nat) : Prop := (q.1.cls ≠ "java/lang/invoke/MethodHandle" ∧ q.1.cls ≠ "java/lang/invoke/VarHandle") ∧ Cond.instantiable q.1.cls q.2 ∈ tables_1 ∧ Cond.privateMethod q.1 ∈ tables_1 ∧ Cond.instanceMethod q.1 ∈ tables_1
theorem lw_p0 : lw_okq (⟨"FourTenGates", "layText", "()Z"⟩, 13) := ⟨⟨by decide +kernel, by decide +kernel⟩, List.mem_of_getElem? (i := 15) (by decide +kernel), List.mem_of_getElem? (i := 257) (by decide +kernel), List.mem_of_getElem? (i := 258) (by decide +kernel)⟩
theorem lw_p1 : lw_okq (⟨"FourTenGates$Text", "readItem", "(ILFourTenGates$Book;)I"⟩, 3) := ⟨⟨by decide +kernel, by decide +kernel⟩, List.mem_of_getElem? (i := 23) (by decide +kernel), List.mem_of_getElem? (i := 273) (by decide +kernel), List.mem_of_getElem? (i := 274) (by decide +kernel)⟩
theorem lw_p2 : lw_okq (⟨"FourTenGates$Text", "letterAt", "(I)I"⟩, 3) := ⟨⟨by decide +kernel, by decide +kernel⟩, List.mem_of_getElem? (i := 23) (by decide +kernel), List.mem_of_getElem? (i := 277) (by decide +kernel), List.mem_of_getElem? (i := 278) (by decide +kernel)⟩
theorem lw_p3 : lw_okq (⟨"FourTenGates$Text", "readNumber", "(I)I"⟩, 3) := ⟨⟨by decide +kernel, by decide +kernel⟩, List.mem_of_getElem? (i := 23) (by decide +kernel), List.mem_of_getElem? (i := 281) (by decide +kernel), List.mem_of_getElem? (i := 282) (by decide +kernel)⟩
theorem lw_p4 : lw_okq (⟨"FourTenGates$Text", "isFigure", "(I)Z"⟩, 3) := ⟨⟨by decide +kernel, by decide +kernel⟩, List.mem_of_getElem? (i := 23) (by decide +kernel), List.mem_of_getElem? (i := 285) (by decide +kernel), List.mem_of_getElem? (i := 286) (by decide +kernel)⟩
theorem lw_p5 : lw_okq (⟨"FourTenGates$Book", "takeGates", "(I)Z"⟩, 9) := ⟨⟨by decide +kernel, by decide +kernel⟩, List.mem_of_getElem? (i := 40) (by decide +kernel), List.mem_of_getElem? (i := 309) (by decide +kernel), List.mem_of_getElem? (i := 310) (by decide +kernel)⟩
theorem lw_p6 : lw_okq (⟨"FourTenGates$Book", "takeStopCost", "(I)Z"⟩, 9) := ⟨⟨by decide +kernel, by decide +kernel⟩, List.mem_of_getElem? (i := 40) (by decide +kernel), List.mem_of_getElem? (i := 313) (by decide +kernel), List.mem_of_getElem? (i := 314) (by decide +kernel)⟩
theorem lw_p7 : lw_okq (⟨"FourTenGates$Book", "takeWaitCost", "(II)Z"⟩, 9) := ⟨⟨by decide +kernel, by decide +kernel⟩, List.mem_of_getElem? (i := 40) (by decide +kernel), List.mem_of_getElem? (i := 317) (by decide +kernel), List.mem_of_getElem? (i := 318) (by decide +kernel)⟩
theorem lw_p8 : lw_okq (⟨"FourTenGates$Book", "takePatience", "(II)Z"⟩, 9) := ⟨⟨by decide +kernel, by decide +kernel⟩, List.mem_of_getElem? (i := 40) (by decide +kernel), List.mem_of_getElem? (i := 321) (by decide +kernel), List.mem_of_getElem? (i := 322) (by decide +kernel)⟩
theorem lw_p9 : lw_okq (⟨"FourTenGates", "outdateHours", "()V"⟩, 13) := ⟨⟨by decide +kernel, by decide +kernel⟩, List.mem_of_getElem? (i := 15) (by decide +kernel), List.mem_of_getElem? (i := 389) (by decide +kernel), List.mem_of_getElem? (i := 390) (by decide +kernel)⟩
theorem lw_p10 : lw_okq (⟨"FourTenGates", "isTrain", "(I)Z"⟩, 13) := ⟨⟨by decide +kernel, by decide +kernel⟩, List.mem_of_getElem? (i := 15) (by decide +kernel), List.mem_of_getElem? (i := 467) (by decide +kernel), List.mem_of_getElem? (i := 468) (by decide +kernel)⟩
theorem lw_p11 : lw_okq (⟨"FourTenGates", "bellOf", "(I)I"⟩, 13) := ⟨⟨by decide +kernel, by decide +kernel⟩, List.mem_of_getElem? (i := 15) (by decide +kernel), List.mem_of_getElem? (i := 478) (by decide +kernel), List.mem_of_getElem? (i := 479) (by decide +kernel)⟩
theorem lw_p12 : lw_okq (⟨"FourTenGates", "isUser", "(I)Z"⟩, 13) := ⟨⟨by decide +kernel, by decide +kernel⟩, List.mem_of_getElem? (i := 15) (by decide +kernel), List.mem_of_getElem? (i := 497) (by decide +kernel), List.mem_of_getElem? (i := 498) (by decide +kernel)⟩
theorem lw_p13 : lw_okq (⟨"FourTenGates", "hourBy", "(I)LFourTenGates$Hour;"⟩, 13) := ⟨⟨by decide +kernel, by decide +kernel⟩, List.mem_of_getElem? (i := 15) (by decide +kernel), List.mem_of_getElem? (i := 511) (by decide +kernel), List.mem_of_getElem? (i := 512) (by decide +kernel)⟩
theorem lw_p14 : lw_okq (⟨"FourTenGates$Hour", "beginTrains", "(I)V"⟩, 19) := ⟨⟨by decide +kernel, by decide +kernel⟩, List.mem_of_getElem? (i := 119) (by decide +kernel), List.mem_of_getElem? (i := 524) (by decide +kernel), List.mem_of_getElem? (i := 525) (by decide +kernel)⟩
theorem lw_p15 : lw_okq (⟨"FourTenGates$Hour", "beginUsers", "()V"⟩, 19) := ⟨⟨by decide +kernel, by decide +kernel⟩, List.mem_of_getElem? (i := 119) (by decide +kernel), List.mem_of_getElem? (i := 533) (by decide +kernel), List.mem_of_getElem? (i := 534) (by decide +kernel)⟩
def lw_privs_1 : List (MethodName × Nat) := [(⟨"FourTenGates", "layText", "()Z"⟩, 13), (⟨"FourTenGates$Text", "readItem", "(ILFourTenGates$Book;)I"⟩, 3), (⟨"FourTenGates$Text", "letterAt", "(I)I"⟩, 3), (⟨"FourTenGates$Text", "readNumber", "(I)I"⟩, 3), (⟨"FourTenGates$Text", "isFigure", "(I)Z"⟩, 3), (⟨"FourTenGates$Book", "takeGates", "(I)Z"⟩, 9), (⟨"FourTenGates$Book", "takeStopCost", "(I)Z"⟩, 9), (⟨"FourTenGates$Book", "takeWaitCost", "(II)Z"⟩, 9), (⟨"FourTenGates$Book", "takePatience", "(II)Z"⟩, 9), (⟨"FourTenGates", "outdateHours", "()V"⟩, 13), (⟨"FourTenGates", "isTrain", "(I)Z"⟩, 13), (⟨"FourTenGates", "bellOf", "(I)I"⟩, 13), (⟨"FourTenGates", "isUser", "(I)Z"⟩, 13), (⟨"FourTenGates", "hourBy", "(I)LFourTenGates$Hour;"⟩, 13), (⟨"FourTenGates$Hour", "beginTrains", "(I)V"⟩, 19), (⟨"FourTenGates$Hour", "beginUsers", "()V"⟩, 19)]
theorem lw_r1 : ∀ q ∈ lw_privs_1, lw_okq q := List.forall_mem_cons.mpr ⟨lw_p0, List.forall_mem_cons.mpr ⟨lw_p1, List.forall_mem_cons.mpr ⟨lw_p2, List.forall_mem_cons.mpr ⟨lw_p3, List.forall_mem_cons.mpr ⟨lw_p4, List.forall_mem_cons.mpr ⟨lw_p5, List.forall_mem_cons.mpr ⟨lw_p6, List.forall_mem_cons.mpr ⟨lw_p7, List.forall_mem_cons.mpr ⟨lw_p8, List.forall_mem_cons.mpr ⟨lw_p9, List.forall_mem_cons.mpr ⟨lw_p10, List.forall_mem_cons.mpr ⟨lw_p11, List.forall_mem_cons.mpr ⟨lw_p12, List.forall_mem_cons.mpr ⟨lw_p13, List.forall_mem_cons.mpr ⟨lw_p14, List.forall_mem_cons.mpr ⟨lw_p15, fun _ h => absurd h List.not_mem_nil⟩⟩⟩⟩⟩⟩⟩⟩⟩⟩⟩⟩⟩⟩⟩⟩
theorem lw_p16 : lw_okq (⟨"FourTenGates$Hour", "beginGates", "()V"⟩, 19) := ⟨⟨by decide +kernel, by decide +kernel⟩, List.mem_of_getElem? (i := 119) (by decide +kernel), List.mem_of_getElem? (i := 537) (by decide +kernel), List.mem_of_getElem? (i := 538) (by decide +kernel)⟩
theorem lw_p17 : lw_okq (⟨"FourTenGates$Hour", "moveGates", "()V"⟩, 19) := ⟨⟨by decide +kernel, by decide +kernel⟩, List.mem_of_getElem? (i := 119) (by decide +kernel), List.mem_of_getElem? (i := 541) (by decide +kernel), List.mem_of_getElem? (i := 542) (by decide +kernel)⟩
theorem lw_p18 : lw_okq (⟨"FourTenGates$Hour", "turnGates", "(I)V"⟩, 19) := ⟨⟨by decide +kernel, by decide +kernel⟩, List.mem_of_getElem? (i := 119) (by decide +kernel), List.mem_of_getElem? (i := 546) (by decide +kernel), List.mem_of_getElem? (i := 547) (by decide +kernel)⟩
theorem lw_p19 : lw_okq (⟨"FourTenGates$Hour", "wantsShut", "(I)Z"⟩, 19) := ⟨⟨by decide +kernel, by decide +kernel⟩, List.mem_of_getElem? (i := 119) (by decide +kernel), List.mem_of_getElem? (i := 550) (by decide +kernel), List.mem_of_getElem? (i := 551) (by decide +kernel)⟩
theorem lw_p20 : lw_okq (⟨"FourTenGates$Hour", "isTrainInSight", "(I)Z"⟩, 19) := ⟨⟨by decide +kernel, by decide +kernel⟩, List.mem_of_getElem? (i := 119) (by decide +kernel), List.mem_of_getElem? (i := 560) (by decide +kernel), List.mem_of_getElem? (i := 561) (by decide +kernel)⟩
theorem lw_p21 : lw_okq (⟨"FourTenGates$Hour", "isTrainAwaited", "(I)Z"⟩, 19) := ⟨⟨by decide +kernel, by decide +kernel⟩, List.mem_of_getElem? (i := 119) (by decide +kernel), List.mem_of_getElem? (i := 564) (by decide +kernel), List.mem_of_getElem? (i := 565) (by decide +kernel)⟩
theorem lw_p22 : lw_okq (⟨"FourTenGates$Hour", "hasPassed", "(II)Z"⟩, 19) := ⟨⟨by decide +kernel, by decide +kernel⟩, List.mem_of_getElem? (i := 119) (by decide +kernel), List.mem_of_getElem? (i := 568) (by decide +kernel), List.mem_of_getElem? (i := 569) (by decide +kernel)⟩
theorem lw_p23 : lw_okq (⟨"FourTenGates$Hour", "isTrainDueByBook", "(I)Z"⟩, 19) := ⟨⟨by decide +kernel, by decide +kernel⟩, List.mem_of_getElem? (i := 119) (by decide +kernel), List.mem_of_getElem? (i := 572) (by decide +kernel), List.mem_of_getElem? (i := 573) (by decide +kernel)⟩
theorem lw_p24 : lw_okq (⟨"FourTenGates$Hour", "startMoving", "(I)V"⟩, 19) := ⟨⟨by decide +kernel, by decide +kernel⟩, List.mem_of_getElem? (i := 119) (by decide +kernel), List.mem_of_getElem? (i := 578) (by decide +kernel), List.mem_of_getElem? (i := 579) (by decide +kernel)⟩
theorem lw_p25 : lw_okq (⟨"FourTenGates$Hour", "runTrains", "(I)V"⟩, 19) := ⟨⟨by decide +kernel, by decide +kernel⟩, List.mem_of_getElem? (i := 119) (by decide +kernel), List.mem_of_getElem? (i := 582) (by decide +kernel), List.mem_of_getElem? (i := 583) (by decide +kernel)⟩
theorem lw_p26 : lw_okq (⟨"FourTenGates$Hour", "runUsers", "(I)V"⟩, 19) := ⟨⟨by decide +kernel, by decide +kernel⟩, List.mem_of_getElem? (i := 119) (by decide +kernel), List.mem_of_getElem? (i := 587) (by decide +kernel), List.mem_of_getElem? (i := 588) (by decide +kernel)⟩
theorem lw_p27 : lw_okq (⟨"FourTenGates$Hour", "meetUsers", "(I)V"⟩, 19) := ⟨⟨by decide +kernel, by decide +kernel⟩, List.mem_of_getElem? (i := 119) (by decide +kernel), List.mem_of_getElem? (i := 591) (by decide +kernel), List.mem_of_getElem? (i := 592) (by decide +kernel)⟩
theorem lw_p28 : lw_okq (⟨"FourTenGates$Hour", "firstToCross", "()I"⟩, 19) := ⟨⟨by decide +kernel, by decide +kernel⟩, List.mem_of_getElem? (i := 119) (by decide +kernel), List.mem_of_getElem? (i := 595) (by decide +kernel), List.mem_of_getElem? (i := 596) (by decide +kernel)⟩
theorem lw_p29 : lw_okq (⟨"FourTenGates$Hour", "isWaiting", "(I)Z"⟩, 19) := ⟨⟨by decide +kernel, by decide +kernel⟩, List.mem_of_getElem? (i := 119) (by decide +kernel), List.mem_of_getElem? (i := 599) (by decide +kernel), List.mem_of_getElem? (i := 600) (by decide +kernel)⟩
theorem lw_p30 : lw_okq (⟨"FourTenGates$Hour", "canCross", "(I)Z"⟩, 19) := ⟨⟨by decide +kernel, by decide +kernel⟩, List.mem_of_getElem? (i := 119) (by decide +kernel), List.mem_of_getElem? (i := 603) (by decide +kernel), List.mem_of_getElem? (i := 604) (by decide +kernel)⟩
theorem lw_p31 : lw_okq (⟨"FourTenGates$Hour", "letCross", "(II)V"⟩, 19) := ⟨⟨by decide +kernel, by decide +kernel⟩, List.mem_of_getElem? (i := 119) (by decide +kernel), List.mem_of_getElem? (i := 607) (by decide +kernel), List.mem_of_getElem? (i := 608) (by decide +kernel)⟩
def lw_privs_2 : List (MethodName × Nat) := [(⟨"FourTenGates$Hour", "beginGates", "()V"⟩, 19), (⟨"FourTenGates$Hour", "moveGates", "()V"⟩, 19), (⟨"FourTenGates$Hour", "turnGates", "(I)V"⟩, 19), (⟨"FourTenGates$Hour", "wantsShut", "(I)Z"⟩, 19), (⟨"FourTenGates$Hour", "isTrainInSight", "(I)Z"⟩, 19), (⟨"FourTenGates$Hour", "isTrainAwaited", "(I)Z"⟩, 19), (⟨"FourTenGates$Hour", "hasPassed", "(II)Z"⟩, 19), (⟨"FourTenGates$Hour", "isTrainDueByBook", "(I)Z"⟩, 19), (⟨"FourTenGates$Hour", "startMoving", "(I)V"⟩, 19), (⟨"FourTenGates$Hour", "runTrains", "(I)V"⟩, 19), (⟨"FourTenGates$Hour", "runUsers", "(I)V"⟩, 19), (⟨"FourTenGates$Hour", "meetUsers", "(I)V"⟩, 19), (⟨"FourTenGates$Hour", "firstToCross", "()I"⟩, 19), (⟨"FourTenGates$Hour", "isWaiting", "(I)Z"⟩, 19), (⟨"FourTenGates$Hour", "canCross", "(I)Z"⟩, 19), (⟨"FourTenGates$Hour", "letCross", "(II)V"⟩, 19)]
theorem lw_r2 : ∀ q ∈ lw_privs_2, lw_okq q := List.forall_mem_cons.mpr ⟨lw_p16, List.forall_mem_cons.mpr ⟨lw_p17, List.forall_mem_cons.mpr ⟨lw_p18, List.forall_mem_cons.mpr ⟨lw_p19, List.forall_mem_cons.mpr ⟨lw_p20, List.forall_mem_cons.mpr ⟨lw_p21, List.forall_mem_cons.mpr ⟨lw_p22, List.forall_mem_cons.mpr ⟨lw_p23, List.forall_mem_cons.mpr ⟨lw_p24, List.forall_mem_cons.mpr ⟨lw_p25, List.forall_mem_cons.mpr ⟨lw_p26, List.forall_mem_cons.mpr ⟨lw_p27, List.forall_mem_cons.mpr ⟨lw_p28, List.forall_mem_cons.mpr ⟨lw_p29, List.forall_mem_cons.mpr ⟨lw_p30, List.forall_mem_cons.mpr ⟨lw_p31, fun _ h => absurd h List.not_mem_nil⟩⟩⟩⟩⟩⟩⟩⟩⟩⟩⟩⟩⟩⟩⟩⟩
theorem lw_p32 : lw_okq (⟨"FourTenGates$Hour", "payForWait", "(II)V"⟩, 19) := ⟨⟨by decide +kernel, by decide +kernel⟩, List.mem_of_getElem? (i := 119) (by decide +kernel), List.mem_of_getElem? (i := 614) (by decide +kernel), List.mem_of_getElem? (i := 615) (by decide +kernel)⟩
theorem lw_p33 : lw_okq (⟨"FourTenGates", "beginChange", "()V"⟩, 13) := ⟨⟨by decide +kernel, by decide +kernel⟩, List.mem_of_getElem? (i := 15) (by decide +kernel), List.mem_of_getElem? (i := 669) (by decide +kernel), List.mem_of_getElem? (i := 670) (by decide +kernel)⟩
theorem lw_p34 : lw_okq (⟨"FourTenGates$Pile", "dropLowest", "()V"⟩, 2) := ⟨⟨by decide +kernel, by decide +kernel⟩, List.mem_of_getElem? (i := 183) (by decide +kernel), List.mem_of_getElem? (i := 681) (by decide +kernel), List.mem_of_getElem? (i := 682) (by decide +kernel)⟩
theorem lw_p35 : lw_okq (⟨"FourTenGates", "findLead", "()V"⟩, 13) := ⟨⟨by decide +kernel, by decide +kernel⟩, List.mem_of_getElem? (i := 15) (by decide +kernel), List.mem_of_getElem? (i := 729) (by decide +kernel), List.mem_of_getElem? (i := 730) (by decide +kernel)⟩
theorem lw_p36 : lw_okq (⟨"FourTenGates", "costIfLate", "(III)I"⟩, 13) := ⟨⟨by decide +kernel, by decide +kernel⟩, List.mem_of_getElem? (i := 15) (by decide +kernel), List.mem_of_getElem? (i := 738) (by decide +kernel), List.mem_of_getElem? (i := 739) (by decide +kernel)⟩
theorem lw_p37 : lw_okq (⟨"FourTenGates", "isAsSeen", "(LFourTenGates$Hour;)Z"⟩, 13) := ⟨⟨by decide +kernel, by decide +kernel⟩, List.mem_of_getElem? (i := 15) (by decide +kernel), List.mem_of_getElem? (i := 772) (by decide +kernel), List.mem_of_getElem? (i := 773) (by decide +kernel)⟩
theorem lw_p38 : lw_okq (⟨"FourTenGatesModel", "noHour", "(I)V"⟩, 38) := ⟨⟨by decide +kernel, by decide +kernel⟩, List.mem_of_getElem? (i := 812) (by decide +kernel), List.mem_of_getElem? (i := 818) (by decide +kernel), List.mem_of_getElem? (i := 819) (by decide +kernel)⟩
theorem lw_p39 : lw_okq (⟨"FourTenGatesModel", "addTrain", "(III)V"⟩, 38) := ⟨⟨by decide +kernel, by decide +kernel⟩, List.mem_of_getElem? (i := 812) (by decide +kernel), List.mem_of_getElem? (i := 822) (by decide +kernel), List.mem_of_getElem? (i := 823) (by decide +kernel)⟩
theorem lw_p40 : lw_okq (⟨"FourTenGatesModel", "addUser", "(III)V"⟩, 38) := ⟨⟨by decide +kernel, by decide +kernel⟩, List.mem_of_getElem? (i := 812) (by decide +kernel), List.mem_of_getElem? (i := 826) (by decide +kernel), List.mem_of_getElem? (i := 827) (by decide +kernel)⟩
theorem lw_p41 : lw_okq (⟨"FourTenGatesModel", "begin", "()V"⟩, 38) := ⟨⟨by decide +kernel, by decide +kernel⟩, List.mem_of_getElem? (i := 812) (by decide +kernel), List.mem_of_getElem? (i := 830) (by decide +kernel), List.mem_of_getElem? (i := 831) (by decide +kernel)⟩
theorem lw_p42 : lw_okq (⟨"FourTenGatesModel", "readAll", "()I"⟩, 38) := ⟨⟨by decide +kernel, by decide +kernel⟩, List.mem_of_getElem? (i := 812) (by decide +kernel), List.mem_of_getElem? (i := 967) (by decide +kernel), List.mem_of_getElem? (i := 968) (by decide +kernel)⟩
theorem lw_p43 : lw_okq (⟨"FourTenGatesModel", "item", "()Z"⟩, 38) := ⟨⟨by decide +kernel, by decide +kernel⟩, List.mem_of_getElem? (i := 812) (by decide +kernel), List.mem_of_getElem? (i := 971) (by decide +kernel), List.mem_of_getElem? (i := 972) (by decide +kernel)⟩
theorem lw_p44 : lw_okq (⟨"FourTenGatesModel", "letterAt", "(I)I"⟩, 38) := ⟨⟨by decide +kernel, by decide +kernel⟩, List.mem_of_getElem? (i := 812) (by decide +kernel), List.mem_of_getElem? (i := 975) (by decide +kernel), List.mem_of_getElem? (i := 976) (by decide +kernel)⟩
theorem lw_p45 : lw_okq (⟨"FourTenGatesModel", "figures", "(I)Z"⟩, 38) := ⟨⟨by decide +kernel, by decide +kernel⟩, List.mem_of_getElem? (i := 812) (by decide +kernel), List.mem_of_getElem? (i := 979) (by decide +kernel), List.mem_of_getElem? (i := 980) (by decide +kernel)⟩
theorem lw_p46 : lw_okq (⟨"FourTenGatesModel", "setTold", "(IIII)Z"⟩, 38) := ⟨⟨by decide +kernel, by decide +kernel⟩, List.mem_of_getElem? (i := 812) (by decide +kernel), List.mem_of_getElem? (i := 986) (by decide +kernel), List.mem_of_getElem? (i := 987) (by decide +kernel)⟩
theorem lw_p47 : lw_okq (⟨"FourTenGatesModel", "closingItem", "()Z"⟩, 38) := ⟨⟨by decide +kernel, by decide +kernel⟩, List.mem_of_getElem? (i := 812) (by decide +kernel), List.mem_of_getElem? (i := 990) (by decide +kernel), List.mem_of_getElem? (i := 991) (by decide +kernel)⟩
def lw_privs_3 : List (MethodName × Nat) := [(⟨"FourTenGates$Hour", "payForWait", "(II)V"⟩, 19), (⟨"FourTenGates", "beginChange", "()V"⟩, 13), (⟨"FourTenGates$Pile", "dropLowest", "()V"⟩, 2), (⟨"FourTenGates", "findLead", "()V"⟩, 13), (⟨"FourTenGates", "costIfLate", "(III)I"⟩, 13), (⟨"FourTenGates", "isAsSeen", "(LFourTenGates$Hour;)Z"⟩, 13), (⟨"FourTenGatesModel", "noHour", "(I)V"⟩, 38), (⟨"FourTenGatesModel", "addTrain", "(III)V"⟩, 38), (⟨"FourTenGatesModel", "addUser", "(III)V"⟩, 38), (⟨"FourTenGatesModel", "begin", "()V"⟩, 38), (⟨"FourTenGatesModel", "readAll", "()I"⟩, 38), (⟨"FourTenGatesModel", "item", "()Z"⟩, 38), (⟨"FourTenGatesModel", "letterAt", "(I)I"⟩, 38), (⟨"FourTenGatesModel", "figures", "(I)Z"⟩, 38), (⟨"FourTenGatesModel", "setTold", "(IIII)Z"⟩, 38), (⟨"FourTenGatesModel", "closingItem", "()Z"⟩, 38)]
theorem lw_r3 : ∀ q ∈ lw_privs_3, lw_okq q := List.forall_mem_cons.mpr ⟨lw_p32, List.forall_mem_cons.mpr ⟨lw_p33, List.forall_mem_cons.mpr ⟨lw_p34, List.forall_mem_cons.mpr ⟨lw_p35, List.forall_mem_cons.mpr ⟨lw_p36, List.forall_mem_cons.mpr ⟨lw_p37, List.forall_mem_cons.mpr ⟨lw_p38, List.forall_mem_cons.mpr ⟨lw_p39, List.forall_mem_cons.mpr ⟨lw_p40, List.forall_mem_cons.mpr ⟨lw_p41, List.forall_mem_cons.mpr ⟨lw_p42, List.forall_mem_cons.mpr ⟨lw_p43, List.forall_mem_cons.mpr ⟨lw_p44, List.forall_mem_cons.mpr ⟨lw_p45, List.forall_mem_cons.mpr ⟨lw_p46, List.forall_mem_cons.mpr ⟨lw_p47, fun _ h => absurd h List.not_mem_nil⟩⟩⟩⟩⟩⟩⟩⟩⟩⟩⟩⟩⟩⟩⟩⟩
theorem lw_p48 : lw_okq (⟨"FourTenGatesModel", "oddsItem", "()Z"⟩, 38) := ⟨⟨by decide +kernel, by decide +kernel⟩, List.mem_of_getElem? (i := 812) (by decide +kernel), List.mem_of_getElem? (i := 994) (by decide +kernel), List.mem_of_getElem? (i := 995) (by decide +kernel)⟩
theorem lw_p49 : lw_okq (⟨"FourTenGatesModel", "allOdds", "(I)I"⟩, 38) := ⟨⟨by decide +kernel, by decide +kernel⟩, List.mem_of_getElem? (i := 812) (by decide +kernel), List.mem_of_getElem? (i := 1002) (by decide +kernel), List.mem_of_getElem? (i := 1003) (by decide +kernel)⟩
theorem lw_p50 : lw_okq (⟨"FourTenGatesModel", "isTrain", "(I)Z"⟩, 38) := ⟨⟨by decide +kernel, by decide +kernel⟩, List.mem_of_getElem? (i := 812) (by decide +kernel), List.mem_of_getElem? (i := 1010) (by decide +kernel), List.mem_of_getElem? (i := 1011) (by decide +kernel)⟩
theorem lw_p51 : lw_okq (⟨"FourTenGatesModel", "bellOf", "(I)I"⟩, 38) := ⟨⟨by decide +kernel, by decide +kernel⟩, List.mem_of_getElem? (i := 812) (by decide +kernel), List.mem_of_getElem? (i := 1015) (by decide +kernel), List.mem_of_getElem? (i := 1016) (by decide +kernel)⟩
theorem lw_p52 : lw_okq (⟨"FourTenGatesModel", "comesAt", "(I)I"⟩, 38) := ⟨⟨by decide +kernel, by decide +kernel⟩, List.mem_of_getElem? (i := 812) (by decide +kernel), List.mem_of_getElem? (i := 1019) (by decide +kernel), List.mem_of_getElem? (i := 1020) (by decide +kernel)⟩
theorem lw_p53 : lw_okq (⟨"FourTenGatesModel", "isUser", "(I)Z"⟩, 38) := ⟨⟨by decide +kernel, by decide +kernel⟩, List.mem_of_getElem? (i := 812) (by decide +kernel), List.mem_of_getElem? (i := 1027) (by decide +kernel), List.mem_of_getElem? (i := 1028) (by decide +kernel)⟩
theorem lw_p54 : lw_okq (⟨"FourTenGatesModel", "goHour", "(II)V"⟩, 38) := ⟨⟨by decide +kernel, by decide +kernel⟩, List.mem_of_getElem? (i := 812) (by decide +kernel), List.mem_of_getElem? (i := 1039) (by decide +kernel), List.mem_of_getElem? (i := 1040) (by decide +kernel)⟩
theorem lw_p55 : lw_okq (⟨"FourTenGatesModel", "beginHour", "()V"⟩, 38) := ⟨⟨by decide +kernel, by decide +kernel⟩, List.mem_of_getElem? (i := 812) (by decide +kernel), List.mem_of_getElem? (i := 1043) (by decide +kernel), List.mem_of_getElem? (i := 1044) (by decide +kernel)⟩
theorem lw_p56 : lw_okq (⟨"FourTenGatesModel", "moveGates", "(III)V"⟩, 38) := ⟨⟨by decide +kernel, by decide +kernel⟩, List.mem_of_getElem? (i := 812) (by decide +kernel), List.mem_of_getElem? (i := 1047) (by decide +kernel), List.mem_of_getElem? (i := 1048) (by decide +kernel)⟩
theorem lw_p57 : lw_okq (⟨"FourTenGatesModel", "wantsShut", "(III)Z"⟩, 38) := ⟨⟨by decide +kernel, by decide +kernel⟩, List.mem_of_getElem? (i := 812) (by decide +kernel), List.mem_of_getElem? (i := 1051) (by decide +kernel), List.mem_of_getElem? (i := 1052) (by decide +kernel)⟩
theorem lw_p58 : lw_okq (⟨"FourTenGatesModel", "inPlan", "(I)Z"⟩, 38) := ⟨⟨by decide +kernel, by decide +kernel⟩, List.mem_of_getElem? (i := 812) (by decide +kernel), List.mem_of_getElem? (i := 1055) (by decide +kernel), List.mem_of_getElem? (i := 1056) (by decide +kernel)⟩
theorem lw_p59 : lw_okq (⟨"FourTenGatesModel", "inBell", "(I)Z"⟩, 38) := ⟨⟨by decide +kernel, by decide +kernel⟩, List.mem_of_getElem? (i := 812) (by decide +kernel), List.mem_of_getElem? (i := 1059) (by decide +kernel), List.mem_of_getElem? (i := 1060) (by decide +kernel)⟩
theorem lw_p60 : lw_okq (⟨"FourTenGatesModel", "hasPassed", "(II)Z"⟩, 38) := ⟨⟨by decide +kernel, by decide +kernel⟩, List.mem_of_getElem? (i := 812) (by decide +kernel), List.mem_of_getElem? (i := 1063) (by decide +kernel), List.mem_of_getElem? (i := 1064) (by decide +kernel)⟩
theorem lw_p61 : lw_okq (⟨"FourTenGatesModel", "inSight", "(I)Z"⟩, 38) := ⟨⟨by decide +kernel, by decide +kernel⟩, List.mem_of_getElem? (i := 812) (by decide +kernel), List.mem_of_getElem? (i := 1067) (by decide +kernel), List.mem_of_getElem? (i := 1068) (by decide +kernel)⟩
theorem lw_p62 : lw_okq (⟨"FourTenGatesModel", "isPassing", "(I)Z"⟩, 38) := ⟨⟨by decide +kernel, by decide +kernel⟩, List.mem_of_getElem? (i := 812) (by decide +kernel), List.mem_of_getElem? (i := 1071) (by decide +kernel), List.mem_of_getElem? (i := 1072) (by decide +kernel)⟩
theorem lw_p63 : lw_okq (⟨"FourTenGatesModel", "inWait", "(I)Z"⟩, 38) := ⟨⟨by decide +kernel, by decide +kernel⟩, List.mem_of_getElem? (i := 812) (by decide +kernel), List.mem_of_getElem? (i := 1075) (by decide +kernel), List.mem_of_getElem? (i := 1076) (by decide +kernel)⟩
def lw_privs_4 : List (MethodName × Nat) := [(⟨"FourTenGatesModel", "oddsItem", "()Z"⟩, 38), (⟨"FourTenGatesModel", "allOdds", "(I)I"⟩, 38), (⟨"FourTenGatesModel", "isTrain", "(I)Z"⟩, 38), (⟨"FourTenGatesModel", "bellOf", "(I)I"⟩, 38), (⟨"FourTenGatesModel", "comesAt", "(I)I"⟩, 38), (⟨"FourTenGatesModel", "isUser", "(I)Z"⟩, 38), (⟨"FourTenGatesModel", "goHour", "(II)V"⟩, 38), (⟨"FourTenGatesModel", "beginHour", "()V"⟩, 38), (⟨"FourTenGatesModel", "moveGates", "(III)V"⟩, 38), (⟨"FourTenGatesModel", "wantsShut", "(III)Z"⟩, 38), (⟨"FourTenGatesModel", "inPlan", "(I)Z"⟩, 38), (⟨"FourTenGatesModel", "inBell", "(I)Z"⟩, 38), (⟨"FourTenGatesModel", "hasPassed", "(II)Z"⟩, 38), (⟨"FourTenGatesModel", "inSight", "(I)Z"⟩, 38), (⟨"FourTenGatesModel", "isPassing", "(I)Z"⟩, 38), (⟨"FourTenGatesModel", "inWait", "(I)Z"⟩, 38)]
theorem lw_r4 : ∀ q ∈ lw_privs_4, lw_okq q := List.forall_mem_cons.mpr ⟨lw_p48, List.forall_mem_cons.mpr ⟨lw_p49, List.forall_mem_cons.mpr ⟨lw_p50, List.forall_mem_cons.mpr ⟨lw_p51, List.forall_mem_cons.mpr ⟨lw_p52, List.forall_mem_cons.mpr ⟨lw_p53, List.forall_mem_cons.mpr ⟨lw_p54, List.forall_mem_cons.mpr ⟨lw_p55, List.forall_mem_cons.mpr ⟨lw_p56, List.forall_mem_cons.mpr ⟨lw_p57, List.forall_mem_cons.mpr ⟨lw_p58, List.forall_mem_cons.mpr ⟨lw_p59, List.forall_mem_cons.mpr ⟨lw_p60, List.forall_mem_cons.mpr ⟨lw_p61, List.forall_mem_cons.mpr ⟨lw_p62, List.forall_mem_cons.mpr ⟨lw_p63, fun _ h => absurd h List.not_mem_nil⟩⟩⟩⟩⟩⟩⟩⟩⟩⟩⟩⟩⟩⟩⟩⟩
theorem lw_p64 : lw_okq (⟨"FourTenGatesModel", "inLead", "(II)Z"⟩, 38) := ⟨⟨by decide +kernel, by decide +kernel⟩, List.mem_of_getElem? (i := 812) (by decide +kernel), List.mem_of_getElem? (i := 1079) (by decide +kernel), List.mem_of_getElem? (i := 1080) (by decide +kernel)⟩
theorem lw_p65 : lw_okq (⟨"FourTenGatesModel", "goTrains", "(I)V"⟩, 38) := ⟨⟨by decide +kernel, by decide +kernel⟩, List.mem_of_getElem? (i := 812) (by decide +kernel), List.mem_of_getElem? (i := 1083) (by decide +kernel), List.mem_of_getElem? (i := 1084) (by decide +kernel)⟩
theorem lw_p66 : lw_okq (⟨"FourTenGatesModel", "goUsers", "(I)V"⟩, 38) := ⟨⟨by decide +kernel, by decide +kernel⟩, List.mem_of_getElem? (i := 812) (by decide +kernel), List.mem_of_getElem? (i := 1087) (by decide +kernel), List.mem_of_getElem? (i := 1088) (by decide +kernel)⟩
theorem lw_p67 : lw_okq (⟨"FourTenGatesModel", "nextUser", "(I)I"⟩, 38) := ⟨⟨by decide +kernel, by decide +kernel⟩, List.mem_of_getElem? (i := 812) (by decide +kernel), List.mem_of_getElem? (i := 1091) (by decide +kernel), List.mem_of_getElem? (i := 1092) (by decide +kernel)⟩
theorem lw_p68 : lw_okq (⟨"FourTenGatesModel", "isWaiting", "(II)Z"⟩, 38) := ⟨⟨by decide +kernel, by decide +kernel⟩, List.mem_of_getElem? (i := 812) (by decide +kernel), List.mem_of_getElem? (i := 1095) (by decide +kernel), List.mem_of_getElem? (i := 1096) (by decide +kernel)⟩
theorem lw_p69 : lw_okq (⟨"FourTenGatesModel", "canCross", "(I)Z"⟩, 38) := ⟨⟨by decide +kernel, by decide +kernel⟩, List.mem_of_getElem? (i := 812) (by decide +kernel), List.mem_of_getElem? (i := 1099) (by decide +kernel), List.mem_of_getElem? (i := 1100) (by decide +kernel)⟩
theorem lw_p70 : lw_okq (⟨"FourTenGatesModel", "costBy", "(II)I"⟩, 38) := ⟨⟨by decide +kernel, by decide +kernel⟩, List.mem_of_getElem? (i := 812) (by decide +kernel), List.mem_of_getElem? (i := 1123) (by decide +kernel), List.mem_of_getElem? (i := 1124) (by decide +kernel)⟩
theorem lw_p71 : lw_okq (⟨"FourTenGatesModel", "costNow", "()I"⟩, 38) := ⟨⟨by decide +kernel, by decide +kernel⟩, List.mem_of_getElem? (i := 812) (by decide +kernel), List.mem_of_getElem? (i := 1127) (by decide +kernel), List.mem_of_getElem? (i := 1128) (by decide +kernel)⟩
theorem lw_p72 : lw_okq (⟨"FourTenGatesModel", "note", "()V"⟩, 38) := ⟨⟨by decide +kernel, by decide +kernel⟩, List.mem_of_getElem? (i := 812) (by decide +kernel), List.mem_of_getElem? (i := 1136) (by decide +kernel), List.mem_of_getElem? (i := 1137) (by decide +kernel)⟩
def lw_privs_5 : List (MethodName × Nat) := [(⟨"FourTenGatesModel", "inLead", "(II)Z"⟩, 38), (⟨"FourTenGatesModel", "goTrains", "(I)V"⟩, 38), (⟨"FourTenGatesModel", "goUsers", "(I)V"⟩, 38), (⟨"FourTenGatesModel", "nextUser", "(I)I"⟩, 38), (⟨"FourTenGatesModel", "isWaiting", "(II)Z"⟩, 38), (⟨"FourTenGatesModel", "canCross", "(I)Z"⟩, 38), (⟨"FourTenGatesModel", "costBy", "(II)I"⟩, 38), (⟨"FourTenGatesModel", "costNow", "()I"⟩, 38), (⟨"FourTenGatesModel", "note", "()V"⟩, 38)]
theorem lw_r5 : ∀ q ∈ lw_privs_5, lw_okq q := List.forall_mem_cons.mpr ⟨lw_p64, List.forall_mem_cons.mpr ⟨lw_p65, List.forall_mem_cons.mpr ⟨lw_p66, List.forall_mem_cons.mpr ⟨lw_p67, List.forall_mem_cons.mpr ⟨lw_p68, List.forall_mem_cons.mpr ⟨lw_p69, List.forall_mem_cons.mpr ⟨lw_p70, List.forall_mem_cons.mpr ⟨lw_p71, List.forall_mem_cons.mpr ⟨lw_p72, fun _ h => absurd h List.not_mem_nil⟩⟩⟩⟩⟩⟩⟩⟩⟩
def lw_privs : List (MethodName × Nat) := lw_privs_1 ++ (lw_privs_2 ++ (lw_privs_3 ++ (lw_privs_4 ++ (lw_privs_5))))
def lw_tbl : List Cond := k2_sels lw_privs ++ tables_1
theorem lw_privs_ok : ∀ q ∈ lw_privs, lw_okq q := by
  show ∀ q ∈ lw_privs_1 ++ (lw_privs_2 ++ (lw_privs_3 ++ (lw_privs_4 ++ (lw_privs_5)))), lw_okq q
  exact List.forall_mem_append.mpr ⟨lw_r1, List.forall_mem_append.mpr ⟨lw_r2, List.forall_mem_append.mpr ⟨lw_r3, List.forall_mem_append.mpr ⟨lw_r4, lw_r5⟩⟩⟩⟩
end
section
def RX0 : String := "FourTenGates$Book"
def TX0 : u_T := fun k => match k with
  | 0 => ("FourTenGates$Book", "trains", "LFourTenGates$Pairs;", true)
  | 1 => ("FourTenGates$Book", "users", "LFourTenGates$Pairs;", true)
  | 2 => ("FourTenGates$Book", "closings", "LFourTenGates$Pairs;", true)
  | 3 => ("FourTenGates$Book", "odds", "LFourTenGates$Pairs;", true)
  | 4 => ("FourTenGates$Book", "waitCosts", "[I", true)
  | 5 => ("FourTenGates$Book", "gateBeats", "I", false)
  | 6 => ("FourTenGates$Book", "stopCost", "I", false)
  | 7 => ("FourTenGates$Book", "patience", "I", false)
  | _ => ("FourTenGates$Book", "roundCost", "I", false)
def tyX0 : Nat → FieldType := fun k => match k with
  | 0 => .object "FourTenGates$Pairs"
  | 1 => .object "FourTenGates$Pairs"
  | 2 => .object "FourTenGates$Pairs"
  | 3 => .object "FourTenGates$Pairs"
  | 4 => .array .int
  | 5 => .int
  | 6 => .int
  | 7 => .int
  | _ => .int
theorem nmX0 : ∀ a, a < 9 → ∀ b, b < 9 → a ≠ b → (TX0 a).2.1 ≠ (TX0 b).2.1 := by decide +kernel
theorem tyX0_ok : ∀ k, k < 9 → parseFieldDescriptor (TX0 k).2.2.1 = some (tyX0 k) := by decide +kernel
def RX1 : String := "FourTenGates$Hour"
def TX1 : u_T := fun k => match k with
  | 0 => ("FourTenGates$Hour", "book", "LFourTenGates$Book;", true)
  | 1 => ("FourTenGates$Hour", "stand", "LFourTenGates$Stand;", true)
  | 2 => ("FourTenGates$Hour", "gatesAtEnd", "[I", true)
  | 3 => ("FourTenGates$Hour", "comings", "[I", true)
  | 4 => ("FourTenGates$Hour", "wantedFrom", "[I", true)
  | 5 => ("FourTenGates$Hour", "begins", "[I", true)
  | 6 => ("FourTenGates$Hour", "stops", "[I", true)
  | 7 => ("FourTenGates$Hour", "crossings", "[I", true)
  | 8 => ("FourTenGates$Hour", "waits", "[I", true)
  | 9 => ("FourTenGates$Hour", "waitingBits", "I", false)
  | 10 => ("FourTenGates$Hour", "upToDate", "Z", false)
  | 11 => ("FourTenGates$Hour", "rule", "I", false)
  | 12 => ("FourTenGates$Hour", "total", "I", false)
  | 13 => ("FourTenGates$Hour", "gates", "I", false)
  | 14 => ("FourTenGates$Hour", "movedTo", "I", false)
  | 15 => ("FourTenGates$Hour", "moved", "I", false)
  | 16 => ("FourTenGates$Hour", "roadFreeFrom", "I", false)
  | 17 => ("FourTenGates$Hour", "railFreeFrom", "I", false)
  | _ => ("FourTenGates$Hour", "stoppedBefore", "Z", false)
def tyX1 : Nat → FieldType := fun k => match k with
  | 0 => .object "FourTenGates$Book"
  | 1 => .object "FourTenGates$Stand"
  | 2 => .array .int
  | 3 => .array .int
  | 4 => .array .int
  | 5 => .array .int
  | 6 => .array .int
  | 7 => .array .int
  | 8 => .array .int
  | 9 => .int
  | 10 => .boolean
  | 11 => .int
  | 12 => .int
  | 13 => .int
  | 14 => .int
  | 15 => .int
  | 16 => .int
  | 17 => .int
  | _ => .boolean
theorem nmX1 : ∀ a, a < 19 → ∀ b, b < 19 → a ≠ b → (TX1 a).2.1 ≠ (TX1 b).2.1 := by decide +kernel
theorem tyX1_ok : ∀ k, k < 19 → parseFieldDescriptor (TX1 k).2.2.1 = some (tyX1 k) := by decide +kernel
def RX2 : String := "FourTenGates$Pairs"
def TX2 : u_T := fun k => match k with
  | 0 => ("FourTenGates$Pairs", "firsts", "[I", true)
  | 1 => ("FourTenGates$Pairs", "seconds", "[I", true)
  | 2 => ("FourTenGates$Pairs", "limit", "I", true)
  | _ => ("FourTenGates$Pairs", "size", "I", false)
def tyX2 : Nat → FieldType := fun k => match k with
  | 0 => .array .int
  | 1 => .array .int
  | 2 => .int
  | _ => .int
theorem nmX2 : ∀ a, a < 4 → ∀ b, b < 4 → a ≠ b → (TX2 a).2.1 ≠ (TX2 b).2.1 := by decide +kernel
theorem tyX2_ok : ∀ k, k < 4 → parseFieldDescriptor (TX2 k).2.2.1 = some (tyX2 k) := by decide +kernel
def RX3 : String := "FourTenGates$Pile"
def TX3 : u_T := fun k => match k with
  | 0 => ("FourTenGates$Pile", "stands", "[LFourTenGates$Stand;", true)
  | _ => ("FourTenGates$Pile", "size", "I", false)
def tyX3 : Nat → FieldType := fun k => match k with
  | 0 => .array (.object "FourTenGates$Stand")
  | _ => .int
theorem nmX3 : ∀ a, a < 2 → ∀ b, b < 2 → a ≠ b → (TX3 a).2.1 ≠ (TX3 b).2.1 := by decide +kernel
theorem tyX3_ok : ∀ k, k < 2 → parseFieldDescriptor (TX3 k).2.2.1 = some (tyX3 k) := by decide +kernel
def RX4 : String := "FourTenGates$Stand"
def TX4 : u_T := fun k => match k with
  | 0 => ("FourTenGates$Stand", "closings", "LFourTenGates$Pairs;", true)
  | _ => ("FourTenGates$Stand", "minutesLate", "[I", true)
def tyX4 : Nat → FieldType := fun k => match k with
  | 0 => .object "FourTenGates$Pairs"
  | _ => .array .int
theorem nmX4 : ∀ a, a < 2 → ∀ b, b < 2 → a ≠ b → (TX4 a).2.1 ≠ (TX4 b).2.1 := by decide +kernel
theorem tyX4_ok : ∀ k, k < 2 → parseFieldDescriptor (TX4 k).2.2.1 = some (tyX4 k) := by decide +kernel
def RX5 : String := "FourTenGates$Text"
def TX5 : u_T := fun k => match k with
  | 0 => ("FourTenGates$Text", "letters", "[I", true)
  | 1 => ("FourTenGates$Text", "size", "I", false)
  | _ => ("FourTenGates$Text", "number", "I", false)
def tyX5 : Nat → FieldType := fun k => match k with
  | 0 => .array .int
  | 1 => .int
  | _ => .int
theorem nmX5 : ∀ a, a < 3 → ∀ b, b < 3 → a ≠ b → (TX5 a).2.1 ≠ (TX5 b).2.1 := by decide +kernel
theorem tyX5_ok : ∀ k, k < 3 → parseFieldDescriptor (TX5 k).2.2.1 = some (tyX5 k) := by decide +kernel
def RX6 : String := "FourTenGates"
def TX6 : u_T := fun k => match k with
  | 0 => ("FourTenGates", "text", "LFourTenGates$Text;", true)
  | 1 => ("FourTenGates", "book", "LFourTenGates$Book;", true)
  | 2 => ("FourTenGates", "draft", "LFourTenGates$Book;", true)
  | 3 => ("FourTenGates", "now", "LFourTenGates$Stand;", true)
  | 4 => ("FourTenGates", "trial", "LFourTenGates$Stand;", true)
  | 5 => ("FourTenGates", "hours", "[LFourTenGates$Hour;", true)
  | 6 => ("FourTenGates", "trialHour", "LFourTenGates$Hour;", true)
  | 7 => ("FourTenGates", "undoable", "LFourTenGates$Pile;", true)
  | 8 => ("FourTenGates", "kept", "LFourTenGates$Pile;", true)
  | 9 => ("FourTenGates", "sightings", "LFourTenGates$Pairs;", true)
  | 10 => ("FourTenGates", "leadKnown", "Z", false)
  | 11 => ("FourTenGates", "leadBeats", "I", false)
  | _ => ("FourTenGates", "leadCost", "I", false)
def tyX6 : Nat → FieldType := fun k => match k with
  | 0 => .object "FourTenGates$Text"
  | 1 => .object "FourTenGates$Book"
  | 2 => .object "FourTenGates$Book"
  | 3 => .object "FourTenGates$Stand"
  | 4 => .object "FourTenGates$Stand"
  | 5 => .array (.object "FourTenGates$Hour")
  | 6 => .object "FourTenGates$Hour"
  | 7 => .object "FourTenGates$Pile"
  | 8 => .object "FourTenGates$Pile"
  | 9 => .object "FourTenGates$Pairs"
  | 10 => .boolean
  | 11 => .int
  | _ => .int
theorem nmX6 : ∀ a, a < 13 → ∀ b, b < 13 → a ≠ b → (TX6 a).2.1 ≠ (TX6 b).2.1 := by decide +kernel
theorem tyX6_ok : ∀ k, k < 13 → parseFieldDescriptor (TX6 k).2.2.1 = some (tyX6 k) := by decide +kernel
def RX7 : String := "FourTenGatesModel"
def TX7 : u_T := fun k => match k with
  | 0 => ("FourTenGatesModel", "length", "I", false)
  | 1 => ("FourTenGatesModel", "text", "[I", true)
  | 2 => ("FourTenGatesModel", "trains", "[I", true)
  | 3 => ("FourTenGatesModel", "dues", "[I", true)
  | 4 => ("FourTenGatesModel", "kinds", "[I", true)
  | 5 => ("FourTenGatesModel", "users", "[I", true)
  | 6 => ("FourTenGatesModel", "comings", "[I", true)
  | 7 => ("FourTenGatesModel", "sorts", "[I", true)
  | 8 => ("FourTenGatesModel", "told1", "[I", true)
  | 9 => ("FourTenGatesModel", "worths", "[I", true)
  | 10 => ("FourTenGatesModel", "closings", "[I", true)
  | 11 => ("FourTenGatesModel", "froms", "[I", true)
  | 12 => ("FourTenGatesModel", "tos", "[I", true)
  | 13 => ("FourTenGatesModel", "odds", "[I", true)
  | 14 => ("FourTenGatesModel", "lates", "[I", true)
  | 15 => ("FourTenGatesModel", "chances", "[I", true)
  | 16 => ("FourTenGatesModel", "now", "[I", true)
  | 17 => ("FourTenGatesModel", "before", "[I", true)
  | 18 => ("FourTenGatesModel", "undoMany", "I", false)
  | 19 => ("FourTenGatesModel", "kept", "[I", true)
  | 20 => ("FourTenGatesModel", "keptMany", "I", false)
  | 21 => ("FourTenGatesModel", "seenMany", "I", false)
  | 22 => ("FourTenGatesModel", "seenBeat", "[I", true)
  | 23 => ("FourTenGatesModel", "seenHow", "[I", true)
  | 24 => ("FourTenGatesModel", "spot", "I", false)
  | 25 => ("FourTenGatesModel", "told", "[I", true)
  | 26 => ("FourTenGatesModel", "gateAt", "[I", true)
  | 27 => ("FourTenGatesModel", "began", "[I", true)
  | 28 => ("FourTenGatesModel", "stops", "[I", true)
  | 29 => ("FourTenGatesModel", "crosses", "[I", true)
  | 30 => ("FourTenGatesModel", "waits", "[I", true)
  | 31 => ("FourTenGatesModel", "isRound", "[Z", true)
  | 32 => ("FourTenGatesModel", "how", "I", false)
  | 33 => ("FourTenGatesModel", "moved", "I", false)
  | 34 => ("FourTenGatesModel", "isClosing", "Z", false)
  | 35 => ("FourTenGatesModel", "wasStopped", "Z", false)
  | 36 => ("FourTenGatesModel", "roadFree", "I", false)
  | _ => ("FourTenGatesModel", "waslate", "[I", true)
def tyX7 : Nat → FieldType := fun k => match k with
  | 0 => .int
  | 1 => .array .int
  | 2 => .array .int
  | 3 => .array .int
  | 4 => .array .int
  | 5 => .array .int
  | 6 => .array .int
  | 7 => .array .int
  | 8 => .array .int
  | 9 => .array .int
  | 10 => .array .int
  | 11 => .array .int
  | 12 => .array .int
  | 13 => .array .int
  | 14 => .array .int
  | 15 => .array .int
  | 16 => .array .int
  | 17 => .array .int
  | 18 => .int
  | 19 => .array .int
  | 20 => .int
  | 21 => .int
  | 22 => .array .int
  | 23 => .array .int
  | 24 => .int
  | 25 => .array .int
  | 26 => .array .int
  | 27 => .array .int
  | 28 => .array .int
  | 29 => .array .int
  | 30 => .array .int
  | 31 => .array .boolean
  | 32 => .int
  | 33 => .int
  | 34 => .boolean
  | 35 => .boolean
  | 36 => .int
  | _ => .array .int
theorem nmX7 : ∀ a, a < 38 → ∀ b, b < 38 → a ≠ b → (TX7 a).2.1 ≠ (TX7 b).2.1 := by decide +kernel
theorem tyX7_ok : ∀ k, k < 38 → parseFieldDescriptor (TX7 k).2.2.1 = some (tyX7 k) := by decide +kernel
abbrev cX0_init : ByteArray := prog_2_method_1_code
def yX0_init : MethodName := ⟨RX0, "<init>", "()V"⟩
abbrev cX0_gateBeats : ByteArray := prog_2_method_2_code
def yX0_gateBeats : MethodName := ⟨RX0, "gateBeats", "()I"⟩
abbrev cX0_stopCost : ByteArray := prog_2_method_3_code
def yX0_stopCost : MethodName := ⟨RX0, "stopCost", "()I"⟩
abbrev cX0_waitCost : ByteArray := prog_2_method_4_code
def yX0_waitCost : MethodName := ⟨RX0, "waitCost", "(I)I"⟩
abbrev cX0_patience : ByteArray := prog_2_method_5_code
def yX0_patience : MethodName := ⟨RX0, "patience", "()I"⟩
abbrev cX0_roundCost : ByteArray := prog_2_method_6_code
def yX0_roundCost : MethodName := ⟨RX0, "roundCost", "()I"⟩
abbrev cX0_begin : ByteArray := prog_2_method_7_code
def yX0_begin : MethodName := ⟨RX0, "begin", "()V"⟩
abbrev cX0_copy : ByteArray := prog_2_method_8_code
def yX0_copy : MethodName := ⟨RX0, "copy", "(LFourTenGates$Book;)V"⟩
abbrev cX0_canBeLaid : ByteArray := prog_2_method_9_code
def yX0_canBeLaid : MethodName := ⟨RX0, "canBeLaid", "()Z"⟩
abbrev cX0_take : ByteArray := prog_2_method_10_code
def yX0_take : MethodName := ⟨RX0, "take", "(III)Z"⟩
abbrev cX0_takeGates : ByteArray := prog_2_method_11_code
def yX0_takeGates : MethodName := ⟨RX0, "takeGates", "(I)Z"⟩
abbrev cX0_takeStopCost : ByteArray := prog_2_method_12_code
def yX0_takeStopCost : MethodName := ⟨RX0, "takeStopCost", "(I)Z"⟩
abbrev cX0_takeWaitCost : ByteArray := prog_2_method_13_code
def yX0_takeWaitCost : MethodName := ⟨RX0, "takeWaitCost", "(II)Z"⟩
abbrev cX0_takePatience : ByteArray := prog_2_method_14_code
def yX0_takePatience : MethodName := ⟨RX0, "takePatience", "(II)Z"⟩
abbrev cX1_init : ByteArray := prog_3_method_1_code
def yX1_init : MethodName := ⟨RX1, "<init>", "(LFourTenGates$Book;LFourTenGates$Stand;)V"⟩
abbrev cX1_isUpToDate : ByteArray := prog_3_method_2_code
def yX1_isUpToDate : MethodName := ⟨RX1, "isUpToDate", "()Z"⟩
abbrev cX1_outdate : ByteArray := prog_3_method_3_code
def yX1_outdate : MethodName := ⟨RX1, "outdate", "()V"⟩
abbrev cX1_gatesAt : ByteArray := prog_3_method_4_code
def yX1_gatesAt : MethodName := ⟨RX1, "gatesAt", "(I)I"⟩
abbrev cX1_beginOf : ByteArray := prog_3_method_5_code
def yX1_beginOf : MethodName := ⟨RX1, "beginOf", "(I)I"⟩
abbrev cX1_stopsOf : ByteArray := prog_3_method_6_code
def yX1_stopsOf : MethodName := ⟨RX1, "stopsOf", "(I)I"⟩
abbrev cX1_crossingOf : ByteArray := prog_3_method_7_code
def yX1_crossingOf : MethodName := ⟨RX1, "crossingOf", "(I)I"⟩
abbrev cX1_waitOf : ByteArray := prog_3_method_8_code
def yX1_waitOf : MethodName := ⟨RX1, "waitOf", "(I)I"⟩
abbrev cX1_total : ByteArray := prog_3_method_9_code
def yX1_total : MethodName := ⟨RX1, "total", "()I"⟩
abbrev cX1_allStops : ByteArray := prog_3_method_10_code
def yX1_allStops : MethodName := ⟨RX1, "allStops", "()I"⟩
abbrev cX1_run : ByteArray := prog_3_method_11_code
def yX1_run : MethodName := ⟨RX1, "run", "(III)V"⟩
abbrev cX1_beginTrains : ByteArray := prog_3_method_12_code
def yX1_beginTrains : MethodName := ⟨RX1, "beginTrains", "(I)V"⟩
abbrev cX1_beginUsers : ByteArray := prog_3_method_13_code
def yX1_beginUsers : MethodName := ⟨RX1, "beginUsers", "()V"⟩
abbrev cX1_beginGates : ByteArray := prog_3_method_14_code
def yX1_beginGates : MethodName := ⟨RX1, "beginGates", "()V"⟩
abbrev cX1_moveGates : ByteArray := prog_3_method_15_code
def yX1_moveGates : MethodName := ⟨RX1, "moveGates", "()V"⟩
abbrev cX1_turnGates : ByteArray := prog_3_method_16_code
def yX1_turnGates : MethodName := ⟨RX1, "turnGates", "(I)V"⟩
abbrev cX1_startMoving : ByteArray := prog_3_method_17_code
def yX1_startMoving : MethodName := ⟨RX1, "startMoving", "(I)V"⟩
abbrev cX1_wantsShut : ByteArray := prog_3_method_18_code
def yX1_wantsShut : MethodName := ⟨RX1, "wantsShut", "(I)Z"⟩
abbrev cX1_isTrainAwaited : ByteArray := prog_3_method_19_code
def yX1_isTrainAwaited : MethodName := ⟨RX1, "isTrainAwaited", "(I)Z"⟩
abbrev cX1_isTrainInSight : ByteArray := prog_3_method_20_code
def yX1_isTrainInSight : MethodName := ⟨RX1, "isTrainInSight", "(I)Z"⟩
abbrev cX1_isTrainDueByBook : ByteArray := prog_3_method_21_code
def yX1_isTrainDueByBook : MethodName := ⟨RX1, "isTrainDueByBook", "(I)Z"⟩
abbrev cX1_hasPassed : ByteArray := prog_3_method_22_code
def yX1_hasPassed : MethodName := ⟨RX1, "hasPassed", "(II)Z"⟩
abbrev cX1_runTrains : ByteArray := prog_3_method_23_code
def yX1_runTrains : MethodName := ⟨RX1, "runTrains", "(I)V"⟩
abbrev cX1_runUsers : ByteArray := prog_3_method_24_code
def yX1_runUsers : MethodName := ⟨RX1, "runUsers", "(I)V"⟩
abbrev cX1_meetUsers : ByteArray := prog_3_method_25_code
def yX1_meetUsers : MethodName := ⟨RX1, "meetUsers", "(I)V"⟩
abbrev cX1_isWaiting : ByteArray := prog_3_method_26_code
def yX1_isWaiting : MethodName := ⟨RX1, "isWaiting", "(I)Z"⟩
abbrev cX1_firstToCross : ByteArray := prog_3_method_27_code
def yX1_firstToCross : MethodName := ⟨RX1, "firstToCross", "()I"⟩
abbrev cX1_canCross : ByteArray := prog_3_method_28_code
def yX1_canCross : MethodName := ⟨RX1, "canCross", "(I)Z"⟩
abbrev cX1_letCross : ByteArray := prog_3_method_29_code
def yX1_letCross : MethodName := ⟨RX1, "letCross", "(II)V"⟩
abbrev cX1_beatsOnRoad : ByteArray := prog_3_method_30_code
def yX1_beatsOnRoad : MethodName := ⟨RX1, "beatsOnRoad", "(I)I"⟩
abbrev cX1_payForWait : ByteArray := prog_3_method_31_code
def yX1_payForWait : MethodName := ⟨RX1, "payForWait", "(II)V"⟩
abbrev cX2_init : ByteArray := prog_4_method_1_code
def yX2_init : MethodName := ⟨RX2, "<init>", "(I)V"⟩
abbrev cX2_size : ByteArray := prog_4_method_2_code
def yX2_size : MethodName := ⟨RX2, "size", "()I"⟩
abbrev cX2_isFull : ByteArray := prog_4_method_3_code
def yX2_isFull : MethodName := ⟨RX2, "isFull", "()Z"⟩
abbrev cX2_first : ByteArray := prog_4_method_4_code
def yX2_first : MethodName := ⟨RX2, "first", "(I)I"⟩
abbrev cX2_second : ByteArray := prog_4_method_5_code
def yX2_second : MethodName := ⟨RX2, "second", "(I)I"⟩
abbrev cX2_add : ByteArray := prog_4_method_6_code
def yX2_add : MethodName := ⟨RX2, "add", "(II)Z"⟩
abbrev cX2_remove : ByteArray := prog_4_method_7_code
def yX2_remove : MethodName := ⟨RX2, "remove", "(I)V"⟩
abbrev cX2_empty : ByteArray := prog_4_method_8_code
def yX2_empty : MethodName := ⟨RX2, "empty", "()I"⟩
abbrev cX2_copy : ByteArray := prog_4_method_9_code
def yX2_copy : MethodName := ⟨RX2, "copy", "(LFourTenGates$Pairs;)V"⟩
abbrev cX3_init : ByteArray := prog_5_method_1_code
def yX3_init : MethodName := ⟨RX3, "<init>", "(I)V"⟩
abbrev cX3_size : ByteArray := prog_5_method_2_code
def yX3_size : MethodName := ⟨RX3, "size", "()I"⟩
abbrev cX3_isFull : ByteArray := prog_5_method_3_code
def yX3_isFull : MethodName := ⟨RX3, "isFull", "()Z"⟩
abbrev cX3_empty : ByteArray := prog_5_method_4_code
def yX3_empty : MethodName := ⟨RX3, "empty", "()V"⟩
abbrev cX3_push : ByteArray := prog_5_method_5_code
def yX3_push : MethodName := ⟨RX3, "push", "(LFourTenGates$Stand;)V"⟩
abbrev cX3_pop : ByteArray := prog_5_method_6_code
def yX3_pop : MethodName := ⟨RX3, "pop", "(LFourTenGates$Stand;)Z"⟩
abbrev cX3_dropLowest : ByteArray := prog_5_method_7_code
def yX3_dropLowest : MethodName := ⟨RX3, "dropLowest", "()V"⟩
abbrev cX4_init : ByteArray := prog_6_method_1_code
def yX4_init : MethodName := ⟨RX4, "<init>", "()V"⟩
abbrev cX4_begin : ByteArray := prog_6_method_2_code
def yX4_begin : MethodName := ⟨RX4, "begin", "(LFourTenGates$Pairs;)V"⟩
abbrev cX4_copy : ByteArray := prog_6_method_3_code
def yX4_copy : MethodName := ⟨RX4, "copy", "(LFourTenGates$Stand;)V"⟩
abbrev cX4_lateOf : ByteArray := prog_6_method_4_code
def yX4_lateOf : MethodName := ⟨RX4, "lateOf", "(I)I"⟩
abbrev cX4_makeLate : ByteArray := prog_6_method_5_code
def yX4_makeLate : MethodName := ⟨RX4, "makeLate", "(II)V"⟩
abbrev cX4_comingOf : ByteArray := prog_6_method_6_code
def yX4_comingOf : MethodName := ⟨RX4, "comingOf", "(LFourTenGates$Pairs;I)I"⟩
abbrev cX4_isPlannedShut : ByteArray := prog_6_method_7_code
def yX4_isPlannedShut : MethodName := ⟨RX4, "isPlannedShut", "(I)Z"⟩
abbrev cX5_init : ByteArray := prog_7_method_1_code
def yX5_init : MethodName := ⟨RX5, "<init>", "()V"⟩
abbrev cX5_size : ByteArray := prog_7_method_2_code
def yX5_size : MethodName := ⟨RX5, "size", "()I"⟩
abbrev cX5_add : ByteArray := prog_7_method_3_code
def yX5_add : MethodName := ⟨RX5, "add", "(I)Z"⟩
abbrev cX5_empty : ByteArray := prog_7_method_4_code
def yX5_empty : MethodName := ⟨RX5, "empty", "()I"⟩
abbrev cX5_readInto : ByteArray := prog_7_method_5_code
def yX5_readInto : MethodName := ⟨RX5, "readInto", "(LFourTenGates$Book;)I"⟩
abbrev cX5_readItem : ByteArray := prog_7_method_6_code
def yX5_readItem : MethodName := ⟨RX5, "readItem", "(ILFourTenGates$Book;)I"⟩
abbrev cX5_readNumber : ByteArray := prog_7_method_7_code
def yX5_readNumber : MethodName := ⟨RX5, "readNumber", "(I)I"⟩
abbrev cX5_isFigure : ByteArray := prog_7_method_8_code
def yX5_isFigure : MethodName := ⟨RX5, "isFigure", "(I)Z"⟩
abbrev cX5_letterAt : ByteArray := prog_7_method_9_code
def yX5_letterAt : MethodName := ⟨RX5, "letterAt", "(I)I"⟩
abbrev cX6_init : ByteArray := prog_1_method_1_code
def yX6_init : MethodName := ⟨RX6, "<init>", "()V"⟩
abbrev cX6_write : ByteArray := prog_1_method_2_code
def yX6_write : MethodName := ⟨RX6, "write", "(I)I"⟩
abbrev cX6_wipe : ByteArray := prog_1_method_3_code
def yX6_wipe : MethodName := ⟨RX6, "wipe", "()I"⟩
abbrev cX6_fault : ByteArray := prog_1_method_4_code
def yX6_fault : MethodName := ⟨RX6, "fault", "()I"⟩
abbrev cX6_lay : ByteArray := prog_1_method_5_code
def yX6_lay : MethodName := ⟨RX6, "lay", "()I"⟩
abbrev cX6_train : ByteArray := prog_1_method_6_code
def yX6_train : MethodName := ⟨RX6, "train", "(II)I"⟩
abbrev cX6_user : ByteArray := prog_1_method_7_code
def yX6_user : MethodName := ⟨RX6, "user", "(II)I"⟩
abbrev cX6_gates : ByteArray := prog_1_method_8_code
def yX6_gates : MethodName := ⟨RX6, "gates", "(II)I"⟩
abbrev cX6_passed : ByteArray := prog_1_method_9_code
def yX6_passed : MethodName := ⟨RX6, "passed", "(II)I"⟩
abbrev cX6_stopped : ByteArray := prog_1_method_10_code
def yX6_stopped : MethodName := ⟨RX6, "stopped", "(II)I"⟩
abbrev cX6_crossed : ByteArray := prog_1_method_11_code
def yX6_crossed : MethodName := ⟨RX6, "crossed", "(II)I"⟩
abbrev cX6_waited : ByteArray := prog_1_method_12_code
def yX6_waited : MethodName := ⟨RX6, "waited", "(II)I"⟩
abbrev cX6_cost : ByteArray := prog_1_method_13_code
def yX6_cost : MethodName := ⟨RX6, "cost", "(I)I"⟩
abbrev cX6_late : ByteArray := prog_1_method_14_code
def yX6_late : MethodName := ⟨RX6, "late", "(II)I"⟩
abbrev cX6_shut : ByteArray := prog_1_method_15_code
def yX6_shut : MethodName := ⟨RX6, "shut", "(II)I"⟩
abbrev cX6_leave : ByteArray := prog_1_method_16_code
def yX6_leave : MethodName := ⟨RX6, "leave", "(I)I"⟩
abbrev cX6_undo : ByteArray := prog_1_method_17_code
def yX6_undo : MethodName := ⟨RX6, "undo", "()I"⟩
abbrev cX6_cheapest : ByteArray := prog_1_method_18_code
def yX6_cheapest : MethodName := ⟨RX6, "cheapest", "(I)I"⟩
abbrev cX6_lead : ByteArray := prog_1_method_19_code
def yX6_lead : MethodName := ⟨RX6, "lead", "(I)I"⟩
abbrev cX6_more : ByteArray := prog_1_method_20_code
def yX6_more : MethodName := ⟨RX6, "more", "(III)I"⟩
abbrev cX6_dinner : ByteArray := prog_1_method_21_code
def yX6_dinner : MethodName := ⟨RX6, "dinner", "(II)I"⟩
abbrev cX6_byNow : ByteArray := prog_1_method_22_code
def yX6_byNow : MethodName := ⟨RX6, "byNow", "(III)I"⟩
abbrev cX6_which : ByteArray := prog_1_method_23_code
def yX6_which : MethodName := ⟨RX6, "which", "(I)I"⟩
abbrev cX6_seen : ByteArray := prog_1_method_24_code
def yX6_seen : MethodName := ⟨RX6, "seen", "(II)I"⟩
abbrev cX6_forget : ByteArray := prog_1_method_25_code
def yX6_forget : MethodName := ⟨RX6, "forget", "()I"⟩
abbrev cX6_fits : ByteArray := prog_1_method_26_code
def yX6_fits : MethodName := ⟨RX6, "fits", "()I"⟩
abbrev cX6_bridge : ByteArray := prog_1_method_27_code
def yX6_bridge : MethodName := ⟨RX6, "bridge", "(II)I"⟩
abbrev cX6_mean : ByteArray := prog_1_method_28_code
def yX6_mean : MethodName := ⟨RX6, "mean", "(III)I"⟩
abbrev cX6_day : ByteArray := prog_1_method_29_code
def yX6_day : MethodName := ⟨RX6, "day", "(III)I"⟩
abbrev cX6_keep : ByteArray := prog_1_method_30_code
def yX6_keep : MethodName := ⟨RX6, "keep", "()I"⟩
abbrev cX6_back : ByteArray := prog_1_method_31_code
def yX6_back : MethodName := ⟨RX6, "back", "()I"⟩
abbrev cX6_count : ByteArray := prog_1_method_32_code
def yX6_count : MethodName := ⟨RX6, "count", "(I)I"⟩
abbrev cX6_between : ByteArray := prog_1_method_33_code
def yX6_between : MethodName := ⟨RX6, "between", "(III)Z"⟩
abbrev cX6_isRule : ByteArray := prog_1_method_34_code
def yX6_isRule : MethodName := ⟨RX6, "isRule", "(I)Z"⟩
abbrev cX6_isBeat : ByteArray := prog_1_method_35_code
def yX6_isBeat : MethodName := ⟨RX6, "isBeat", "(I)Z"⟩
abbrev cX6_isMinute : ByteArray := prog_1_method_36_code
def yX6_isMinute : MethodName := ⟨RX6, "isMinute", "(I)Z"⟩
abbrev cX6_isToldLateness : ByteArray := prog_1_method_37_code
def yX6_isToldLateness : MethodName := ⟨RX6, "isToldLateness", "(I)Z"⟩
abbrev cX6_isClosing : ByteArray := prog_1_method_38_code
def yX6_isClosing : MethodName := ⟨RX6, "isClosing", "(II)Z"⟩
abbrev cX6_isTrain : ByteArray := prog_1_method_39_code
def yX6_isTrain : MethodName := ⟨RX6, "isTrain", "(I)Z"⟩
abbrev cX6_isUser : ByteArray := prog_1_method_40_code
def yX6_isUser : MethodName := ⟨RX6, "isUser", "(I)Z"⟩
abbrev cX6_layText : ByteArray := prog_1_method_41_code
def yX6_layText : MethodName := ⟨RX6, "layText", "()Z"⟩
abbrev cX6_beginChange : ByteArray := prog_1_method_42_code
def yX6_beginChange : MethodName := ⟨RX6, "beginChange", "()V"⟩
abbrev cX6_outdateHours : ByteArray := prog_1_method_43_code
def yX6_outdateHours : MethodName := ⟨RX6, "outdateHours", "()V"⟩
abbrev cX6_hourBy : ByteArray := prog_1_method_44_code
def yX6_hourBy : MethodName := ⟨RX6, "hourBy", "(I)LFourTenGates$Hour;"⟩
abbrev cX6_costIfLate : ByteArray := prog_1_method_45_code
def yX6_costIfLate : MethodName := ⟨RX6, "costIfLate", "(III)I"⟩
abbrev cX6_findLead : ByteArray := prog_1_method_46_code
def yX6_findLead : MethodName := ⟨RX6, "findLead", "()V"⟩
abbrev cX6_drawnLateness : ByteArray := prog_1_method_47_code
def yX6_drawnLateness : MethodName := ⟨RX6, "drawnLateness", "(II)I"⟩
abbrev cX6_isAsSeen : ByteArray := prog_1_method_48_code
def yX6_isAsSeen : MethodName := ⟨RX6, "isAsSeen", "(LFourTenGates$Hour;)Z"⟩
abbrev cX6_partOf : ByteArray := prog_1_method_49_code
def yX6_partOf : MethodName := ⟨RX6, "partOf", "(III)I"⟩
abbrev cX6_bellOf : ByteArray := prog_1_method_50_code
def yX6_bellOf : MethodName := ⟨RX6, "bellOf", "(I)I"⟩
abbrev cX6_bellBeat : ByteArray := prog_1_method_51_code
def yX6_bellBeat : MethodName := ⟨RX6, "bellBeat", "(II)I"⟩
abbrev cX7_init : ByteArray := prog_9_method_1_code
def yX7_init : MethodName := ⟨RX7, "<init>", "()V"⟩
abbrev cX7_in : ByteArray := prog_9_method_2_code
def yX7_in : MethodName := ⟨RX7, "in", "(JJJ)Z"⟩
abbrev cX7_noHour : ByteArray := prog_9_method_3_code
def yX7_noHour : MethodName := ⟨RX7, "noHour", "(I)V"⟩
abbrev cX7_addTrain : ByteArray := prog_9_method_4_code
def yX7_addTrain : MethodName := ⟨RX7, "addTrain", "(III)V"⟩
abbrev cX7_addUser : ByteArray := prog_9_method_5_code
def yX7_addUser : MethodName := ⟨RX7, "addUser", "(III)V"⟩
abbrev cX7_write : ByteArray := prog_9_method_6_code
def yX7_write : MethodName := ⟨RX7, "write", "(I)I"⟩
abbrev cX7_wipe : ByteArray := prog_9_method_7_code
def yX7_wipe : MethodName := ⟨RX7, "wipe", "()I"⟩
abbrev cX7_letterAt : ByteArray := prog_9_method_8_code
def yX7_letterAt : MethodName := ⟨RX7, "letterAt", "(I)I"⟩
abbrev cX7_figures : ByteArray := prog_9_method_9_code
def yX7_figures : MethodName := ⟨RX7, "figures", "(I)Z"⟩
abbrev cX7_setTold : ByteArray := prog_9_method_10_code
def yX7_setTold : MethodName := ⟨RX7, "setTold", "(IIII)Z"⟩
abbrev cX7_closingItem : ByteArray := prog_9_method_11_code
def yX7_closingItem : MethodName := ⟨RX7, "closingItem", "()Z"⟩
abbrev cX7_oddsItem : ByteArray := prog_9_method_12_code
def yX7_oddsItem : MethodName := ⟨RX7, "oddsItem", "()Z"⟩
abbrev cX7_item : ByteArray := prog_9_method_13_code
def yX7_item : MethodName := ⟨RX7, "item", "()Z"⟩
abbrev cX7_readAll : ByteArray := prog_9_method_14_code
def yX7_readAll : MethodName := ⟨RX7, "readAll", "()I"⟩
abbrev cX7_fault : ByteArray := prog_9_method_15_code
def yX7_fault : MethodName := ⟨RX7, "fault", "()I"⟩
abbrev cX7_allOdds : ByteArray := prog_9_method_16_code
def yX7_allOdds : MethodName := ⟨RX7, "allOdds", "(I)I"⟩
abbrev cX7_lay : ByteArray := prog_9_method_17_code
def yX7_lay : MethodName := ⟨RX7, "lay", "()I"⟩
abbrev cX7_begin : ByteArray := prog_9_method_18_code
def yX7_begin : MethodName := ⟨RX7, "begin", "()V"⟩
abbrev cX7_isTrain : ByteArray := prog_9_method_19_code
def yX7_isTrain : MethodName := ⟨RX7, "isTrain", "(I)Z"⟩
abbrev cX7_isUser : ByteArray := prog_9_method_20_code
def yX7_isUser : MethodName := ⟨RX7, "isUser", "(I)Z"⟩
abbrev cX7_isRule : ByteArray := prog_9_method_21_code
def yX7_isRule : MethodName := ⟨RX7, "isRule", "(I)Z"⟩
abbrev cX7_comesAt : ByteArray := prog_9_method_22_code
def yX7_comesAt : MethodName := ⟨RX7, "comesAt", "(I)I"⟩
abbrev cX7_bellOf : ByteArray := prog_9_method_23_code
def yX7_bellOf : MethodName := ⟨RX7, "bellOf", "(I)I"⟩
abbrev cX7_train : ByteArray := prog_9_method_24_code
def yX7_train : MethodName := ⟨RX7, "train", "(II)I"⟩
abbrev cX7_user : ByteArray := prog_9_method_25_code
def yX7_user : MethodName := ⟨RX7, "user", "(II)I"⟩
abbrev cX7_beginHour : ByteArray := prog_9_method_26_code
def yX7_beginHour : MethodName := ⟨RX7, "beginHour", "()V"⟩
abbrev cX7_isPassing : ByteArray := prog_9_method_27_code
def yX7_isPassing : MethodName := ⟨RX7, "isPassing", "(I)Z"⟩
abbrev cX7_hasPassed : ByteArray := prog_9_method_28_code
def yX7_hasPassed : MethodName := ⟨RX7, "hasPassed", "(II)Z"⟩
abbrev cX7_inPlan : ByteArray := prog_9_method_29_code
def yX7_inPlan : MethodName := ⟨RX7, "inPlan", "(I)Z"⟩
abbrev cX7_inBell : ByteArray := prog_9_method_30_code
def yX7_inBell : MethodName := ⟨RX7, "inBell", "(I)Z"⟩
abbrev cX7_inSight : ByteArray := prog_9_method_31_code
def yX7_inSight : MethodName := ⟨RX7, "inSight", "(I)Z"⟩
abbrev cX7_inWait : ByteArray := prog_9_method_32_code
def yX7_inWait : MethodName := ⟨RX7, "inWait", "(I)Z"⟩
abbrev cX7_inLead : ByteArray := prog_9_method_33_code
def yX7_inLead : MethodName := ⟨RX7, "inLead", "(II)Z"⟩
abbrev cX7_wantsShut : ByteArray := prog_9_method_34_code
def yX7_wantsShut : MethodName := ⟨RX7, "wantsShut", "(III)Z"⟩
abbrev cX7_moveGates : ByteArray := prog_9_method_35_code
def yX7_moveGates : MethodName := ⟨RX7, "moveGates", "(III)V"⟩
abbrev cX7_goTrains : ByteArray := prog_9_method_36_code
def yX7_goTrains : MethodName := ⟨RX7, "goTrains", "(I)V"⟩
abbrev cX7_isWaiting : ByteArray := prog_9_method_37_code
def yX7_isWaiting : MethodName := ⟨RX7, "isWaiting", "(II)Z"⟩
abbrev cX7_canCross : ByteArray := prog_9_method_38_code
def yX7_canCross : MethodName := ⟨RX7, "canCross", "(I)Z"⟩
abbrev cX7_nextUser : ByteArray := prog_9_method_39_code
def yX7_nextUser : MethodName := ⟨RX7, "nextUser", "(I)I"⟩
abbrev cX7_goUsers : ByteArray := prog_9_method_40_code
def yX7_goUsers : MethodName := ⟨RX7, "goUsers", "(I)V"⟩
abbrev cX7_goHour : ByteArray := prog_9_method_41_code
def yX7_goHour : MethodName := ⟨RX7, "goHour", "(II)V"⟩
abbrev cX7_costNow : ByteArray := prog_9_method_42_code
def yX7_costNow : MethodName := ⟨RX7, "costNow", "()I"⟩
abbrev cX7_costBy : ByteArray := prog_9_method_43_code
def yX7_costBy : MethodName := ⟨RX7, "costBy", "(II)I"⟩
abbrev cX7_gates : ByteArray := prog_9_method_44_code
def yX7_gates : MethodName := ⟨RX7, "gates", "(II)I"⟩
abbrev cX7_passed : ByteArray := prog_9_method_45_code
def yX7_passed : MethodName := ⟨RX7, "passed", "(II)I"⟩
abbrev cX7_stopped : ByteArray := prog_9_method_46_code
def yX7_stopped : MethodName := ⟨RX7, "stopped", "(II)I"⟩
abbrev cX7_crossed : ByteArray := prog_9_method_47_code
def yX7_crossed : MethodName := ⟨RX7, "crossed", "(II)I"⟩
abbrev cX7_waited : ByteArray := prog_9_method_48_code
def yX7_waited : MethodName := ⟨RX7, "waited", "(II)I"⟩
abbrev cX7_cost : ByteArray := prog_9_method_49_code
def yX7_cost : MethodName := ⟨RX7, "cost", "(I)I"⟩
abbrev cX7_note : ByteArray := prog_9_method_50_code
def yX7_note : MethodName := ⟨RX7, "note", "()V"⟩
abbrev cX7_late : ByteArray := prog_9_method_51_code
def yX7_late : MethodName := ⟨RX7, "late", "(II)I"⟩
abbrev cX7_shut : ByteArray := prog_9_method_52_code
def yX7_shut : MethodName := ⟨RX7, "shut", "(II)I"⟩
abbrev cX7_leave : ByteArray := prog_9_method_53_code
def yX7_leave : MethodName := ⟨RX7, "leave", "(I)I"⟩
abbrev cX7_undo : ByteArray := prog_9_method_54_code
def yX7_undo : MethodName := ⟨RX7, "undo", "()I"⟩
abbrev cX7_cheapest : ByteArray := prog_9_method_55_code
def yX7_cheapest : MethodName := ⟨RX7, "cheapest", "(I)I"⟩
abbrev cX7_lead : ByteArray := prog_9_method_56_code
def yX7_lead : MethodName := ⟨RX7, "lead", "(I)I"⟩
abbrev cX7_more : ByteArray := prog_9_method_57_code
def yX7_more : MethodName := ⟨RX7, "more", "(III)I"⟩
abbrev cX7_dinner : ByteArray := prog_9_method_58_code
def yX7_dinner : MethodName := ⟨RX7, "dinner", "(II)I"⟩
abbrev cX7_common : ByteArray := prog_9_method_59_code
def yX7_common : MethodName := ⟨RX7, "common", "(II)I"⟩
abbrev cX7_byNow : ByteArray := prog_9_method_60_code
def yX7_byNow : MethodName := ⟨RX7, "byNow", "(III)I"⟩
abbrev cX7_which : ByteArray := prog_9_method_61_code
def yX7_which : MethodName := ⟨RX7, "which", "(I)I"⟩
abbrev cX7_seen : ByteArray := prog_9_method_62_code
def yX7_seen : MethodName := ⟨RX7, "seen", "(II)I"⟩
abbrev cX7_forget : ByteArray := prog_9_method_63_code
def yX7_forget : MethodName := ⟨RX7, "forget", "()I"⟩
abbrev cX7_fits : ByteArray := prog_9_method_64_code
def yX7_fits : MethodName := ⟨RX7, "fits", "()I"⟩
abbrev cX7_bridge : ByteArray := prog_9_method_65_code
def yX7_bridge : MethodName := ⟨RX7, "bridge", "(II)I"⟩
abbrev cX7_mean : ByteArray := prog_9_method_66_code
def yX7_mean : MethodName := ⟨RX7, "mean", "(III)I"⟩
abbrev cX7_day : ByteArray := prog_9_method_67_code
def yX7_day : MethodName := ⟨RX7, "day", "(III)I"⟩
abbrev cX7_keep : ByteArray := prog_9_method_68_code
def yX7_keep : MethodName := ⟨RX7, "keep", "()I"⟩
abbrev cX7_back : ByteArray := prog_9_method_69_code
def yX7_back : MethodName := ⟨RX7, "back", "()I"⟩
abbrev cX7_count : ByteArray := prog_9_method_70_code
def yX7_count : MethodName := ⟨RX7, "count", "(I)I"⟩
abbrev vwCl : List vw_C := [(RX0, TX0, 9), (RX1, TX1, 19), (RX2, TX2, 4), (RX3, TX3, 2), (RX4, TX4, 2), (RX5, TX5, 3), (RX6, TX6, 13), (RX7, TX7, 38)]
/-- the good words of the tables -/
def gtbl : List Cond := lw_tbl.filter goodWord
theorem gt_good : ∀ w ∈ gtbl, goodWord w = true := fun w h => (List.mem_filter.mp h).2
theorem gt_in : ∀ w ∈ gtbl, w ∈ lw_tbl := fun w h => (List.mem_filter.mp h).1
theorem gt_at {w : Cond} (i : Nat) (h : lw_tbl[i]? = some w) (hg : goodWord w = true) : w ∈ gtbl := List.mem_filter.mpr ⟨List.mem_of_getElem? h, hg⟩
theorem gt_all {ws : List Cond} (is : List Nat) (h : is.map (fun i => lw_tbl[i]?) = ws.map some) (hg : ws.all goodWord = true) : ∀ w ∈ ws, w ∈ gtbl := by
  intro w hw
  have h1 := List.all_eq_true.mp hg w hw
  obtain ⟨k, hk⟩ := List.getElem?_of_mem hw
  have h2 : (ws.map some)[k]? = some (some w) := by rw [List.getElem?_map, hk]; rfl
  rw [← h, List.getElem?_map] at h2
  cases hi : is[k]? with
  | none => rw [hi] at h2; cases h2
  | some i => rw [hi] at h2; exact gt_at i (Option.some.inj h2) h1
theorem inX0 : ∀ w ∈ u_ws RX0 TX0 9, w ∈ gtbl := gt_all [155, 157, 159, 161, 163, 165, 167, 169, 171] (by decide +kernel) (by decide +kernel)
theorem inX1 : ∀ w ∈ u_ws RX1 TX1 19, w ∈ gtbl := gt_all [216, 218, 220, 222, 224, 226, 228, 230, 232, 234, 236, 238, 240, 242, 244, 246, 248, 250, 252] (by decide +kernel) (by decide +kernel)
theorem inX2 : ∀ w ∈ u_ws RX2 TX2 4, w ∈ gtbl := gt_all [131, 133, 135, 137] (by decide +kernel) (by decide +kernel)
theorem inX3 : ∀ w ∈ u_ws RX3 TX3 2, w ∈ gtbl := gt_all [269, 271] (by decide +kernel) (by decide +kernel)
theorem inX4 : ∀ w ∈ u_ws RX4 TX4 2, w ∈ gtbl := gt_all [185, 187] (by decide +kernel) (by decide +kernel)
theorem inX5 : ∀ w ∈ u_ws RX5 TX5 3, w ∈ gtbl := gt_all [104, 106, 108] (by decide +kernel) (by decide +kernel)
theorem inX6 : ∀ w ∈ u_ws RX6 TX6 13, w ∈ gtbl := gt_all [486, 488, 490, 492, 494, 496, 498, 500, 502, 504, 506, 508, 510] (by decide +kernel) (by decide +kernel)
theorem inX7 : ∀ w ∈ u_ws RX7 TX7 38, w ∈ gtbl := gt_all [944, 946, 948, 950, 952, 954, 956, 958, 960, 962, 964, 966, 968, 970, 972, 974, 976, 978, 980, 982, 984, 986, 988, 990, 992, 994, 996, 998, 1000, 1002, 1004, 1006, 1008, 1010, 1012, 1014, 1016, 1018] (by decide +kernel) (by decide +kernel)
/-- the links to private members of nest mates: whose, which entry, the method, the host -/
def nestL : List (String × Nat × MethodName × String) := [(RX6, 9, yX5_init, RX6), (RX6, 18, yX0_init, RX6), (RX6, 28, yX4_init, RX6), (RX3, 25, yX4_init, RX6), (RX5, 46, yX6_between, RX6), (RX0, 76, yX6_isMinute, RX6), (RX0, 46, yX6_between, RX6), (RX0, 96, yX6_isClosing, RX6), (RX0, 99, yX6_isToldLateness, RX6), (RX4, 32, yX6_between, RX6), (RX1, 118, yX6_bellBeat, RX6), (RX1, 151, yX6_between, RX6), (RX2, 35, yX6_between, RX6)]
end
section
/-! THE WORLD AS A FLAT MEMORY: cell j holds σ j; refs are fixed by the cell's kind. -/
abbrev Mem : Type := Nat → Nat → Int32
def mu (σ : Mem) (j k : Nat) (x : Int32) : Mem := fun i => if i = j then upd (σ j) k x else σ i
/-- the classes' slots, the array classes (0 int, 1 boolean, 2 Hour, 3 Stand), the addresses of the cells -/
abbrev WV : Type := va_G × (Nat → ClassId) × (Nat → Nat)
abbrev EV : Type := WV → Nat → (Nat → Int32) → va_E
abbrev tysW (w : WV) : List (ClassId × FieldType) := [(w.2.1 0, .int), (w.2.1 1, .boolean), (w.2.1 2, .object RX1), (w.2.1 3, .object RX4)]
def KW (w : WV) (s : State) : Prop := va_K w.1 vwCl (tysW w) s
def wl (E : EV) (L : List Nat) (w : WV) (σ : Mem) : va_W := L.map (fun j => (w.2.2 j, E w j (σ j)))
def Rp (E : EV) (L : List Nat) (w : WV) (σ : Mem) (H : Heap) : Prop := va_P w.1 vwCl (wl E L w σ) H
def AW (L : List Nat) (w : WV) : Nat → Prop := fun q => ∃ j, j ∈ L ∧ q = w.2.2 j
def Inj (L : List Nat) (w : WV) : Prop := L.Nodup ∧ ∀ i, i ∈ L → ∀ j, j ∈ L → w.2.2 i = w.2.2 j → i = j
def NW (s : State) : Prop := ∀ q ∈ nestL, va_Nw (.methodLinkNest q.1 q.2.1 q.2.2.1 q.2.2.2) s
def KS (L : List Nat) (w : WV) (s : State) : Prop := KW w s ∧ Inj L w ∧ NW s
theorem wl_get {E : EV} {L : List Nat} {w : WV} {σ : Mem} {k : Nat} {q : Nat × va_E} (h : (wl E L w σ)[k]? = some q) : ∃ j, L[k]? = some j ∧ j ∈ L ∧ q = (w.2.2 j, E w j (σ j)) := by
  unfold wl at h
  rw [List.getElem?_map] at h
  cases hk : L[k]? with
  | none => rw [hk] at h; cases h
  | some j => rw [hk] at h; exact ⟨j, rfl, List.mem_of_getElem? hk, (Option.some.inj h).symm⟩
theorem wl_D {E : EV} {L : List Nat} {w : WV} {σ : Mem} (hI : Inj L w) : va_D (AW L w) (wl E L w σ) := by
  refine ⟨fun i j x y hi hj hxy => ?_, fun k q hk => ?_⟩
  · obtain ⟨a, a1, a2, rfl⟩ := wl_get hi
    obtain ⟨b, b1, b2, rfl⟩ := wl_get hj
    have hab := hI.2 a a2 b b2 hxy
    subst hab
    have h1 := (List.getElem?_eq_some_iff.mp a1).1
    exact (List.getElem?_inj h1 hI.1).mp (a1.trans b1.symm)
  · obtain ⟨a, a1, a2, rfl⟩ := wl_get hk
    exact ⟨a, a2, rfl⟩
theorem wl_at {E : EV} {L : List Nat} {w : WV} {σ : Mem} {j : Nat} (hj : j ∈ L) : ∃ q0 : Nat, (wl E L w σ)[q0]? = some (w.2.2 j, E w j (σ j)) ∧ (L.Nodup → ∀ s' : Nat → Int32, (wl E L w σ).set q0 (w.2.2 j, E w j s') = wl E L w (fun i => if i = j then s' else σ i)) := by
  obtain ⟨q0, hq⟩ := List.getElem?_of_mem hj
  refine ⟨q0, by unfold wl; rw [List.getElem?_map, hq]; rfl, fun hn s' => ?_⟩
  have hl := (List.getElem?_eq_some_iff.mp hq).1
  apply List.ext_getElem?
  intro i
  by_cases hi : i = q0
  · subst hi
    rw [List.getElem?_set_self (by unfold wl; rw [List.length_map]; exact hl)]
    unfold wl
    rw [List.getElem?_map, hq]
    simp
  · rw [List.getElem?_set_ne (Ne.symm hi)]
    unfold wl
    rw [List.getElem?_map, List.getElem?_map]
    cases hk : L[i]? with
    | none => rfl
    | some a =>
      have hne : a ≠ j := fun hx => hi ((List.getElem?_inj (List.getElem?_eq_some_iff.mp hk).1 hn).mp (by rw [hk, hq, hx]))
      simp [hne]
theorem KS.same {L : List Nat} {w : WV} {u U : State} (hvm : u.vm = U.vm) (h : KS L w u) : KS L w U := ⟨va_K.moved (by rw [hvm]; exact Vm.Alike.refl _) h.1, h.2.1, fun q hq => va_Nw.same rfl hvm (h.2.2 q hq)⟩
theorem KS.warm {L : List Nat} {w : WV} {u U : State} (hW : u.WarmedH U.vm) (h : KS L w u) : KS L w U := ⟨va_K.moved hW.alike h.1, h.2.1, fun q hq => va_Nw.warmM hW (h.2.2 q hq)⟩
/-- the words of a method: its own code, and the good words -/
abbrev wy (y : MethodName) (cc : ByteArray) (n : Nat) (ret : Option FieldType) : List Cond := Cond.code y cc n ret :: gtbl
theorem gd_tbl : GoodIn gtbl gtbl := fun w h => ⟨h, good_of_word (gt_good w h)⟩
theorem gd_wy {y : MethodName} {cc : ByteArray} {n : Nat} {ret : Option FieldType} (h : Cond.code y cc n ret ∈ gtbl) : GoodIn gtbl (wy y cc n ret) := fun w hw => (List.mem_cons.mp hw).elim (fun e => by rw [e]; exact gd_tbl _ h) (gd_tbl w)
def Pw (E : EV) (L : List Nat) (w : WV) (As : List Value) (σ : Mem) : Array Value → State → Prop := fun v U => v = As.toArray ∧ Rp E L w σ U.heap ∧ KS L w U
def Ps (As : List Value) : Array Value → State → Prop := fun v _ => v = As.toArray
def Qw (E : EV) (L : List Nat) (w : WV) (σ : Mem) (r : Option Value) : Array Value → State → Outcome → State → Prop := fun _ st oc t => oc = .returned r ∧ Rp E L w σ t.heap ∧ va_F (AW L w) st t
def Qp (r : Value) : Array Value → State → Outcome → State → Prop := fun _ st oc t => oc = .returned (some r) ∧ t.heap = st.heap
theorem Pw_blind {E : EV} {L : List Nat} {w : WV} {As : List Value} {σ : Mem} : FrameBlind (Pw E L w As σ) := fun a U g mk h => ⟨h.1, h.2.1, KS.same (u := U) (U := U.calling g mk a) rfl h.2.2⟩
theorem Ps_blind {As : List Value} : FrameBlind (Ps As) := fun _ _ _ _ h => h
/-- a method's body, from its entry -/
theorem mk_met {l : Launch} {y : MethodName} {cc : ByteArray} {maxL : Nat} {ret : Option FieldType} {rm : Room} {E : EV} {L : List Nat} {w : WV} {As : List Value} {σ : Mem} {Qc : Array Value → State → Outcome → State → Prop} {free : Addr → Prop} (hy : plainName y.cls = true) (hlen : (lg_sl As).length ≤ maxL)
    (body : ∀ (p : Program) (e : Env) (s : State) (m : MethodId) (below : List Frame) (meth : Method) (c : Code), CallFix p m c cc maxL s As.toArray gtbl y.cls → meth.sig.returnType = ret → meth.locks = false → KS L w s → Rp E L w σ s.heap → ∀ ls : Array Slot, lv_has ls maxL (lv_args 0 As) → W p l e rm s m As.toArray below meth c s.heap [] 0 0 (MQ below Qc As.toArray s 0 0 free) (F0 m 0 ls [])) : Met l y (wy y cc maxL ret) rm (Pw E L w As σ) Qc 0 0 free := by
  refine Met.ofW (cc := cc) (maxL := maxL) (ret := ret) hy rfl ?_
  intro p e s m args below meth c s₁ B hml hv
  obtain ⟨rfl, hR, hK⟩ := hv
  have hts := atoms_spec (ws := wy y cc maxL ret) B.pre
  rw [lg_entry_eq]
  exact body p e s m below meth c ⟨B.exec, B.bytes, hml, findClass_of_methodNamed B.named, fun w hw => hts w (List.mem_cons_of_mem _ hw)⟩ B.returns B.notSynchronized hK hR _ (lv_entry As hlen)
theorem mk_mets {l : Launch} {y : MethodName} {cc : ByteArray} {maxL : Nat} {ret : Option FieldType} {rm : Room} {As : List Value} {Qc : Array Value → State → Outcome → State → Prop} {free : Addr → Prop} (hy : plainName y.cls = true) (hlen : (lg_sl As).length ≤ maxL)
    (body : ∀ (p : Program) (e : Env) (s : State) (m : MethodId) (below : List Frame) (meth : Method) (c : Code), CallFix p m c cc maxL s As.toArray gtbl y.cls → meth.sig.returnType = ret → meth.locks = false → ∀ ls : Array Slot, lv_has ls maxL (lv_args 0 As) → W p l e rm s m As.toArray below meth c s.heap [] 0 0 (MQ below Qc As.toArray s 0 0 free) (F0 m 0 ls [])) : Met l y (wy y cc maxL ret) rm (Ps As) Qc 0 0 free := by
  refine Met.ofW (cc := cc) (maxL := maxL) (ret := ret) hy rfl ?_
  intro p e s m args below meth c s₁ B hml hv
  obtain rfl := hv
  have hts := atoms_spec (ws := wy y cc maxL ret) B.pre
  rw [lg_entry_eq]
  exact body p e s m below meth c ⟨B.exec, B.bytes, hml, findClass_of_methodNamed B.named, fun w hw => hts w (List.mem_cons_of_mem _ hw)⟩ B.returns B.notSynchronized _ (lv_entry As hlen)
/-- booleans -/
theorem nb_n {v : Int32} (h : v = 0 ∨ v = 1) : narrow .boolean (.int v) = .int v := by rcases h with rfl | rfl <;> decide +kernel
theorem nb_f {v : Int32} (h : v = 0 ∨ v = 1) : fits .boolean (.int v) = true := by rcases h with rfl | rfl <;> decide +kernel
theorem nb_v {v : Int32} (h : v = 0 ∨ v = 1) : vp_nar .boolean v = v := by rcases h with rfl | rfl <;> decide +kernel
/-- options -/
theorem og_if {α : Type} {P : Prop} [Decidable P] {x : Option α} {y : α} (h : (if P then x else none) = some y) : P ∧ x = some y := by
  by_cases hp : P
  · rw [if_pos hp] at h; exact ⟨hp, h⟩
  · rw [if_neg hp] at h; cases h
theorem og_t {α : Type} {P : Prop} [Decidable P] {x y z : α} (hp : P) (h : (if P then x else y) = z) : x = z := by rw [if_pos hp] at h; exact h
theorem og_f {α : Type} {P : Prop} [Decidable P] {x y z : α} (hp : ¬ P) (h : (if P then x else y) = z) : y = z := by rw [if_neg hp] at h; exact h
theorem og_b {α β : Type} {x : Option α} {f : α → Option β} {y : β} (h : Option.bind x f = some y) : ∃ a, x = some a ∧ f a = some y := by
  cases x with
  | none => cases h
  | some a => exact ⟨a, rfl, h⟩
section Rows
variable {p : Program} {l : Launch} {e : Env} {R : Room} {s : State} {m : MethodId} {args : Array Value} {below : List Frame} {meth : Method} {c : Code} {H : Heap} {locs : List Loc} {cells slots : Nat} {Q : State → Prop}
variable {cc : ByteArray} {pc nL : Nat} {ls : Array Slot} {rest : List Value} {E : EV} {L : List Nat} {w : WV} {σ : Mem} {own : String} {j : Nat}
theorem r_get (S : CallFix p m c cc nL s args gtbl own) (hK : KS L w s) (hR : Rp E L w σ H) (hj : j ∈ L) {C : String} {T : u_T} {N ci index : Nat} {fs : List Value} (hin : ∀ w ∈ u_ws C T N, w ∈ gtbl) (he : E w j (σ j) = .inr (ci, fs)) (hc : vwCl[ci]? = some (C, T, N)) (k : Nat) (hk : k < N) (hl : Cond.fieldLink own index (T k).1 (T k).2.1 (T k).2.2.1 ∈ gtbl) {v : Value} (hv : fs[k]? = some v) (hdg : decode cc pc = .ok (.getfield index, 3))
    (kk : W p l e R s m args below meth c H locs cells slots Q (F0 m (pc + 3) ls (v :: rest))) : W p l e R s m args below meth c H locs cells slots Q (F0 m pc ls (.ref (w.2.2 j) :: rest)) := by
  obtain ⟨q0, h0, -⟩ := wl_at (E := E) (L := L) (w := w) (σ := σ) hj
  rw [he] at h0
  exact va_get S.1 S.2.1 S.2.2.2.2 hin S.2.2.2.1 hK.1 hR q0 h0 hc k hk (S.2.2.2.2 _ hl) (fun _ h => h) hv hdg kk
theorem r_put (S : CallFix p m c cc nL s args gtbl own) (hK : KS L w s) (hR : Rp E L w σ H) (hS : va_S (AW L w) s.heap H locs) (hj : j ∈ L) {C : String} {T : u_T} {N ci index : Nat} {fs : List Value} (hin : ∀ w ∈ u_ws C T N, w ∈ gtbl) {ty0 : Nat → FieldType} (hty : ∀ k, k < N → parseFieldDescriptor (T k).2.2.1 = some (ty0 k)) (hnm : ∀ a, a < N → ∀ b, b < N → a ≠ b → (T a).2.1 ≠ (T b).2.1) (he : E w j (σ j) = .inr (ci, fs)) (hc : vwCl[ci]? = some (C, T, N)) (k : Nat) (hk : k < N) (hl : Cond.fieldLink own index (T k).1 (T k).2.1 (T k).2.2.1 ∈ gtbl) (hfin : (T k).2.2.2 = false) {x : Int32} (hn : narrow (ty0 k) (.int x) = .int x) (hfit : fits (ty0 k) (.int x) = true) (hlen : k < fs.length) (he2 : E w j (upd (σ j) k x) = .inr (ci, fs.set k (.int x))) (hdg : decode cc pc = .ok (.putfield index, 3))
    (kk : ∀ (H1 : Heap) (locs1 : List Loc), Rp E L w (mu σ j k x) H1 → va_S (AW L w) s.heap H1 locs1 → W p l e R s m args below meth c H1 locs1 cells slots Q (F0 m (pc + 3) ls rest)) : W p l e R s m args below meth c H locs cells slots Q (F0 m pc ls (.int x :: .ref (w.2.2 j) :: rest)) := by
  obtain ⟨q0, h0, h1⟩ := wl_at (E := E) (L := L) (w := w) (σ := σ) hj
  rw [he] at h0
  refine va_put S.1 S.2.1 S.2.2.2.2 hin ty0 hty hnm S.2.2.2.1 hK.1 hR (wl_D hK.2.1) hS q0 h0 hc k hk (S.2.2.2.2 _ hl) (fun _ h => h) hfin (hty k hk) hn hfit hlen hdg (fun H1 locs1 hP _ hS1 => kk H1 locs1 ?_ hS1)
  rw [← he2, h1 hK.2.1.1] at hP
  exact hP
theorem r_ild (S : CallFix p m c cc nL s args gtbl own) (hK : KS L w s) (hR : Rp E L w σ H) (hj : j ∈ L) {n : Nat} (he : E w j (σ j) = .inl (w.2.1 0, n, .inl (σ j))) {i : Int32} (hin : vp_in i n) (hdg : decode cc pc = .ok (.iaload, 1))
    (kk : W p l e R s m args below meth c H locs cells slots Q (F0 m (pc + 1) ls (.int (σ j i.toNatClampNeg) :: rest))) : W p l e R s m args below meth c H locs cells slots Q (F0 m pc ls (.int i :: .ref (w.2.2 j) :: rest)) := by
  obtain ⟨q0, h0, -⟩ := wl_at (E := E) (L := L) (w := w) (σ := σ) hj
  rw [he] at h0
  exact va_iald S.1 S.2.1 hK.1 hR q0 0 h0 rfl hin hdg kk
theorem r_zld (S : CallFix p m c cc nL s args gtbl own) (hK : KS L w s) (hR : Rp E L w σ H) (hj : j ∈ L) {n : Nat} (he : E w j (σ j) = .inl (w.2.1 1, n, .inl (σ j))) {i : Int32} (hin : vp_in i n) (hdg : decode cc pc = .ok (.baload, 1))
    (kk : W p l e R s m args below meth c H locs cells slots Q (F0 m (pc + 1) ls (.int (σ j i.toNatClampNeg) :: rest))) : W p l e R s m args below meth c H locs cells slots Q (F0 m pc ls (.int i :: .ref (w.2.2 j) :: rest)) := by
  obtain ⟨q0, h0, -⟩ := wl_at (E := E) (L := L) (w := w) (σ := σ) hj
  rw [he] at h0
  exact va_zald S.1 S.2.1 hK.1 hR q0 1 h0 rfl hin hdg kk
theorem r_ist (S : CallFix p m c cc nL s args gtbl own) (hK : KS L w s) (hR : Rp E L w σ H) (hS : va_S (AW L w) s.heap H locs) (hj : j ∈ L) {n : Nat} (he : ∀ f : Nat → Int32, E w j f = .inl (w.2.1 0, n, .inl f)) {i x : Int32} (hin : vp_in i n) (hdg : decode cc pc = .ok (.iastore, 1))
    (kk : ∀ (H1 : Heap) (locs1 : List Loc), Rp E L w (mu σ j i.toNatClampNeg x) H1 → va_S (AW L w) s.heap H1 locs1 → W p l e R s m args below meth c H1 locs1 cells slots Q (F0 m (pc + 1) ls rest)) : W p l e R s m args below meth c H locs cells slots Q (F0 m pc ls (.int x :: .int i :: .ref (w.2.2 j) :: rest)) := by
  obtain ⟨q0, h0, h1⟩ := wl_at (E := E) (L := L) (w := w) (σ := σ) hj
  rw [he] at h0
  refine va_iast S.1 S.2.1 hK.1 hR (wl_D hK.2.1) hS q0 0 h0 rfl hin hdg (fun H1 locs1 hP _ hS1 => kk H1 locs1 ?_ hS1)
  rw [← he, h1 hK.2.1.1] at hP
  exact hP
theorem r_zst (S : CallFix p m c cc nL s args gtbl own) (hK : KS L w s) (hR : Rp E L w σ H) (hS : va_S (AW L w) s.heap H locs) (hj : j ∈ L) {n : Nat} (he : ∀ f : Nat → Int32, E w j f = .inl (w.2.1 1, n, .inl f)) {i x : Int32} (hb : x = 0 ∨ x = 1) (hin : vp_in i n) (hdg : decode cc pc = .ok (.bastore, 1))
    (kk : ∀ (H1 : Heap) (locs1 : List Loc), Rp E L w (mu σ j i.toNatClampNeg x) H1 → va_S (AW L w) s.heap H1 locs1 → W p l e R s m args below meth c H1 locs1 cells slots Q (F0 m (pc + 1) ls rest)) : W p l e R s m args below meth c H locs cells slots Q (F0 m pc ls (.int x :: .int i :: .ref (w.2.2 j) :: rest)) := by
  obtain ⟨q0, h0, h1⟩ := wl_at (E := E) (L := L) (w := w) (σ := σ) hj
  rw [he] at h0
  refine va_zast S.1 S.2.1 hK.1 hR (wl_D hK.2.1) hS q0 1 h0 rfl hin hdg (fun H1 locs1 hP _ hS1 => kk H1 locs1 ?_ hS1)
  rw [nb_v hb, ← he, h1 hK.2.1.1] at hP
  exact hP
theorem r_ald (S : CallFix p m c cc nL s args gtbl own) (hK : KS L w s) (hR : Rp E L w σ H) (hj : j ∈ L) {n t0 : Nat} {C : String} {f : Nat → Nat} {cA : ClassId} (he : E w j (σ j) = .inl (cA, n, .inr (.inr (.inr (.inr (fun i => some (w.2.2 (f i)))))))) (ht : (tysW w)[t0]? = some (cA, .object C)) {i : Int32} (hin : vp_in i n) (hdg : decode cc pc = .ok (.aaload, 1))
    (kk : W p l e R s m args below meth c H locs cells slots Q (F0 m (pc + 1) ls (.ref (w.2.2 (f i.toNatClampNeg)) :: rest))) : W p l e R s m args below meth c H locs cells slots Q (F0 m pc ls (.int i :: .ref (w.2.2 j) :: rest)) := by
  obtain ⟨q0, h0, -⟩ := wl_at (E := E) (L := L) (w := w) (σ := σ) hj
  rw [he] at h0
  exact va_aldq S.1 S.2.1 hK.1 hR q0 t0 h0 ht hin hdg kk
theorem r_ast (S : CallFix p m c cc nL s args gtbl own) (hK : KS L w s) (hR : Rp E L w σ H) (hS : va_S (AW L w) s.heap H locs) (hj : j ∈ L) {n t0 ci v : Nat} {r : vw_C} {vs : List Value} {cA : ClassId} (he : ∀ f : Nat → Int32, E w j f = .inl (cA, n, .inr (.inr (.inr (.inr (fun i => some (w.2.2 ((f i).toNatClampNeg)))))))) (ht : (tysW w)[t0]? = some (cA, .object r.1)) {x : Int32} (hx : x.toNatClampNeg = v) (hv : v ∈ L) (hev : E w v (σ v) = .inr (ci, vs)) (hc : vwCl[ci]? = some r) {i : Int32} (hin : vp_in i n) (hdg : decode cc pc = .ok (.aastore, 1))
    (kk : ∀ (H1 : Heap) (locs1 : List Loc), Rp E L w (mu σ j i.toNatClampNeg x) H1 → va_S (AW L w) s.heap H1 locs1 → W p l e R s m args below meth c H1 locs1 cells slots Q (F0 m (pc + 1) ls rest)) : W p l e R s m args below meth c H locs cells slots Q (F0 m pc ls (.ref (w.2.2 v) :: .int i :: .ref (w.2.2 j) :: rest)) := by
  subst hx
  obtain ⟨q0, h0, h1⟩ := wl_at (E := E) (L := L) (w := w) (σ := σ) hj
  obtain ⟨qk, g0, -⟩ := wl_at (E := E) (L := L) (w := w) (σ := σ) hv
  rw [he] at h0
  rw [hev] at g0
  refine va_astq S.1 S.2.1 hK.1 hR (wl_D hK.2.1) hS q0 t0 qk ci h0 ht g0 hc hin hdg (fun H1 locs1 hP _ hS1 => kk H1 locs1 ?_ hS1)
  have hf : va_up (fun i => some (w.2.2 ((σ j i).toNatClampNeg))) i.toNatClampNeg (some (w.2.2 x.toNatClampNeg)) = fun k => some (w.2.2 ((upd (σ j) i.toNatClampNeg x k).toNatClampNeg)) := by
    funext k
    by_cases hk : k = i.toNatClampNeg
    · simp [va_up, upd, hk]
    · simp [va_up, upd, hk]
  rw [hf, ← he, h1 hK.2.1.1] at hP
  exact hP
theorem r_len (S : CallFix p m c cc nL s args gtbl own) (hK : KS L w s) (hR : Rp E L w σ H) (hj : j ∈ L) {t0 : Nat} {cA : ClassId} {xx : vp_A} (he : E w j (σ j) = .inl (cA, xx)) {ty : FieldType} (ht : (tysW w)[t0]? = some (cA, ty)) {v : Int32} (hv : Int32.ofNat xx.1 = v) (hdg : decode cc pc = .ok (.arraylength, 1))
    (kk : W p l e R s m args below meth c H locs cells slots Q (F0 m (pc + 1) ls (.int v :: rest))) : W p l e R s m args below meth c H locs cells slots Q (F0 m pc ls (.ref (w.2.2 j) :: rest)) := by
  obtain ⟨q0, h0, -⟩ := wl_at (E := E) (L := L) (w := w) (σ := σ) hj
  rw [he] at h0
  exact va_alen S.1 S.2.1 hK.1 hR q0 t0 h0 ht hv hdg kk
/-- a call's end: the memory as the contract says, nothing else changed -/
theorem r_end {st0 : List Value} {σ' : Mem} {v : Option Value} {a : Array Value} (hS : va_S (AW L w) s.heap H locs) (hr : va_Run p l e R s m args below meth c H locs cells slots 0 0 (F0 m pc ls st0) rest (Qw E L w σ' v a) (AW L w))
    (kk : ∀ (H1 : Heap) (locs1 : List Loc), Rp E L w σ' H1 → va_S (AW L w) s.heap H1 locs1 → W p l e R s m args below meth c H1 locs1 cells slots Q (F0 m (pc + 3) ls (v.toList ++ rest))) : W p l e R s m args below meth c H locs cells slots Q (F0 m pc ls st0) := by
  intro T hT X
  obtain ⟨v1, st₀, t, T', L1, h0, X', hL, e1, e2, ⟨hv, hb, hz, hk⟩, st⟩ := hr T hT X
  cases hv
  rw [h0] at hz hk
  obtain ⟨t2, a1, b1⟩ := kk T'.heap (locs ++ L1) (by rw [e1]; exact hb)
    ⟨Nat.le_trans hS.1 (by rw [e1]; exact hz), fun q h1 h2 => by rw [e1, hk q (Nat.lt_of_lt_of_le h1 hS.1) h2]; exact hS.2.1 q h1 h2, fun q hq => by
      rcases List.mem_append.mp hq with h | h
      · exact hS.2.2 q h
      · exact hL q h⟩ T' rfl X'
  exact ⟨t2, st t2 a1, b1⟩
theorem r_endp {st0 : List Value} {v : Value} {a : Array Value} (hr : va_Run p l e R s m args below meth c H locs cells slots 0 0 (F0 m pc ls st0) rest (Qp v a) (fun _ => False))
    (kk : W p l e R s m args below meth c H locs cells slots Q (F0 m (pc + 3) ls (v :: rest))) : W p l e R s m args below meth c H locs cells slots Q (F0 m pc ls st0) := by
  intro T hT X
  obtain ⟨v1, st₀, t, T', L1, h0, X', hL, e1, e2, ⟨hv, hb⟩, st⟩ := hr T hT X
  cases hv
  have hL1 : L1 = [] := List.eq_nil_iff_forall_not_mem.mpr (fun q h => hL q h)
  subst hL1
  rw [List.append_nil] at X'
  obtain ⟨t2, a1, b1⟩ := kk T' (by rw [e1, hb, h0]) X'
  exact ⟨t2, st t2 a1, b1⟩
theorem gw_V {index : Nat} {C : String} {y : MethodName} {bytes : ByteArray} {maxL : Nat} {ret : Option FieldType} (h1 : Cond.methodLink own index y ∈ gtbl) (h2 : Cond.instanceMethod y ∈ gtbl) (h3 : Cond.selects C y y ∈ gtbl) (h4 : Cond.initialized C ∈ gtbl) (h5 : Cond.code y bytes maxL ret ∈ gtbl) : GoodIn gtbl (wsV own index C y (wy y bytes maxL ret)) := by
  intro w hw
  rcases List.mem_append.mp hw with h | h
  · simp only [List.mem_cons, List.not_mem_nil, or_false] at h
    rcases h with rfl | rfl | rfl | rfl
    · exact gd_tbl _ h1
    · exact gd_tbl _ h2
    · exact gd_tbl _ h3
    · exact gd_tbl _ h4
  · exact gd_wy h5 w h
theorem gw_S {index : Nat} {y : MethodName} {bytes : ByteArray} {maxL : Nat} {ret : Option FieldType} (h1 : Cond.methodLink own index y ∈ gtbl) (h2 : Cond.static y ∈ gtbl) (h4 : Cond.initialized own ∈ gtbl) (h5 : Cond.code y bytes maxL ret ∈ gtbl) : GoodIn gtbl (wsS own index y (wy y bytes maxL ret)) := by
  intro w hw
  rcases List.mem_append.mp hw with h | h
  · simp only [List.mem_cons, List.not_mem_nil, or_false] at h
    rcases h with rfl | rfl | rfl
    · exact gd_tbl _ h1
    · exact gd_tbl _ h2
    · exact gd_tbl _ h4
  · exact gd_wy h5 w h
theorem rcv {C : String} {T : u_T} {N ci : Nat} {fs : List Value} (hK : KS L w s) (hR : Rp E L w σ H) (hj : j ∈ L) (he : E w j (σ j) = .inr (ci, fs)) (hc : vwCl[ci]? = some (C, T, N)) : ∃ cell : Cell, H[w.2.2 j]? = some cell ∧ cell.vm.isStatics = false ∧ s.vm.findClass C = some cell.cls := by
  obtain ⟨q0, h0, -⟩ := wl_at (E := E) (L := L) (w := w) (σ := σ) hj
  rw [he] at h0
  exact va_recv hK.1 hR hc h0
section Calls
variable {y : MethodName} {bytes : ByteArray} {maxL index n : Nat} {ret : Option FieldType} {rm : Room} {As st0 : List Value} {C : String} {Qc : Array Value → State → Outcome → State → Prop} {free : Addr → Prop}
theorem run_V (S : CallFix p m c cc nL s args gtbl own) (hK : KS L w s) (hR : Rp E L w σ H) {T : u_T} {N ci : Nat} {fs : List Value} (hj : j ∈ L) (he : E w j (σ j) = .inr (ci, fs)) (hc : vwCl[ci]? = some (C, T, N)) (g : GoodIn gtbl (wsV own index C y (wy y bytes maxL ret))) (hd : y.cls = C ∧ y.cls ≠ "java/lang/invoke/MethodHandle" ∧ y.cls ≠ "java/lang/invoke/VarHandle" ∧ (parseMethodDescriptor y.desc).map (fun d => d.parameters.length) = some n)
    (hn : As.length = n) (hM : Met l y (wy y bytes maxL ret) rm (Pw E L w (.ref (w.2.2 j) :: As) σ) Qc 0 0 free) (hz : rm.cells = 0 ∧ rm.slots = 0) (hRm : rm.frames + 1 ≤ R.frames ∧ 8 + (maxL + 11) + rm.locals ≤ R.locals) (hf : cells + 0 ≤ R.cells ∧ slots + 0 ≤ R.slots) (hl : ls.size = nL) (hst : st0 = As.reverse ++ .ref (w.2.2 j) :: rest) (hW : (rest.map fun v => v.category).sum ≤ 8) (hdg : decode cc pc = .ok (.invokevirtual index, 3)) :
    va_Run p l e R s m args below meth c H locs cells slots 0 0 (F0 m pc ls st0) rest (Qc (Value.ref (w.2.2 j) :: As).toArray) free :=
  va_runV (g := F0 m pc ls st0) S hM (cwV n S.2.2.2.2 g rfl hz.1 hz.2 hd hRm) ⟨Pw_blind, rcv hK hR hj he hc, fun U hU hW => ⟨rfl, by rw [hU]; exact hR, hK.warm hW⟩⟩ rfl hn hl hst (lv_room hW) hdg hf
theorem run_S (S : CallFix p m c cc nL s args gtbl own) (g : GoodIn gtbl (wsS own index y (wy y bytes maxL ret))) (hd : y.cls = own ∧ y.cls ≠ "java/lang/invoke/MethodHandle" ∧ y.cls ≠ "java/lang/invoke/VarHandle" ∧ (parseMethodDescriptor y.desc).map (fun d => d.parameters.length) = some n)
    (hn : As.length = n) (hM : Met l y (wy y bytes maxL ret) rm (Ps As) Qc 0 0 free) (hz : rm.cells = 0 ∧ rm.slots = 0) (hRm : rm.frames + 1 ≤ R.frames ∧ 8 + (maxL + 11) + rm.locals ≤ R.locals) (hf : cells + 0 ≤ R.cells ∧ slots + 0 ≤ R.slots) (hl : ls.size = nL) (hst : st0 = As.reverse ++ rest) (hW : (rest.map fun v => v.category).sum ≤ 8) (hdg : decode cc pc = .ok (.invokestatic index, 3)) :
    va_Run p l e R s m args below meth c H locs cells slots 0 0 (F0 m pc ls st0) rest (Qc As.toArray) free :=
  va_runS (g := F0 m pc ls st0) S hM (cwS n S.2.2.2.2 g rfl hz.1 hz.2 hd hRm) ⟨Ps_blind, fun U hU hW => rfl⟩ rfl hn hl hst (lv_room hW) hdg hf
theorem run_SN (S : CallFix p m c cc nL s args gtbl own) (hK : KS L w s) {host : String} (h1 : (own, index, y, host) ∈ nestL) (h2 : Cond.static y ∈ gtbl) (h4 : Cond.initialized y.cls ∈ gtbl) (h5 : Cond.code y bytes maxL ret ∈ gtbl) (hd : y.cls ≠ "java/lang/invoke/MethodHandle" ∧ y.cls ≠ "java/lang/invoke/VarHandle" ∧ (parseMethodDescriptor y.desc).map (fun d => d.parameters.length) = some n)
    (hn : As.length = n) (hM : Met l y (wy y bytes maxL ret) rm (Ps As) Qc 0 0 free) (hz : rm.cells = 0 ∧ rm.slots = 0) (hRm : rm.frames + 1 ≤ R.frames ∧ 8 + (maxL + 11) + rm.locals ≤ R.locals) (hf : cells + 0 ≤ R.cells ∧ slots + 0 ≤ R.slots) (hl : ls.size = nL) (hst : st0 = As.reverse ++ rest) (hW : (rest.map fun v => v.category).sum ≤ 8) (hdg : decode cc pc = .ok (.invokestatic index, 3)) :
    va_Run p l e R s m args below meth c H locs cells slots 0 0 (F0 m pc ls st0) rest (Qc As.toArray) free := by
  have hnw : va_Nw (.methodLinkNest own index y host) s := hK.2.2 (own, index, y, host) h1
  have hcn := va_cnB (R := R) (ws := wy y bytes maxL ret) (ws' := gtbl) (rm := rm) (mc := 0) (ms := 0) n S.2.2.2.2 (gd_wy h5) rfl hz.1 hz.2 hnw (S.2.2.2.2 _ h4) hd hRm
  have hst2 : (Cond.static y).before args s = true := S.2.2.2.2 _ h2
  have hpre : PreS s H (Ps As) As := ⟨Ps_blind, fun U hU hW => rfl⟩
  exact va_runSN (g := F0 m pc ls st0) S hM ⟨hcn, hst2, trivial⟩ hpre rfl hn hl hst (lv_room hW) hdg hf
end Calls
end Rows
end
section
/-! THE WORLDS. The component: 139 cells, laid out object by object; the reference: its object (0) and the array of slot k (k + 1). -/
def kdC : List Nat := [6, 5, 8, 0, 2, 8, 8, 2, 8, 8, 2, 8, 8, 2, 8, 8, 8, 0, 2, 8, 8, 2, 8, 8, 2, 8, 8, 2, 8, 8, 8, 4, 2, 8, 8, 8, 4, 2, 8, 8, 8, 10, 1, 8, 8, 8, 8, 8, 8, 8, 1, 8, 8, 8, 8, 8, 8, 8, 1, 8, 8, 8, 8, 8, 8, 8, 1, 8, 8, 8, 8, 8, 8, 8, 1, 8, 8, 8, 8, 8, 8, 8, 3, 11, 4, 2, 8, 8, 8, 4, 2, 8, 8, 8, 4, 2, 8, 8, 8, 4, 2, 8, 8, 8, 4, 2, 8, 8, 8, 4, 2, 8, 8, 8, 4, 2, 8, 8, 8, 4, 2, 8, 8, 8, 3, 11, 4, 2, 8, 8, 8, 4, 2, 8, 8, 8, 2, 8, 8]
def lnC (j : Nat) : Nat := ([0, 0, 200, 0, 0, 8, 8, 0, 8, 8, 0, 8, 8, 0, 8, 8, 4, 0, 0, 8, 8, 0, 8, 8, 0, 8, 8, 0, 8, 8, 4, 0, 0, 8, 8, 6, 0, 0, 8, 8, 6, 4, 0, 360, 6, 6, 6, 6, 8, 8, 0, 360, 6, 6, 6, 6, 8, 8, 0, 360, 6, 6, 6, 6, 8, 8, 0, 360, 6, 6, 6, 6, 8, 8, 0, 360, 6, 6, 6, 6, 8, 8, 0, 8, 0, 0, 8, 8, 6, 0, 0, 8, 8, 6, 0, 0, 8, 8, 6, 0, 0, 8, 8, 6, 0, 0, 8, 8, 6, 0, 0, 8, 8, 6, 0, 0, 8, 8, 6, 0, 0, 8, 8, 6, 0, 2, 0, 0, 8, 8, 6, 0, 0, 8, 8, 6, 0, 8, 8] : List Nat).getD j 0
def hst (h : Nat) : Nat := if h = 74 then 36 else 31
abbrev bookL : List Nat := [3, 17]
abbrev hourL : List Nat := [42, 50, 58, 66, 74]
abbrev pairsL : List Nat := [4, 7, 10, 13, 18, 21, 24, 27, 32, 37, 85, 90, 95, 100, 105, 110, 115, 120, 127, 132, 136]
abbrev pileL : List Nat := [82, 124]
abbrev standL : List Nat := [31, 36, 84, 89, 94, 99, 104, 109, 114, 119, 126, 131]
abbrev textL : List Nat := [1]
abbrev gatesL : List Nat := [0]
def EC : EV := fun w j s => match kdC.getD j 99 with
  | 0 => .inr (0, [.ref (w.2.2 (j + 1)), .ref (w.2.2 (j + 4)), .ref (w.2.2 (j + 7)), .ref (w.2.2 (j + 10)), .ref (w.2.2 (j + 13)), .int (s 5), .int (s 6), .int (s 7), .int (s 8)])
  | 1 => .inr (1, [.ref (w.2.2 (3)), .ref (w.2.2 (hst j)), .ref (w.2.2 (j + 1)), .ref (w.2.2 (j + 2)), .ref (w.2.2 (j + 3)), .ref (w.2.2 (j + 4)), .ref (w.2.2 (j + 5)), .ref (w.2.2 (j + 6)), .ref (w.2.2 (j + 7)), .int (s 9), .int (s 10), .int (s 11), .int (s 12), .int (s 13), .int (s 14), .int (s 15), .int (s 16), .int (s 17), .int (s 18)])
  | 2 => .inr (2, [.ref (w.2.2 (j + 1)), .ref (w.2.2 (j + 2)), .int (s 2), .int (s 3)])
  | 3 => .inr (3, [.ref (w.2.2 (j + 1)), .int (s 1)])
  | 4 => .inr (4, [.ref (w.2.2 (j + 1)), .ref (w.2.2 (j + 4))])
  | 5 => .inr (5, [.ref (w.2.2 (j + 1)), .int (s 1), .int (s 2)])
  | 6 => .inr (6, [.ref (w.2.2 (1)), .ref (w.2.2 (3)), .ref (w.2.2 (17)), .ref (w.2.2 (31)), .ref (w.2.2 (36)), .ref (w.2.2 (41)), .ref (w.2.2 (74)), .ref (w.2.2 (82)), .ref (w.2.2 (124)), .ref (w.2.2 (136)), .int (s 10), .int (s 11), .int (s 12)])
  | 10 => .inl (w.2.1 2, 4, .inr (.inr (.inr (.inr (fun i => some (w.2.2 (42 + 8 * i)))))))
  | 11 => .inl (w.2.1 3, lnC j, .inr (.inr (.inr (.inr (fun i => some (w.2.2 ((s i).toNatClampNeg)))))))
  | _ => .inl (w.2.1 0, lnC j, .inl s)
abbrev LC : List Nat := List.range 139
def lnM (j : Nat) : Nat := ([0, 0, 200, 2, 12, 12, 2, 16, 16, 8, 8, 2, 12, 12, 2, 10, 10, 19, 152, 0, 38, 0, 0, 8, 8, 0, 2, 360, 6, 6, 8, 8, 8, 0, 0, 0, 0, 0, 6] : List Nat).getD j 0
abbrev LM : List Nat := [0, 2, 3, 4, 5, 6, 7, 8, 9, 10, 11, 12, 13, 14, 15, 16, 17, 18, 20, 23, 24, 26, 27, 28, 29, 30, 31, 32, 38]
def EM : EV := fun w j s => match j with
  | 0 => .inr (7, [.int (s 0), .ref (w.2.2 (2)), .ref (w.2.2 (3)), .ref (w.2.2 (4)), .ref (w.2.2 (5)), .ref (w.2.2 (6)), .ref (w.2.2 (7)), .ref (w.2.2 (8)), .ref (w.2.2 (9)), .ref (w.2.2 (10)), .ref (w.2.2 (11)), .ref (w.2.2 (12)), .ref (w.2.2 (13)), .ref (w.2.2 (14)), .ref (w.2.2 (15)), .ref (w.2.2 (16)), .ref (w.2.2 (17)), .ref (w.2.2 (18)), .int (s 18), .ref (w.2.2 (20)), .int (s 20), .int (s 21), .ref (w.2.2 (23)), .ref (w.2.2 (24)), .int (s 24), .ref (w.2.2 (26)), .ref (w.2.2 (27)), .ref (w.2.2 (28)), .ref (w.2.2 (29)), .ref (w.2.2 (30)), .ref (w.2.2 (31)), .ref (w.2.2 (32)), .int (s 32), .int (s 33), .int (s 34), .int (s 35), .int (s 36), .ref (w.2.2 (38))])
  | 32 => .inl (w.2.1 1, lnM 32, .inl s)
  | j => .inl (w.2.1 0, lnM j, .inl s)
set_option maxRecDepth 20000 in
theorem ok_0 : ∀ h, h ∈ bookL → h ∈ LC := by
  intro h hh
  simp only [bookL, List.mem_cons, List.not_mem_nil, or_false] at hh
  rcases hh with rfl | rfl <;> first | decide | (intros; rfl)
set_option maxRecDepth 20000 in
theorem eC_0 : ∀ h, h ∈ bookL → ∀ (w : WV) (s : Nat → Int32), EC w h s = .inr (0, [.ref (w.2.2 (h + 1)), .ref (w.2.2 (h + 4)), .ref (w.2.2 (h + 7)), .ref (w.2.2 (h + 10)), .ref (w.2.2 (h + 13)), .int (s 5), .int (s 6), .int (s 7), .int (s 8)]) := by
  intro h hh
  simp only [bookL, List.mem_cons, List.not_mem_nil, or_false] at hh
  rcases hh with rfl | rfl <;> first | decide | (intros; rfl)
set_option maxRecDepth 20000 in
theorem in_0_0 : ∀ h, h ∈ bookL → h + 1 ∈ pairsL := by
  intro h hh
  simp only [bookL, List.mem_cons, List.not_mem_nil, or_false] at hh
  rcases hh with rfl | rfl <;> first | decide | (intros; rfl)
set_option maxRecDepth 20000 in
theorem in_0_1 : ∀ h, h ∈ bookL → h + 4 ∈ pairsL := by
  intro h hh
  simp only [bookL, List.mem_cons, List.not_mem_nil, or_false] at hh
  rcases hh with rfl | rfl <;> first | decide | (intros; rfl)
set_option maxRecDepth 20000 in
theorem in_0_2 : ∀ h, h ∈ bookL → h + 7 ∈ pairsL := by
  intro h hh
  simp only [bookL, List.mem_cons, List.not_mem_nil, or_false] at hh
  rcases hh with rfl | rfl <;> first | decide | (intros; rfl)
set_option maxRecDepth 20000 in
theorem in_0_3 : ∀ h, h ∈ bookL → h + 10 ∈ pairsL := by
  intro h hh
  simp only [bookL, List.mem_cons, List.not_mem_nil, or_false] at hh
  rcases hh with rfl | rfl <;> first | decide | (intros; rfl)
set_option maxRecDepth 20000 in
theorem oa_0_4 : ∀ h, h ∈ bookL → h + 13 ∈ LC := by
  intro h hh
  simp only [bookL, List.mem_cons, List.not_mem_nil, or_false] at hh
  rcases hh with rfl | rfl <;> first | decide | (intros; rfl)
set_option maxRecDepth 20000 in
theorem ea_0_4 : ∀ h, h ∈ bookL → ∀ (w : WV) (s : Nat → Int32), EC w (h + 13) s = .inl (w.2.1 0, 4, .inl s) := by
  intro h hh
  simp only [bookL, List.mem_cons, List.not_mem_nil, or_false] at hh
  rcases hh with rfl | rfl <;> first | decide | (intros; rfl)
set_option maxRecDepth 20000 in
theorem ok_1 : ∀ h, h ∈ hourL → h ∈ LC := by
  intro h hh
  simp only [hourL, List.mem_cons, List.not_mem_nil, or_false] at hh
  rcases hh with rfl | rfl | rfl | rfl | rfl <;> first | decide | (intros; rfl)
set_option maxRecDepth 20000 in
theorem eC_1 : ∀ h, h ∈ hourL → ∀ (w : WV) (s : Nat → Int32), EC w h s = .inr (1, [.ref (w.2.2 (3)), .ref (w.2.2 (hst h)), .ref (w.2.2 (h + 1)), .ref (w.2.2 (h + 2)), .ref (w.2.2 (h + 3)), .ref (w.2.2 (h + 4)), .ref (w.2.2 (h + 5)), .ref (w.2.2 (h + 6)), .ref (w.2.2 (h + 7)), .int (s 9), .int (s 10), .int (s 11), .int (s 12), .int (s 13), .int (s 14), .int (s 15), .int (s 16), .int (s 17), .int (s 18)]) := by
  intro h hh
  simp only [hourL, List.mem_cons, List.not_mem_nil, or_false] at hh
  rcases hh with rfl | rfl | rfl | rfl | rfl <;> first | decide | (intros; rfl)
set_option maxRecDepth 20000 in
theorem in_1_0 : ∀ h, h ∈ hourL → 3 ∈ bookL := by
  intro h hh
  simp only [hourL, List.mem_cons, List.not_mem_nil, or_false] at hh
  rcases hh with rfl | rfl | rfl | rfl | rfl <;> first | decide | (intros; rfl)
set_option maxRecDepth 20000 in
theorem in_1_1 : ∀ h, h ∈ hourL → hst h ∈ standL := by
  intro h hh
  simp only [hourL, List.mem_cons, List.not_mem_nil, or_false] at hh
  rcases hh with rfl | rfl | rfl | rfl | rfl <;> first | decide | (intros; rfl)
set_option maxRecDepth 20000 in
theorem oa_1_2 : ∀ h, h ∈ hourL → h + 1 ∈ LC := by
  intro h hh
  simp only [hourL, List.mem_cons, List.not_mem_nil, or_false] at hh
  rcases hh with rfl | rfl | rfl | rfl | rfl <;> first | decide | (intros; rfl)
set_option maxRecDepth 20000 in
theorem ea_1_2 : ∀ h, h ∈ hourL → ∀ (w : WV) (s : Nat → Int32), EC w (h + 1) s = .inl (w.2.1 0, 360, .inl s) := by
  intro h hh
  simp only [hourL, List.mem_cons, List.not_mem_nil, or_false] at hh
  rcases hh with rfl | rfl | rfl | rfl | rfl <;> first | decide | (intros; rfl)
set_option maxRecDepth 20000 in
theorem oa_1_3 : ∀ h, h ∈ hourL → h + 2 ∈ LC := by
  intro h hh
  simp only [hourL, List.mem_cons, List.not_mem_nil, or_false] at hh
  rcases hh with rfl | rfl | rfl | rfl | rfl <;> first | decide | (intros; rfl)
set_option maxRecDepth 20000 in
theorem ea_1_3 : ∀ h, h ∈ hourL → ∀ (w : WV) (s : Nat → Int32), EC w (h + 2) s = .inl (w.2.1 0, 6, .inl s) := by
  intro h hh
  simp only [hourL, List.mem_cons, List.not_mem_nil, or_false] at hh
  rcases hh with rfl | rfl | rfl | rfl | rfl <;> first | decide | (intros; rfl)
set_option maxRecDepth 20000 in
theorem oa_1_4 : ∀ h, h ∈ hourL → h + 3 ∈ LC := by
  intro h hh
  simp only [hourL, List.mem_cons, List.not_mem_nil, or_false] at hh
  rcases hh with rfl | rfl | rfl | rfl | rfl <;> first | decide | (intros; rfl)
set_option maxRecDepth 20000 in
theorem ea_1_4 : ∀ h, h ∈ hourL → ∀ (w : WV) (s : Nat → Int32), EC w (h + 3) s = .inl (w.2.1 0, 6, .inl s) := by
  intro h hh
  simp only [hourL, List.mem_cons, List.not_mem_nil, or_false] at hh
  rcases hh with rfl | rfl | rfl | rfl | rfl <;> first | decide | (intros; rfl)
set_option maxRecDepth 20000 in
theorem oa_1_5 : ∀ h, h ∈ hourL → h + 4 ∈ LC := by
  intro h hh
  simp only [hourL, List.mem_cons, List.not_mem_nil, or_false] at hh
  rcases hh with rfl | rfl | rfl | rfl | rfl <;> first | decide | (intros; rfl)
set_option maxRecDepth 20000 in
theorem ea_1_5 : ∀ h, h ∈ hourL → ∀ (w : WV) (s : Nat → Int32), EC w (h + 4) s = .inl (w.2.1 0, 6, .inl s) := by
  intro h hh
  simp only [hourL, List.mem_cons, List.not_mem_nil, or_false] at hh
  rcases hh with rfl | rfl | rfl | rfl | rfl <;> first | decide | (intros; rfl)
set_option maxRecDepth 20000 in
theorem oa_1_6 : ∀ h, h ∈ hourL → h + 5 ∈ LC := by
  intro h hh
  simp only [hourL, List.mem_cons, List.not_mem_nil, or_false] at hh
  rcases hh with rfl | rfl | rfl | rfl | rfl <;> first | decide | (intros; rfl)
set_option maxRecDepth 20000 in
theorem ea_1_6 : ∀ h, h ∈ hourL → ∀ (w : WV) (s : Nat → Int32), EC w (h + 5) s = .inl (w.2.1 0, 6, .inl s) := by
  intro h hh
  simp only [hourL, List.mem_cons, List.not_mem_nil, or_false] at hh
  rcases hh with rfl | rfl | rfl | rfl | rfl <;> first | decide | (intros; rfl)
set_option maxRecDepth 20000 in
theorem oa_1_7 : ∀ h, h ∈ hourL → h + 6 ∈ LC := by
  intro h hh
  simp only [hourL, List.mem_cons, List.not_mem_nil, or_false] at hh
  rcases hh with rfl | rfl | rfl | rfl | rfl <;> first | decide | (intros; rfl)
set_option maxRecDepth 20000 in
theorem ea_1_7 : ∀ h, h ∈ hourL → ∀ (w : WV) (s : Nat → Int32), EC w (h + 6) s = .inl (w.2.1 0, 8, .inl s) := by
  intro h hh
  simp only [hourL, List.mem_cons, List.not_mem_nil, or_false] at hh
  rcases hh with rfl | rfl | rfl | rfl | rfl <;> first | decide | (intros; rfl)
set_option maxRecDepth 20000 in
theorem oa_1_8 : ∀ h, h ∈ hourL → h + 7 ∈ LC := by
  intro h hh
  simp only [hourL, List.mem_cons, List.not_mem_nil, or_false] at hh
  rcases hh with rfl | rfl | rfl | rfl | rfl <;> first | decide | (intros; rfl)
set_option maxRecDepth 20000 in
theorem ea_1_8 : ∀ h, h ∈ hourL → ∀ (w : WV) (s : Nat → Int32), EC w (h + 7) s = .inl (w.2.1 0, 8, .inl s) := by
  intro h hh
  simp only [hourL, List.mem_cons, List.not_mem_nil, or_false] at hh
  rcases hh with rfl | rfl | rfl | rfl | rfl <;> first | decide | (intros; rfl)
set_option maxRecDepth 20000 in
theorem ok_2 : ∀ h, h ∈ pairsL → h ∈ LC := by
  intro h hh
  simp only [pairsL, List.mem_cons, List.not_mem_nil, or_false] at hh
  rcases hh with rfl | rfl | rfl | rfl | rfl | rfl | rfl | rfl | rfl | rfl | rfl | rfl | rfl | rfl | rfl | rfl | rfl | rfl | rfl | rfl | rfl <;> first | decide | (intros; rfl)
set_option maxRecDepth 20000 in
theorem eC_2 : ∀ h, h ∈ pairsL → ∀ (w : WV) (s : Nat → Int32), EC w h s = .inr (2, [.ref (w.2.2 (h + 1)), .ref (w.2.2 (h + 2)), .int (s 2), .int (s 3)]) := by
  intro h hh
  simp only [pairsL, List.mem_cons, List.not_mem_nil, or_false] at hh
  rcases hh with rfl | rfl | rfl | rfl | rfl | rfl | rfl | rfl | rfl | rfl | rfl | rfl | rfl | rfl | rfl | rfl | rfl | rfl | rfl | rfl | rfl <;> first | decide | (intros; rfl)
set_option maxRecDepth 20000 in
theorem oa_2_0 : ∀ h, h ∈ pairsL → h + 1 ∈ LC := by
  intro h hh
  simp only [pairsL, List.mem_cons, List.not_mem_nil, or_false] at hh
  rcases hh with rfl | rfl | rfl | rfl | rfl | rfl | rfl | rfl | rfl | rfl | rfl | rfl | rfl | rfl | rfl | rfl | rfl | rfl | rfl | rfl | rfl <;> first | decide | (intros; rfl)
set_option maxRecDepth 20000 in
theorem ea_2_0 : ∀ h, h ∈ pairsL → ∀ (w : WV) (s : Nat → Int32), EC w (h + 1) s = .inl (w.2.1 0, 8, .inl s) := by
  intro h hh
  simp only [pairsL, List.mem_cons, List.not_mem_nil, or_false] at hh
  rcases hh with rfl | rfl | rfl | rfl | rfl | rfl | rfl | rfl | rfl | rfl | rfl | rfl | rfl | rfl | rfl | rfl | rfl | rfl | rfl | rfl | rfl <;> first | decide | (intros; rfl)
set_option maxRecDepth 20000 in
theorem oa_2_1 : ∀ h, h ∈ pairsL → h + 2 ∈ LC := by
  intro h hh
  simp only [pairsL, List.mem_cons, List.not_mem_nil, or_false] at hh
  rcases hh with rfl | rfl | rfl | rfl | rfl | rfl | rfl | rfl | rfl | rfl | rfl | rfl | rfl | rfl | rfl | rfl | rfl | rfl | rfl | rfl | rfl <;> first | decide | (intros; rfl)
set_option maxRecDepth 20000 in
theorem ea_2_1 : ∀ h, h ∈ pairsL → ∀ (w : WV) (s : Nat → Int32), EC w (h + 2) s = .inl (w.2.1 0, 8, .inl s) := by
  intro h hh
  simp only [pairsL, List.mem_cons, List.not_mem_nil, or_false] at hh
  rcases hh with rfl | rfl | rfl | rfl | rfl | rfl | rfl | rfl | rfl | rfl | rfl | rfl | rfl | rfl | rfl | rfl | rfl | rfl | rfl | rfl | rfl <;> first | decide | (intros; rfl)
set_option maxRecDepth 20000 in
theorem ok_3 : ∀ h, h ∈ pileL → h ∈ LC := by
  intro h hh
  simp only [pileL, List.mem_cons, List.not_mem_nil, or_false] at hh
  rcases hh with rfl | rfl <;> first | decide | (intros; rfl)
set_option maxRecDepth 20000 in
theorem eC_3 : ∀ h, h ∈ pileL → ∀ (w : WV) (s : Nat → Int32), EC w h s = .inr (3, [.ref (w.2.2 (h + 1)), .int (s 1)]) := by
  intro h hh
  simp only [pileL, List.mem_cons, List.not_mem_nil, or_false] at hh
  rcases hh with rfl | rfl <;> first | decide | (intros; rfl)
set_option maxRecDepth 20000 in
theorem oa_3_0 : ∀ h, h ∈ pileL → h + 1 ∈ LC := by
  intro h hh
  simp only [pileL, List.mem_cons, List.not_mem_nil, or_false] at hh
  rcases hh with rfl | rfl <;> first | decide | (intros; rfl)
set_option maxRecDepth 20000 in
theorem ea_3_0 : ∀ h, h ∈ pileL → ∀ (w : WV) (s : Nat → Int32), EC w (h + 1) s = .inl (w.2.1 3, lnC (h + 1), .inr (.inr (.inr (.inr (fun i => some (w.2.2 ((s i).toNatClampNeg))))))) := by
  intro h hh
  simp only [pileL, List.mem_cons, List.not_mem_nil, or_false] at hh
  rcases hh with rfl | rfl <;> first | decide | (intros; rfl)
set_option maxRecDepth 20000 in
theorem ok_4 : ∀ h, h ∈ standL → h ∈ LC := by
  intro h hh
  simp only [standL, List.mem_cons, List.not_mem_nil, or_false] at hh
  rcases hh with rfl | rfl | rfl | rfl | rfl | rfl | rfl | rfl | rfl | rfl | rfl | rfl <;> first | decide | (intros; rfl)
set_option maxRecDepth 20000 in
theorem eC_4 : ∀ h, h ∈ standL → ∀ (w : WV) (s : Nat → Int32), EC w h s = .inr (4, [.ref (w.2.2 (h + 1)), .ref (w.2.2 (h + 4))]) := by
  intro h hh
  simp only [standL, List.mem_cons, List.not_mem_nil, or_false] at hh
  rcases hh with rfl | rfl | rfl | rfl | rfl | rfl | rfl | rfl | rfl | rfl | rfl | rfl <;> first | decide | (intros; rfl)
set_option maxRecDepth 20000 in
theorem in_4_0 : ∀ h, h ∈ standL → h + 1 ∈ pairsL := by
  intro h hh
  simp only [standL, List.mem_cons, List.not_mem_nil, or_false] at hh
  rcases hh with rfl | rfl | rfl | rfl | rfl | rfl | rfl | rfl | rfl | rfl | rfl | rfl <;> first | decide | (intros; rfl)
set_option maxRecDepth 20000 in
theorem oa_4_1 : ∀ h, h ∈ standL → h + 4 ∈ LC := by
  intro h hh
  simp only [standL, List.mem_cons, List.not_mem_nil, or_false] at hh
  rcases hh with rfl | rfl | rfl | rfl | rfl | rfl | rfl | rfl | rfl | rfl | rfl | rfl <;> first | decide | (intros; rfl)
set_option maxRecDepth 20000 in
theorem ea_4_1 : ∀ h, h ∈ standL → ∀ (w : WV) (s : Nat → Int32), EC w (h + 4) s = .inl (w.2.1 0, 6, .inl s) := by
  intro h hh
  simp only [standL, List.mem_cons, List.not_mem_nil, or_false] at hh
  rcases hh with rfl | rfl | rfl | rfl | rfl | rfl | rfl | rfl | rfl | rfl | rfl | rfl <;> first | decide | (intros; rfl)
set_option maxRecDepth 20000 in
theorem ok_5 : ∀ h, h ∈ textL → h ∈ LC := by
  intro h hh
  simp only [textL, List.mem_cons, List.not_mem_nil, or_false] at hh
  subst hh; first | decide | (intros; rfl)
set_option maxRecDepth 20000 in
theorem eC_5 : ∀ h, h ∈ textL → ∀ (w : WV) (s : Nat → Int32), EC w h s = .inr (5, [.ref (w.2.2 (h + 1)), .int (s 1), .int (s 2)]) := by
  intro h hh
  simp only [textL, List.mem_cons, List.not_mem_nil, or_false] at hh
  subst hh; first | decide | (intros; rfl)
set_option maxRecDepth 20000 in
theorem oa_5_0 : ∀ h, h ∈ textL → h + 1 ∈ LC := by
  intro h hh
  simp only [textL, List.mem_cons, List.not_mem_nil, or_false] at hh
  subst hh; first | decide | (intros; rfl)
set_option maxRecDepth 20000 in
theorem ea_5_0 : ∀ h, h ∈ textL → ∀ (w : WV) (s : Nat → Int32), EC w (h + 1) s = .inl (w.2.1 0, 200, .inl s) := by
  intro h hh
  simp only [textL, List.mem_cons, List.not_mem_nil, or_false] at hh
  subst hh; first | decide | (intros; rfl)
theorem eC_6 : ∀ (w : WV) (s : Nat → Int32), EC w 0 s = .inr (6, [.ref (w.2.2 (1)), .ref (w.2.2 (3)), .ref (w.2.2 (17)), .ref (w.2.2 (31)), .ref (w.2.2 (36)), .ref (w.2.2 (41)), .ref (w.2.2 (74)), .ref (w.2.2 (82)), .ref (w.2.2 (124)), .ref (w.2.2 (136)), .int (s 10), .int (s 11), .int (s 12)]) := fun _ _ => rfl
theorem ea_6_5 : ∀ (w : WV) (s : Nat → Int32), EC w 41 s = .inl (w.2.1 2, 4, .inr (.inr (.inr (.inr (fun i => some (w.2.2 (42 + 8 * i))))))) := fun _ _ => rfl
theorem in_hours {i : Int32} (h : ¬ (i < 0 ∨ 4 ≤ i.toNatClampNeg)) : 42 + 8 * i.toNatClampNeg ∈ hourL := by
  have h4 : i.toNatClampNeg < 4 := Nat.not_le.mp fun q => h (Or.inr q)
  generalize i.toNatClampNeg = k at h4
  match k, h4 with
  | 0, _ => decide
  | 1, _ => decide
  | 2, _ => decide
  | 3, _ => decide
theorem eM_7 : ∀ (w : WV) (s : Nat → Int32), EM w 0 s = .inr (7, [.int (s 0), .ref (w.2.2 (2)), .ref (w.2.2 (3)), .ref (w.2.2 (4)), .ref (w.2.2 (5)), .ref (w.2.2 (6)), .ref (w.2.2 (7)), .ref (w.2.2 (8)), .ref (w.2.2 (9)), .ref (w.2.2 (10)), .ref (w.2.2 (11)), .ref (w.2.2 (12)), .ref (w.2.2 (13)), .ref (w.2.2 (14)), .ref (w.2.2 (15)), .ref (w.2.2 (16)), .ref (w.2.2 (17)), .ref (w.2.2 (18)), .int (s 18), .ref (w.2.2 (20)), .int (s 20), .int (s 21), .ref (w.2.2 (23)), .ref (w.2.2 (24)), .int (s 24), .ref (w.2.2 (26)), .ref (w.2.2 (27)), .ref (w.2.2 (28)), .ref (w.2.2 (29)), .ref (w.2.2 (30)), .ref (w.2.2 (31)), .ref (w.2.2 (32)), .int (s 32), .int (s 33), .int (s 34), .int (s 35), .int (s 36), .ref (w.2.2 (38))]) := fun _ _ => rfl
theorem eM_101 : ∀ (w : WV) (s : Nat → Int32), EM w 2 s = .inl (w.2.1 0, 200, .inl s) := fun _ _ => rfl
theorem eM_102 : ∀ (w : WV) (s : Nat → Int32), EM w 3 s = .inl (w.2.1 0, 2, .inl s) := fun _ _ => rfl
theorem eM_103 : ∀ (w : WV) (s : Nat → Int32), EM w 4 s = .inl (w.2.1 0, 12, .inl s) := fun _ _ => rfl
theorem eM_104 : ∀ (w : WV) (s : Nat → Int32), EM w 5 s = .inl (w.2.1 0, 12, .inl s) := fun _ _ => rfl
theorem eM_105 : ∀ (w : WV) (s : Nat → Int32), EM w 6 s = .inl (w.2.1 0, 2, .inl s) := fun _ _ => rfl
theorem eM_106 : ∀ (w : WV) (s : Nat → Int32), EM w 7 s = .inl (w.2.1 0, 16, .inl s) := fun _ _ => rfl
theorem eM_107 : ∀ (w : WV) (s : Nat → Int32), EM w 8 s = .inl (w.2.1 0, 16, .inl s) := fun _ _ => rfl
theorem eM_108 : ∀ (w : WV) (s : Nat → Int32), EM w 9 s = .inl (w.2.1 0, 8, .inl s) := fun _ _ => rfl
theorem eM_109 : ∀ (w : WV) (s : Nat → Int32), EM w 10 s = .inl (w.2.1 0, 8, .inl s) := fun _ _ => rfl
theorem eM_110 : ∀ (w : WV) (s : Nat → Int32), EM w 11 s = .inl (w.2.1 0, 2, .inl s) := fun _ _ => rfl
theorem eM_111 : ∀ (w : WV) (s : Nat → Int32), EM w 12 s = .inl (w.2.1 0, 12, .inl s) := fun _ _ => rfl
theorem eM_112 : ∀ (w : WV) (s : Nat → Int32), EM w 13 s = .inl (w.2.1 0, 12, .inl s) := fun _ _ => rfl
theorem eM_113 : ∀ (w : WV) (s : Nat → Int32), EM w 14 s = .inl (w.2.1 0, 2, .inl s) := fun _ _ => rfl
theorem eM_114 : ∀ (w : WV) (s : Nat → Int32), EM w 15 s = .inl (w.2.1 0, 10, .inl s) := fun _ _ => rfl
theorem eM_115 : ∀ (w : WV) (s : Nat → Int32), EM w 16 s = .inl (w.2.1 0, 10, .inl s) := fun _ _ => rfl
theorem eM_116 : ∀ (w : WV) (s : Nat → Int32), EM w 17 s = .inl (w.2.1 0, 19, .inl s) := fun _ _ => rfl
theorem eM_117 : ∀ (w : WV) (s : Nat → Int32), EM w 18 s = .inl (w.2.1 0, 152, .inl s) := fun _ _ => rfl
theorem eM_119 : ∀ (w : WV) (s : Nat → Int32), EM w 20 s = .inl (w.2.1 0, 38, .inl s) := fun _ _ => rfl
theorem eM_122 : ∀ (w : WV) (s : Nat → Int32), EM w 23 s = .inl (w.2.1 0, 8, .inl s) := fun _ _ => rfl
theorem eM_123 : ∀ (w : WV) (s : Nat → Int32), EM w 24 s = .inl (w.2.1 0, 8, .inl s) := fun _ _ => rfl
theorem eM_125 : ∀ (w : WV) (s : Nat → Int32), EM w 26 s = .inl (w.2.1 0, 2, .inl s) := fun _ _ => rfl
theorem eM_126 : ∀ (w : WV) (s : Nat → Int32), EM w 27 s = .inl (w.2.1 0, 360, .inl s) := fun _ _ => rfl
theorem eM_127 : ∀ (w : WV) (s : Nat → Int32), EM w 28 s = .inl (w.2.1 0, 6, .inl s) := fun _ _ => rfl
theorem eM_128 : ∀ (w : WV) (s : Nat → Int32), EM w 29 s = .inl (w.2.1 0, 6, .inl s) := fun _ _ => rfl
theorem eM_129 : ∀ (w : WV) (s : Nat → Int32), EM w 30 s = .inl (w.2.1 0, 8, .inl s) := fun _ _ => rfl
theorem eM_130 : ∀ (w : WV) (s : Nat → Int32), EM w 31 s = .inl (w.2.1 0, 8, .inl s) := fun _ _ => rfl
theorem eM_131 : ∀ (w : WV) (s : Nat → Int32), EM w 32 s = .inl (w.2.1 1, 8, .inl s) := fun _ _ => rfl
theorem eM_137 : ∀ (w : WV) (s : Nat → Int32), EM w 38 s = .inl (w.2.1 0, 6, .inl s) := fun _ _ => rfl
/-- a write, named -/
def bm {β : Type} (x : Mem) (f : Mem → Option β) : Option β := f x
theorem og_m {β : Type} {x : Mem} {f : Mem → Option β} {y : β} (h : bm x f = some y) : ∃ a, a = x ∧ f a = some y := ⟨x, rfl, h⟩
def ob {α β : Type} (x : Option (Mem × α)) (f : Mem → α → Option β) : Option β := match x with
  | none => none
  | some q => f q.1 q.2
theorem og_o {α β : Type} {x : Option (Mem × α)} {f : Mem → α → Option β} {y : β} (h : ob x f = some y) : ∃ a b, x = some (a, b) ∧ f a b = some y := by
  cases x with
  | none => cases h
  | some q => exact ⟨q.1, q.2, rfl, h⟩
theorem ne_toInt {x v : Int32} {n : Int} (h : ¬ x = v) (hv : v.toInt = n) : x.toInt ≠ n := fun e => h (Int32.toInt_inj.mp (e.trans hv.symm))
section Rows2
variable {p : Program} {l : Launch} {e : Env} {R : Room} {s : State} {m : MethodId} {args : Array Value} {below : List Frame} {meth : Method} {c : Code} {H : Heap} {locs : List Loc} {cells slots : Nat} {Q : State → Prop}
variable {cc : ByteArray} {pc nL : Nat} {ls : Array Slot} {rest : List Value} {E : EV} {L : List Nat} {w : WV} {σ σ' : Mem} {own : String} {v r : Int32}
theorem q_iret (S : CallFix p m c cc nL s args gtbl own) (hr : meth.sig.returnType = some .int) (hlk : meth.locks = false) (hR : Rp E L w σ H) (hS : va_S (AW L w) s.heap H locs) (h0 : some (σ, v) = some (σ', r)) (hdg : decode cc pc = .ok (.ireturn, 1)) : W p l e R s m args below meth c H locs cells slots (MQ below (Qw E L w σ' (some (.int r))) args s cells slots (AW L w)) (F0 m pc ls [.int v]) := by
  cases h0
  exact W.iret S.1 S.2.1 hr (fun t ht hW => ⟨rfl, by rw [ht]; exact hR, hS.F ht⟩) hS.2.2 hdg hlk
theorem q_zret (S : CallFix p m c cc nL s args gtbl own) (hr : meth.sig.returnType = some .boolean) (hlk : meth.locks = false) (hR : Rp E L w σ H) (hS : va_S (AW L w) s.heap H locs) (hb : v = 0 ∨ v = 1) (h0 : some (σ, v) = some (σ', r)) (hdg : decode cc pc = .ok (.ireturn, 1)) : W p l e R s m args below meth c H locs cells slots (MQ below (Qw E L w σ' (some (.int r))) args s cells slots (AW L w)) (F0 m pc ls [.int v]) := by
  cases h0
  exact W.zret S.1 S.2.1 hr (nb_n hb) (fun t ht hW => ⟨rfl, by rw [ht]; exact hR, hS.F ht⟩) hS.2.2 hdg hlk
theorem q_vret (S : CallFix p m c cc nL s args gtbl own) (hr : meth.sig.returnType = none) (hlk : meth.locks = false) (hR : Rp E L w σ H) (hS : va_S (AW L w) s.heap H locs) (h0 : some σ = some σ') (hdg : decode cc pc = .ok (.return_, 1)) : W p l e R s m args below meth c H locs cells slots (MQ below (Qw E L w σ' none) args s cells slots (AW L w)) (F0 m pc ls []) := by
  cases h0
  exact W.vret S.1 S.2.1 hr (fun t ht hW => ⟨rfl, by rw [ht]; exact hR, hS.F ht⟩) hS.2.2 hdg hlk
theorem q_aret (S : CallFix p m c cc nL s args gtbl own) {C : String} (hr : meth.sig.returnType = some (.object C)) (hlk : meth.locks = false) (hR : Rp E L w σ H) (hS : va_S (AW L w) s.heap H locs) {q q' : Nat} (h0 : some (σ, q) = some (σ', q')) (hdg : decode cc pc = .ok (.areturn, 1)) : W p l e R s m args below meth c H locs cells slots (MQ below (Qw E L w σ' (some (.ref (w.2.2 q')))) args s cells slots (AW L w)) (F0 m pc ls [.ref (w.2.2 q)]) := by
  cases h0
  exact W.aret S.1 S.2.1 hr (Or.inl ⟨_, rfl⟩) (Or.inr ⟨_, rfl⟩) (fun t ht hW => ⟨rfl, by rw [ht]; exact hR, hS.F ht⟩) hS.2.2 hdg hlk
theorem q_ipure (S : CallFix p m c cc nL s args gtbl own) (hr : meth.sig.returnType = some .int) (hlk : meth.locks = false) (h0 : some v = some r) (hdg : decode cc pc = .ok (.ireturn, 1)) : W p l e R s m args below meth c s.heap [] cells slots (MQ below (Qp (.int r)) args s cells slots (fun _ => False)) (F0 m pc ls [.int v]) := by
  cases h0
  exact W.iret S.1 S.2.1 hr (fun t ht hW => ⟨rfl, ht⟩) (fun q hq => by cases hq) hdg hlk
theorem q_zpure (S : CallFix p m c cc nL s args gtbl own) (hr : meth.sig.returnType = some .boolean) (hlk : meth.locks = false) (hb : v = 0 ∨ v = 1) (h0 : some v = some r) (hdg : decode cc pc = .ok (.ireturn, 1)) : W p l e R s m args below meth c s.heap [] cells slots (MQ below (Qp (.int r)) args s cells slots (fun _ => False)) (F0 m pc ls [.int v]) := by
  cases h0
  exact W.zret S.1 S.2.1 hr (nb_n hb) (fun t ht hW => ⟨rfl, ht⟩) (fun q hq => by cases hq) hdg hlk
theorem q_tabI (S : CallFix p m c cc nL s args gtbl own) {dflt lo hi : Int} {offs : Array Int} {len : Nat} {x v : Int32} {off : Int} {tgt : Nat} (hdg : decode cc pc = .ok (.tableswitch dflt lo hi offs, len)) (hx : x = v) (h1 : ¬ v.toInt < lo) (h2 : ¬ hi < v.toInt) (ho : offs[(v.toInt - lo).toNat]? = some off) (ht : (pc : Int) + off = (tgt : Int)) (k : W p l e R s m args below meth c H locs cells slots Q (F0 m tgt ls rest)) : W p l e R s m args below meth c H locs cells slots Q (F0 m pc ls (.int x :: rest)) := by
  subst hx
  exact lv_tableIn S.1 S.2.1 hdg h1 h2 ho ht k
theorem q_tabD (S : CallFix p m c cc nL s args gtbl own) {dflt lo hi : Int} {offs : Array Int} {len : Nat} {x : Int32} {tgt : Nat} (hdg : decode cc pc = .ok (.tableswitch dflt lo hi offs, len)) (vs : List Int) (hsz : hi - lo < (offs.size : Int)) (hall : ∀ i, i < offs.size → offs[i]? = some dflt ∨ (lo + (i : Int)) ∈ vs) (hne : ∀ v ∈ vs, x.toInt ≠ v) (ht : (pc : Int) + dflt = (tgt : Int)) (k : W p l e R s m args below meth c H locs cells slots Q (F0 m tgt ls rest)) : W p l e R s m args below meth c H locs cells slots Q (F0 m pc ls (.int x :: rest)) := by
  by_cases h1 : x.toInt < lo
  · exact lv_tableOut S.1 S.2.1 hdg (Or.inl h1) ht k
  · by_cases h2 : hi < x.toInt
    · exact lv_tableOut S.1 S.2.1 hdg (Or.inr h2) ht k
    · have hi1 : (x.toInt - lo).toNat < offs.size := by omega
      rcases hall _ hi1 with h3 | h3
      · exact lv_tableIn S.1 S.2.1 hdg h1 h2 h3 ht k
      · exact absurd (show x.toInt = lo + ((x.toInt - lo).toNat : Int) by omega) (hne _ h3)
theorem q_lokI (S : CallFix p m c cc nL s args gtbl own) {dflt : Int} {ps : Array (Int × Int)} {len : Nat} {x v : Int32} {off : Int} {tgt : Nat} (hdg : decode cc pc = .ok (.lookupswitch dflt ps, len)) (hx : x = v) (hp : (ps.toList.zip (ps.toList.drop 1)).all (fun (a, next) => a.1 < next.1) = true) (ho : Op.lookupswitch.offset ps.toList dflt v.toInt = off) (ht : (pc : Int) + off = (tgt : Int)) (k : W p l e R s m args below meth c H locs cells slots Q (F0 m tgt ls rest)) : W p l e R s m args below meth c H locs cells slots Q (F0 m pc ls (.int x :: rest)) := by
  subst hx
  exact lv_lookup S.1 S.2.1 hdg hp ho ht k
theorem q_lokD2 (S : CallFix p m c cc nL s args gtbl own) {dflt k1 o1 k2 o2 : Int} {len : Nat} {x : Int32} {tgt : Nat} (hdg : decode cc pc = .ok (.lookupswitch dflt #[(k1, o1), (k2, o2)], len)) (hp : k1 < k2) (h1 : x.toInt ≠ k1) (h2 : x.toInt ≠ k2) (ht : (pc : Int) + dflt = (tgt : Int)) (k : W p l e R s m args below meth c H locs cells slots Q (F0 m tgt ls rest)) : W p l e R s m args below meth c H locs cells slots Q (F0 m pc ls (.int x :: rest)) := by
  refine lv_lookup S.1 S.2.1 hdg (by simp [hp]) ?_ ht k
  simp [Op.lookupswitch.offset, h1, h2, Ne.symm h1, Ne.symm h2]
theorem q_ld (S : CallFix p m c cc nL s args gtbl own) {j k : Nat} (hK : KS L w s) (hR : Rp E L w σ H) (hj : j ∈ L) {n : Nat} (he : E w j (σ j) = .inl (w.2.1 0, n, .inl (σ j))) {i : Int32} (hin : vp_in i n) (hk : i.toNatClampNeg = k) (hdg : decode cc pc = .ok (.iaload, 1))
    (kk : W p l e R s m args below meth c H locs cells slots Q (F0 m (pc + 1) ls (.int (σ j k) :: rest))) : W p l e R s m args below meth c H locs cells slots Q (F0 m pc ls (.int i :: .ref (w.2.2 j) :: rest)) := by
  subst hk
  exact r_ild S hK hR hj he hin hdg kk
theorem q_st (S : CallFix p m c cc nL s args gtbl own) {j k : Nat} (hK : KS L w s) (hR : Rp E L w σ H) (hS : va_S (AW L w) s.heap H locs) (hj : j ∈ L) {n : Nat} (he : ∀ f : Nat → Int32, E w j f = .inl (w.2.1 0, n, .inl f)) {i x : Int32} (hin : vp_in i n) (hk : i.toNatClampNeg = k) (hm : σ' = mu σ j k x) (hdg : decode cc pc = .ok (.iastore, 1))
    (kk : ∀ (H1 : Heap) (locs1 : List Loc), Rp E L w σ' H1 → va_S (AW L w) s.heap H1 locs1 → W p l e R s m args below meth c H1 locs1 cells slots Q (F0 m (pc + 1) ls rest)) : W p l e R s m args below meth c H locs cells slots Q (F0 m pc ls (.int x :: .int i :: .ref (w.2.2 j) :: rest)) := by
  subst hk
  subst hm
  exact r_ist S hK hR hS hj he hin hdg kk
theorem q_zst (S : CallFix p m c cc nL s args gtbl own) {j k : Nat} (hK : KS L w s) (hR : Rp E L w σ H) (hS : va_S (AW L w) s.heap H locs) (hj : j ∈ L) {n : Nat} (he : ∀ f : Nat → Int32, E w j f = .inl (w.2.1 1, n, .inl f)) {i x : Int32} (hb : x = 0 ∨ x = 1) (hin : vp_in i n) (hk : i.toNatClampNeg = k) (hm : σ' = mu σ j k x) (hdg : decode cc pc = .ok (.bastore, 1))
    (kk : ∀ (H1 : Heap) (locs1 : List Loc), Rp E L w σ' H1 → va_S (AW L w) s.heap H1 locs1 → W p l e R s m args below meth c H1 locs1 cells slots Q (F0 m (pc + 1) ls rest)) : W p l e R s m args below meth c H locs cells slots Q (F0 m pc ls (.int x :: .int i :: .ref (w.2.2 j) :: rest)) := by
  subst hk
  subst hm
  exact r_zst S hK hR hS hj he hb hin hdg kk
end Rows2
end
section
theorem ii1 (x : Int32) : x + Int32.ofInt 1 = x + 1 := rfl
theorem vin {i : Int32} {n : Nat} (h : ¬ (i < 0 ∨ n ≤ i.toNatClampNeg)) : vp_in i n := h
theorem q_ast {p : Program} {l : Launch} {e : Env} {R : Room} {s : State} {m : MethodId} {args : Array Value} {below : List Frame} {meth : Method} {c : Code} {H : Heap} {locs : List Loc} {cells slots : Nat} {Q : State → Prop} {cc : ByteArray} {pc nL : Nat} {ls : Array Slot} {rest : List Value} {w : WV} {σ σ' : Mem} {E : EV} {L : List Nat} {own : String} {j : Nat} (S : CallFix p m c cc nL s args gtbl own) (hK : KS L w s) (hR : Rp E L w σ H) (hS : va_S (AW L w) s.heap H locs) (hj : j ∈ L) {n t0 ci v : Nat} {r : vw_C} {vs : List Value} {cA : ClassId} (he : ∀ f : Nat → Int32, E w j f = .inl (cA, n, .inr (.inr (.inr (.inr (fun i => some (w.2.2 ((f i).toNatClampNeg)))))))) (ht : (tysW w)[t0]? = some (cA, .object r.1)) {x : Int32} (hx : x.toNatClampNeg = v) (hv : v ∈ L) (hev : E w v (σ v) = .inr (ci, vs)) (hc : vwCl[ci]? = some r) {i : Int32} (hin : vp_in i n) (hm : σ' = mu σ j i.toNatClampNeg x) (hdg : decode cc pc = .ok (.aastore, 1))
    (kk : ∀ (H1 : Heap) (locs1 : List Loc), Rp E L w σ' H1 → va_S (AW L w) s.heap H1 locs1 → W p l e R s m args below meth c H1 locs1 cells slots Q (F0 m (pc + 1) ls rest)) : W p l e R s m args below meth c H locs cells slots Q (F0 m pc ls (.ref (w.2.2 v) :: .int i :: .ref (w.2.2 j) :: rest)) := by
  subst hm
  exact r_ast S hK hR hS hj he ht hx hv hev hc hin hdg kk
theorem g0_14 {p : Program} {l : Launch} {e : Env} {R : Room} {s : State} {m : MethodId} {args : Array Value} {below : List Frame} {meth : Method} {c : Code} {H : Heap} {locs : List Loc} {cells slots : Nat} {Q : State → Prop} {cc : ByteArray} {pc nL : Nat} {ls : Array Slot} {rest : List Value} {w : WV} {σ : Mem} (S : CallFix p m c cc nL s args gtbl RX0) (hK : KS LC w s) (hR : Rp EC LC w σ H) {h : Nat} (hh : h ∈ bookL) {t : Nat} (ht : h + 1 = t) (hdg : decode cc pc = .ok (.getfield 14, 3)) (kk : W p l e R s m args below meth c H locs cells slots Q (F0 m (pc + 3) ls (.ref (w.2.2 t) :: rest))) : W p l e R s m args below meth c H locs cells slots Q (F0 m pc ls (.ref (w.2.2 h) :: rest)) := by subst ht; exact r_get S hK hR (ok_0 _ hh) inX0 (eC_0 _ hh w _) rfl 0 (by decide) (gt_at 140 (by decide +kernel) (by decide +kernel)) rfl hdg kk
theorem g0_20 {p : Program} {l : Launch} {e : Env} {R : Room} {s : State} {m : MethodId} {args : Array Value} {below : List Frame} {meth : Method} {c : Code} {H : Heap} {locs : List Loc} {cells slots : Nat} {Q : State → Prop} {cc : ByteArray} {pc nL : Nat} {ls : Array Slot} {rest : List Value} {w : WV} {σ : Mem} (S : CallFix p m c cc nL s args gtbl RX0) (hK : KS LC w s) (hR : Rp EC LC w σ H) {h : Nat} (hh : h ∈ bookL) {t : Nat} (ht : h + 4 = t) (hdg : decode cc pc = .ok (.getfield 20, 3)) (kk : W p l e R s m args below meth c H locs cells slots Q (F0 m (pc + 3) ls (.ref (w.2.2 t) :: rest))) : W p l e R s m args below meth c H locs cells slots Q (F0 m pc ls (.ref (w.2.2 h) :: rest)) := by subst ht; exact r_get S hK hR (ok_0 _ hh) inX0 (eC_0 _ hh w _) rfl 1 (by decide) (gt_at 143 (by decide +kernel) (by decide +kernel)) rfl hdg kk
theorem g0_23 {p : Program} {l : Launch} {e : Env} {R : Room} {s : State} {m : MethodId} {args : Array Value} {below : List Frame} {meth : Method} {c : Code} {H : Heap} {locs : List Loc} {cells slots : Nat} {Q : State → Prop} {cc : ByteArray} {pc nL : Nat} {ls : Array Slot} {rest : List Value} {w : WV} {σ : Mem} (S : CallFix p m c cc nL s args gtbl RX0) (hK : KS LC w s) (hR : Rp EC LC w σ H) {h : Nat} (hh : h ∈ bookL) {t : Nat} (ht : h + 7 = t) (hdg : decode cc pc = .ok (.getfield 23, 3)) (kk : W p l e R s m args below meth c H locs cells slots Q (F0 m (pc + 3) ls (.ref (w.2.2 t) :: rest))) : W p l e R s m args below meth c H locs cells slots Q (F0 m pc ls (.ref (w.2.2 h) :: rest)) := by subst ht; exact r_get S hK hR (ok_0 _ hh) inX0 (eC_0 _ hh w _) rfl 2 (by decide) (gt_at 146 (by decide +kernel) (by decide +kernel)) rfl hdg kk
theorem g0_26 {p : Program} {l : Launch} {e : Env} {R : Room} {s : State} {m : MethodId} {args : Array Value} {below : List Frame} {meth : Method} {c : Code} {H : Heap} {locs : List Loc} {cells slots : Nat} {Q : State → Prop} {cc : ByteArray} {pc nL : Nat} {ls : Array Slot} {rest : List Value} {w : WV} {σ : Mem} (S : CallFix p m c cc nL s args gtbl RX0) (hK : KS LC w s) (hR : Rp EC LC w σ H) {h : Nat} (hh : h ∈ bookL) {t : Nat} (ht : h + 10 = t) (hdg : decode cc pc = .ok (.getfield 26, 3)) (kk : W p l e R s m args below meth c H locs cells slots Q (F0 m (pc + 3) ls (.ref (w.2.2 t) :: rest))) : W p l e R s m args below meth c H locs cells slots Q (F0 m pc ls (.ref (w.2.2 h) :: rest)) := by subst ht; exact r_get S hK hR (ok_0 _ hh) inX0 (eC_0 _ hh w _) rfl 3 (by decide) (gt_at 148 (by decide +kernel) (by decide +kernel)) rfl hdg kk
theorem g0_29 {p : Program} {l : Launch} {e : Env} {R : Room} {s : State} {m : MethodId} {args : Array Value} {below : List Frame} {meth : Method} {c : Code} {H : Heap} {locs : List Loc} {cells slots : Nat} {Q : State → Prop} {cc : ByteArray} {pc nL : Nat} {ls : Array Slot} {rest : List Value} {w : WV} {σ : Mem} (S : CallFix p m c cc nL s args gtbl RX0) (hK : KS LC w s) (hR : Rp EC LC w σ H) {h : Nat} (hh : h ∈ bookL) {t : Nat} (ht : h + 13 = t) (hdg : decode cc pc = .ok (.getfield 29, 3)) (kk : W p l e R s m args below meth c H locs cells slots Q (F0 m (pc + 3) ls (.ref (w.2.2 t) :: rest))) : W p l e R s m args below meth c H locs cells slots Q (F0 m pc ls (.ref (w.2.2 h) :: rest)) := by subst ht; exact r_get S hK hR (ok_0 _ hh) inX0 (eC_0 _ hh w _) rfl 4 (by decide) (gt_at 150 (by decide +kernel) (by decide +kernel)) rfl hdg kk
theorem g0_33 {p : Program} {l : Launch} {e : Env} {R : Room} {s : State} {m : MethodId} {args : Array Value} {below : List Frame} {meth : Method} {c : Code} {H : Heap} {locs : List Loc} {cells slots : Nat} {Q : State → Prop} {cc : ByteArray} {pc nL : Nat} {ls : Array Slot} {rest : List Value} {w : WV} {σ : Mem} (S : CallFix p m c cc nL s args gtbl RX0) (hK : KS LC w s) (hR : Rp EC LC w σ H) {h : Nat} (hh : h ∈ bookL) (hdg : decode cc pc = .ok (.getfield 33, 3)) (kk : W p l e R s m args below meth c H locs cells slots Q (F0 m (pc + 3) ls (.int (σ h 5) :: rest))) : W p l e R s m args below meth c H locs cells slots Q (F0 m pc ls (.ref (w.2.2 h) :: rest)) := r_get S hK hR (ok_0 _ hh) inX0 (eC_0 _ hh w _) rfl 5 (by decide) (gt_at 151 (by decide +kernel) (by decide +kernel)) rfl hdg kk
theorem u0_33 {p : Program} {l : Launch} {e : Env} {R : Room} {s : State} {m : MethodId} {args : Array Value} {below : List Frame} {meth : Method} {c : Code} {H : Heap} {locs : List Loc} {cells slots : Nat} {Q : State → Prop} {cc : ByteArray} {pc nL : Nat} {ls : Array Slot} {rest : List Value} {w : WV} {σ σ' : Mem} (S : CallFix p m c cc nL s args gtbl RX0) (hK : KS LC w s) (hR : Rp EC LC w σ H) (hS : va_S (AW LC w) s.heap H locs) {h : Nat} (hh : h ∈ bookL) {x : Int32} (hm : σ' = mu σ h 5 x) (hdg : decode cc pc = .ok (.putfield 33, 3)) (kk : ∀ (H1 : Heap) (locs1 : List Loc), Rp EC LC w σ' H1 → va_S (AW LC w) s.heap H1 locs1 → W p l e R s m args below meth c H1 locs1 cells slots Q (F0 m (pc + 3) ls rest)) : W p l e R s m args below meth c H locs cells slots Q (F0 m pc ls (.int x :: .ref (w.2.2 h) :: rest)) := by
  subst hm
  exact r_put S hK hR hS (ok_0 _ hh) inX0 tyX0_ok nmX0 (eC_0 _ hh w _) rfl 5 (by decide) (gt_at 151 (by decide +kernel) (by decide +kernel)) rfl rfl rfl (Nat.le_of_ble_eq_true rfl) (eC_0 _ hh w _) hdg kk
theorem g0_37 {p : Program} {l : Launch} {e : Env} {R : Room} {s : State} {m : MethodId} {args : Array Value} {below : List Frame} {meth : Method} {c : Code} {H : Heap} {locs : List Loc} {cells slots : Nat} {Q : State → Prop} {cc : ByteArray} {pc nL : Nat} {ls : Array Slot} {rest : List Value} {w : WV} {σ : Mem} (S : CallFix p m c cc nL s args gtbl RX0) (hK : KS LC w s) (hR : Rp EC LC w σ H) {h : Nat} (hh : h ∈ bookL) (hdg : decode cc pc = .ok (.getfield 37, 3)) (kk : W p l e R s m args below meth c H locs cells slots Q (F0 m (pc + 3) ls (.int (σ h 6) :: rest))) : W p l e R s m args below meth c H locs cells slots Q (F0 m pc ls (.ref (w.2.2 h) :: rest)) := r_get S hK hR (ok_0 _ hh) inX0 (eC_0 _ hh w _) rfl 6 (by decide) (gt_at 152 (by decide +kernel) (by decide +kernel)) rfl hdg kk
theorem u0_37 {p : Program} {l : Launch} {e : Env} {R : Room} {s : State} {m : MethodId} {args : Array Value} {below : List Frame} {meth : Method} {c : Code} {H : Heap} {locs : List Loc} {cells slots : Nat} {Q : State → Prop} {cc : ByteArray} {pc nL : Nat} {ls : Array Slot} {rest : List Value} {w : WV} {σ σ' : Mem} (S : CallFix p m c cc nL s args gtbl RX0) (hK : KS LC w s) (hR : Rp EC LC w σ H) (hS : va_S (AW LC w) s.heap H locs) {h : Nat} (hh : h ∈ bookL) {x : Int32} (hm : σ' = mu σ h 6 x) (hdg : decode cc pc = .ok (.putfield 37, 3)) (kk : ∀ (H1 : Heap) (locs1 : List Loc), Rp EC LC w σ' H1 → va_S (AW LC w) s.heap H1 locs1 → W p l e R s m args below meth c H1 locs1 cells slots Q (F0 m (pc + 3) ls rest)) : W p l e R s m args below meth c H locs cells slots Q (F0 m pc ls (.int x :: .ref (w.2.2 h) :: rest)) := by
  subst hm
  exact r_put S hK hR hS (ok_0 _ hh) inX0 tyX0_ok nmX0 (eC_0 _ hh w _) rfl 6 (by decide) (gt_at 152 (by decide +kernel) (by decide +kernel)) rfl rfl rfl (Nat.le_of_ble_eq_true rfl) (eC_0 _ hh w _) hdg kk
theorem g0_40 {p : Program} {l : Launch} {e : Env} {R : Room} {s : State} {m : MethodId} {args : Array Value} {below : List Frame} {meth : Method} {c : Code} {H : Heap} {locs : List Loc} {cells slots : Nat} {Q : State → Prop} {cc : ByteArray} {pc nL : Nat} {ls : Array Slot} {rest : List Value} {w : WV} {σ : Mem} (S : CallFix p m c cc nL s args gtbl RX0) (hK : KS LC w s) (hR : Rp EC LC w σ H) {h : Nat} (hh : h ∈ bookL) (hdg : decode cc pc = .ok (.getfield 40, 3)) (kk : W p l e R s m args below meth c H locs cells slots Q (F0 m (pc + 3) ls (.int (σ h 7) :: rest))) : W p l e R s m args below meth c H locs cells slots Q (F0 m pc ls (.ref (w.2.2 h) :: rest)) := r_get S hK hR (ok_0 _ hh) inX0 (eC_0 _ hh w _) rfl 7 (by decide) (gt_at 153 (by decide +kernel) (by decide +kernel)) rfl hdg kk
theorem u0_40 {p : Program} {l : Launch} {e : Env} {R : Room} {s : State} {m : MethodId} {args : Array Value} {below : List Frame} {meth : Method} {c : Code} {H : Heap} {locs : List Loc} {cells slots : Nat} {Q : State → Prop} {cc : ByteArray} {pc nL : Nat} {ls : Array Slot} {rest : List Value} {w : WV} {σ σ' : Mem} (S : CallFix p m c cc nL s args gtbl RX0) (hK : KS LC w s) (hR : Rp EC LC w σ H) (hS : va_S (AW LC w) s.heap H locs) {h : Nat} (hh : h ∈ bookL) {x : Int32} (hm : σ' = mu σ h 7 x) (hdg : decode cc pc = .ok (.putfield 40, 3)) (kk : ∀ (H1 : Heap) (locs1 : List Loc), Rp EC LC w σ' H1 → va_S (AW LC w) s.heap H1 locs1 → W p l e R s m args below meth c H1 locs1 cells slots Q (F0 m (pc + 3) ls rest)) : W p l e R s m args below meth c H locs cells slots Q (F0 m pc ls (.int x :: .ref (w.2.2 h) :: rest)) := by
  subst hm
  exact r_put S hK hR hS (ok_0 _ hh) inX0 tyX0_ok nmX0 (eC_0 _ hh w _) rfl 7 (by decide) (gt_at 153 (by decide +kernel) (by decide +kernel)) rfl rfl rfl (Nat.le_of_ble_eq_true rfl) (eC_0 _ hh w _) hdg kk
theorem g0_43 {p : Program} {l : Launch} {e : Env} {R : Room} {s : State} {m : MethodId} {args : Array Value} {below : List Frame} {meth : Method} {c : Code} {H : Heap} {locs : List Loc} {cells slots : Nat} {Q : State → Prop} {cc : ByteArray} {pc nL : Nat} {ls : Array Slot} {rest : List Value} {w : WV} {σ : Mem} (S : CallFix p m c cc nL s args gtbl RX0) (hK : KS LC w s) (hR : Rp EC LC w σ H) {h : Nat} (hh : h ∈ bookL) (hdg : decode cc pc = .ok (.getfield 43, 3)) (kk : W p l e R s m args below meth c H locs cells slots Q (F0 m (pc + 3) ls (.int (σ h 8) :: rest))) : W p l e R s m args below meth c H locs cells slots Q (F0 m pc ls (.ref (w.2.2 h) :: rest)) := r_get S hK hR (ok_0 _ hh) inX0 (eC_0 _ hh w _) rfl 8 (by decide) (gt_at 154 (by decide +kernel) (by decide +kernel)) rfl hdg kk
theorem u0_43 {p : Program} {l : Launch} {e : Env} {R : Room} {s : State} {m : MethodId} {args : Array Value} {below : List Frame} {meth : Method} {c : Code} {H : Heap} {locs : List Loc} {cells slots : Nat} {Q : State → Prop} {cc : ByteArray} {pc nL : Nat} {ls : Array Slot} {rest : List Value} {w : WV} {σ σ' : Mem} (S : CallFix p m c cc nL s args gtbl RX0) (hK : KS LC w s) (hR : Rp EC LC w σ H) (hS : va_S (AW LC w) s.heap H locs) {h : Nat} (hh : h ∈ bookL) {x : Int32} (hm : σ' = mu σ h 8 x) (hdg : decode cc pc = .ok (.putfield 43, 3)) (kk : ∀ (H1 : Heap) (locs1 : List Loc), Rp EC LC w σ' H1 → va_S (AW LC w) s.heap H1 locs1 → W p l e R s m args below meth c H1 locs1 cells slots Q (F0 m (pc + 3) ls rest)) : W p l e R s m args below meth c H locs cells slots Q (F0 m pc ls (.int x :: .ref (w.2.2 h) :: rest)) := by
  subst hm
  exact r_put S hK hR hS (ok_0 _ hh) inX0 tyX0_ok nmX0 (eC_0 _ hh w _) rfl 8 (by decide) (gt_at 154 (by decide +kernel) (by decide +kernel)) rfl rfl rfl (Nat.le_of_ble_eq_true rfl) (eC_0 _ hh w _) hdg kk
theorem g1_9 {p : Program} {l : Launch} {e : Env} {R : Room} {s : State} {m : MethodId} {args : Array Value} {below : List Frame} {meth : Method} {c : Code} {H : Heap} {locs : List Loc} {cells slots : Nat} {Q : State → Prop} {cc : ByteArray} {pc nL : Nat} {ls : Array Slot} {rest : List Value} {w : WV} {σ : Mem} (S : CallFix p m c cc nL s args gtbl RX1) (hK : KS LC w s) (hR : Rp EC LC w σ H) {h : Nat} (hh : h ∈ hourL) {t : Nat} (ht : h + 1 = t) (hdg : decode cc pc = .ok (.getfield 9, 3)) (kk : W p l e R s m args below meth c H locs cells slots Q (F0 m (pc + 3) ls (.ref (w.2.2 t) :: rest))) : W p l e R s m args below meth c H locs cells slots Q (F0 m pc ls (.ref (w.2.2 h) :: rest)) := by subst ht; exact r_get S hK hR (ok_1 _ hh) inX1 (eC_1 _ hh w _) rfl 2 (by decide) (gt_at 199 (by decide +kernel) (by decide +kernel)) rfl hdg kk
theorem g1_15 {p : Program} {l : Launch} {e : Env} {R : Room} {s : State} {m : MethodId} {args : Array Value} {below : List Frame} {meth : Method} {c : Code} {H : Heap} {locs : List Loc} {cells slots : Nat} {Q : State → Prop} {cc : ByteArray} {pc nL : Nat} {ls : Array Slot} {rest : List Value} {w : WV} {σ : Mem} (S : CallFix p m c cc nL s args gtbl RX1) (hK : KS LC w s) (hR : Rp EC LC w σ H) {h : Nat} (hh : h ∈ hourL) {t : Nat} (ht : h + 2 = t) (hdg : decode cc pc = .ok (.getfield 15, 3)) (kk : W p l e R s m args below meth c H locs cells slots Q (F0 m (pc + 3) ls (.ref (w.2.2 t) :: rest))) : W p l e R s m args below meth c H locs cells slots Q (F0 m pc ls (.ref (w.2.2 h) :: rest)) := by subst ht; exact r_get S hK hR (ok_1 _ hh) inX1 (eC_1 _ hh w _) rfl 3 (by decide) (gt_at 200 (by decide +kernel) (by decide +kernel)) rfl hdg kk
theorem g1_18 {p : Program} {l : Launch} {e : Env} {R : Room} {s : State} {m : MethodId} {args : Array Value} {below : List Frame} {meth : Method} {c : Code} {H : Heap} {locs : List Loc} {cells slots : Nat} {Q : State → Prop} {cc : ByteArray} {pc nL : Nat} {ls : Array Slot} {rest : List Value} {w : WV} {σ : Mem} (S : CallFix p m c cc nL s args gtbl RX1) (hK : KS LC w s) (hR : Rp EC LC w σ H) {h : Nat} (hh : h ∈ hourL) {t : Nat} (ht : h + 3 = t) (hdg : decode cc pc = .ok (.getfield 18, 3)) (kk : W p l e R s m args below meth c H locs cells slots Q (F0 m (pc + 3) ls (.ref (w.2.2 t) :: rest))) : W p l e R s m args below meth c H locs cells slots Q (F0 m pc ls (.ref (w.2.2 h) :: rest)) := by subst ht; exact r_get S hK hR (ok_1 _ hh) inX1 (eC_1 _ hh w _) rfl 4 (by decide) (gt_at 201 (by decide +kernel) (by decide +kernel)) rfl hdg kk
theorem g1_21 {p : Program} {l : Launch} {e : Env} {R : Room} {s : State} {m : MethodId} {args : Array Value} {below : List Frame} {meth : Method} {c : Code} {H : Heap} {locs : List Loc} {cells slots : Nat} {Q : State → Prop} {cc : ByteArray} {pc nL : Nat} {ls : Array Slot} {rest : List Value} {w : WV} {σ : Mem} (S : CallFix p m c cc nL s args gtbl RX1) (hK : KS LC w s) (hR : Rp EC LC w σ H) {h : Nat} (hh : h ∈ hourL) {t : Nat} (ht : h + 4 = t) (hdg : decode cc pc = .ok (.getfield 21, 3)) (kk : W p l e R s m args below meth c H locs cells slots Q (F0 m (pc + 3) ls (.ref (w.2.2 t) :: rest))) : W p l e R s m args below meth c H locs cells slots Q (F0 m pc ls (.ref (w.2.2 h) :: rest)) := by subst ht; exact r_get S hK hR (ok_1 _ hh) inX1 (eC_1 _ hh w _) rfl 5 (by decide) (gt_at 202 (by decide +kernel) (by decide +kernel)) rfl hdg kk
theorem g1_24 {p : Program} {l : Launch} {e : Env} {R : Room} {s : State} {m : MethodId} {args : Array Value} {below : List Frame} {meth : Method} {c : Code} {H : Heap} {locs : List Loc} {cells slots : Nat} {Q : State → Prop} {cc : ByteArray} {pc nL : Nat} {ls : Array Slot} {rest : List Value} {w : WV} {σ : Mem} (S : CallFix p m c cc nL s args gtbl RX1) (hK : KS LC w s) (hR : Rp EC LC w σ H) {h : Nat} (hh : h ∈ hourL) {t : Nat} (ht : h + 5 = t) (hdg : decode cc pc = .ok (.getfield 24, 3)) (kk : W p l e R s m args below meth c H locs cells slots Q (F0 m (pc + 3) ls (.ref (w.2.2 t) :: rest))) : W p l e R s m args below meth c H locs cells slots Q (F0 m pc ls (.ref (w.2.2 h) :: rest)) := by subst ht; exact r_get S hK hR (ok_1 _ hh) inX1 (eC_1 _ hh w _) rfl 6 (by decide) (gt_at 203 (by decide +kernel) (by decide +kernel)) rfl hdg kk
theorem g1_27 {p : Program} {l : Launch} {e : Env} {R : Room} {s : State} {m : MethodId} {args : Array Value} {below : List Frame} {meth : Method} {c : Code} {H : Heap} {locs : List Loc} {cells slots : Nat} {Q : State → Prop} {cc : ByteArray} {pc nL : Nat} {ls : Array Slot} {rest : List Value} {w : WV} {σ : Mem} (S : CallFix p m c cc nL s args gtbl RX1) (hK : KS LC w s) (hR : Rp EC LC w σ H) {h : Nat} (hh : h ∈ hourL) {t : Nat} (ht : h + 6 = t) (hdg : decode cc pc = .ok (.getfield 27, 3)) (kk : W p l e R s m args below meth c H locs cells slots Q (F0 m (pc + 3) ls (.ref (w.2.2 t) :: rest))) : W p l e R s m args below meth c H locs cells slots Q (F0 m pc ls (.ref (w.2.2 h) :: rest)) := by subst ht; exact r_get S hK hR (ok_1 _ hh) inX1 (eC_1 _ hh w _) rfl 7 (by decide) (gt_at 204 (by decide +kernel) (by decide +kernel)) rfl hdg kk
theorem g1_30 {p : Program} {l : Launch} {e : Env} {R : Room} {s : State} {m : MethodId} {args : Array Value} {below : List Frame} {meth : Method} {c : Code} {H : Heap} {locs : List Loc} {cells slots : Nat} {Q : State → Prop} {cc : ByteArray} {pc nL : Nat} {ls : Array Slot} {rest : List Value} {w : WV} {σ : Mem} (S : CallFix p m c cc nL s args gtbl RX1) (hK : KS LC w s) (hR : Rp EC LC w σ H) {h : Nat} (hh : h ∈ hourL) {t : Nat} (ht : h + 7 = t) (hdg : decode cc pc = .ok (.getfield 30, 3)) (kk : W p l e R s m args below meth c H locs cells slots Q (F0 m (pc + 3) ls (.ref (w.2.2 t) :: rest))) : W p l e R s m args below meth c H locs cells slots Q (F0 m pc ls (.ref (w.2.2 h) :: rest)) := by subst ht; exact r_get S hK hR (ok_1 _ hh) inX1 (eC_1 _ hh w _) rfl 8 (by decide) (gt_at 205 (by decide +kernel) (by decide +kernel)) rfl hdg kk
theorem g1_33 {p : Program} {l : Launch} {e : Env} {R : Room} {s : State} {m : MethodId} {args : Array Value} {below : List Frame} {meth : Method} {c : Code} {H : Heap} {locs : List Loc} {cells slots : Nat} {Q : State → Prop} {cc : ByteArray} {pc nL : Nat} {ls : Array Slot} {rest : List Value} {w : WV} {σ : Mem} (S : CallFix p m c cc nL s args gtbl RX1) (hK : KS LC w s) (hR : Rp EC LC w σ H) {h : Nat} (hh : h ∈ hourL) (hdg : decode cc pc = .ok (.getfield 33, 3)) (kk : W p l e R s m args below meth c H locs cells slots Q (F0 m (pc + 3) ls (.int (σ h 9) :: rest))) : W p l e R s m args below meth c H locs cells slots Q (F0 m pc ls (.ref (w.2.2 h) :: rest)) := r_get S hK hR (ok_1 _ hh) inX1 (eC_1 _ hh w _) rfl 9 (by decide) (gt_at 206 (by decide +kernel) (by decide +kernel)) rfl hdg kk
theorem u1_33 {p : Program} {l : Launch} {e : Env} {R : Room} {s : State} {m : MethodId} {args : Array Value} {below : List Frame} {meth : Method} {c : Code} {H : Heap} {locs : List Loc} {cells slots : Nat} {Q : State → Prop} {cc : ByteArray} {pc nL : Nat} {ls : Array Slot} {rest : List Value} {w : WV} {σ σ' : Mem} (S : CallFix p m c cc nL s args gtbl RX1) (hK : KS LC w s) (hR : Rp EC LC w σ H) (hS : va_S (AW LC w) s.heap H locs) {h : Nat} (hh : h ∈ hourL) {x : Int32} (hm : σ' = mu σ h 9 x) (hdg : decode cc pc = .ok (.putfield 33, 3)) (kk : ∀ (H1 : Heap) (locs1 : List Loc), Rp EC LC w σ' H1 → va_S (AW LC w) s.heap H1 locs1 → W p l e R s m args below meth c H1 locs1 cells slots Q (F0 m (pc + 3) ls rest)) : W p l e R s m args below meth c H locs cells slots Q (F0 m pc ls (.int x :: .ref (w.2.2 h) :: rest)) := by
  subst hm
  exact r_put S hK hR hS (ok_1 _ hh) inX1 tyX1_ok nmX1 (eC_1 _ hh w _) rfl 9 (by decide) (gt_at 206 (by decide +kernel) (by decide +kernel)) rfl rfl rfl (Nat.le_of_ble_eq_true rfl) (eC_1 _ hh w _) hdg kk
theorem g1_37 {p : Program} {l : Launch} {e : Env} {R : Room} {s : State} {m : MethodId} {args : Array Value} {below : List Frame} {meth : Method} {c : Code} {H : Heap} {locs : List Loc} {cells slots : Nat} {Q : State → Prop} {cc : ByteArray} {pc nL : Nat} {ls : Array Slot} {rest : List Value} {w : WV} {σ : Mem} (S : CallFix p m c cc nL s args gtbl RX1) (hK : KS LC w s) (hR : Rp EC LC w σ H) {h : Nat} (hh : h ∈ hourL) (hdg : decode cc pc = .ok (.getfield 37, 3)) (kk : W p l e R s m args below meth c H locs cells slots Q (F0 m (pc + 3) ls (.int (σ h 10) :: rest))) : W p l e R s m args below meth c H locs cells slots Q (F0 m pc ls (.ref (w.2.2 h) :: rest)) := r_get S hK hR (ok_1 _ hh) inX1 (eC_1 _ hh w _) rfl 10 (by decide) (gt_at 207 (by decide +kernel) (by decide +kernel)) rfl hdg kk
theorem u1_37 {p : Program} {l : Launch} {e : Env} {R : Room} {s : State} {m : MethodId} {args : Array Value} {below : List Frame} {meth : Method} {c : Code} {H : Heap} {locs : List Loc} {cells slots : Nat} {Q : State → Prop} {cc : ByteArray} {pc nL : Nat} {ls : Array Slot} {rest : List Value} {w : WV} {σ σ' : Mem} (S : CallFix p m c cc nL s args gtbl RX1) (hK : KS LC w s) (hR : Rp EC LC w σ H) (hS : va_S (AW LC w) s.heap H locs) {h : Nat} (hh : h ∈ hourL) {x : Int32} (hb : x = 0 ∨ x = 1) (hm : σ' = mu σ h 10 x) (hdg : decode cc pc = .ok (.putfield 37, 3)) (kk : ∀ (H1 : Heap) (locs1 : List Loc), Rp EC LC w σ' H1 → va_S (AW LC w) s.heap H1 locs1 → W p l e R s m args below meth c H1 locs1 cells slots Q (F0 m (pc + 3) ls rest)) : W p l e R s m args below meth c H locs cells slots Q (F0 m pc ls (.int x :: .ref (w.2.2 h) :: rest)) := by
  subst hm
  exact r_put S hK hR hS (ok_1 _ hh) inX1 tyX1_ok nmX1 (eC_1 _ hh w _) rfl 10 (by decide) (gt_at 207 (by decide +kernel) (by decide +kernel)) rfl (nb_n hb) (nb_f hb) (Nat.le_of_ble_eq_true rfl) (eC_1 _ hh w _) hdg kk
theorem g1_41 {p : Program} {l : Launch} {e : Env} {R : Room} {s : State} {m : MethodId} {args : Array Value} {below : List Frame} {meth : Method} {c : Code} {H : Heap} {locs : List Loc} {cells slots : Nat} {Q : State → Prop} {cc : ByteArray} {pc nL : Nat} {ls : Array Slot} {rest : List Value} {w : WV} {σ : Mem} (S : CallFix p m c cc nL s args gtbl RX1) (hK : KS LC w s) (hR : Rp EC LC w σ H) {h : Nat} (hh : h ∈ hourL) (hdg : decode cc pc = .ok (.getfield 41, 3)) (kk : W p l e R s m args below meth c H locs cells slots Q (F0 m (pc + 3) ls (.int (σ h 11) :: rest))) : W p l e R s m args below meth c H locs cells slots Q (F0 m pc ls (.ref (w.2.2 h) :: rest)) := r_get S hK hR (ok_1 _ hh) inX1 (eC_1 _ hh w _) rfl 11 (by decide) (gt_at 208 (by decide +kernel) (by decide +kernel)) rfl hdg kk
theorem u1_41 {p : Program} {l : Launch} {e : Env} {R : Room} {s : State} {m : MethodId} {args : Array Value} {below : List Frame} {meth : Method} {c : Code} {H : Heap} {locs : List Loc} {cells slots : Nat} {Q : State → Prop} {cc : ByteArray} {pc nL : Nat} {ls : Array Slot} {rest : List Value} {w : WV} {σ σ' : Mem} (S : CallFix p m c cc nL s args gtbl RX1) (hK : KS LC w s) (hR : Rp EC LC w σ H) (hS : va_S (AW LC w) s.heap H locs) {h : Nat} (hh : h ∈ hourL) {x : Int32} (hm : σ' = mu σ h 11 x) (hdg : decode cc pc = .ok (.putfield 41, 3)) (kk : ∀ (H1 : Heap) (locs1 : List Loc), Rp EC LC w σ' H1 → va_S (AW LC w) s.heap H1 locs1 → W p l e R s m args below meth c H1 locs1 cells slots Q (F0 m (pc + 3) ls rest)) : W p l e R s m args below meth c H locs cells slots Q (F0 m pc ls (.int x :: .ref (w.2.2 h) :: rest)) := by
  subst hm
  exact r_put S hK hR hS (ok_1 _ hh) inX1 tyX1_ok nmX1 (eC_1 _ hh w _) rfl 11 (by decide) (gt_at 208 (by decide +kernel) (by decide +kernel)) rfl rfl rfl (Nat.le_of_ble_eq_true rfl) (eC_1 _ hh w _) hdg kk
theorem g1_44 {p : Program} {l : Launch} {e : Env} {R : Room} {s : State} {m : MethodId} {args : Array Value} {below : List Frame} {meth : Method} {c : Code} {H : Heap} {locs : List Loc} {cells slots : Nat} {Q : State → Prop} {cc : ByteArray} {pc nL : Nat} {ls : Array Slot} {rest : List Value} {w : WV} {σ : Mem} (S : CallFix p m c cc nL s args gtbl RX1) (hK : KS LC w s) (hR : Rp EC LC w σ H) {h : Nat} (hh : h ∈ hourL) (hdg : decode cc pc = .ok (.getfield 44, 3)) (kk : W p l e R s m args below meth c H locs cells slots Q (F0 m (pc + 3) ls (.int (σ h 12) :: rest))) : W p l e R s m args below meth c H locs cells slots Q (F0 m pc ls (.ref (w.2.2 h) :: rest)) := r_get S hK hR (ok_1 _ hh) inX1 (eC_1 _ hh w _) rfl 12 (by decide) (gt_at 209 (by decide +kernel) (by decide +kernel)) rfl hdg kk
theorem u1_44 {p : Program} {l : Launch} {e : Env} {R : Room} {s : State} {m : MethodId} {args : Array Value} {below : List Frame} {meth : Method} {c : Code} {H : Heap} {locs : List Loc} {cells slots : Nat} {Q : State → Prop} {cc : ByteArray} {pc nL : Nat} {ls : Array Slot} {rest : List Value} {w : WV} {σ σ' : Mem} (S : CallFix p m c cc nL s args gtbl RX1) (hK : KS LC w s) (hR : Rp EC LC w σ H) (hS : va_S (AW LC w) s.heap H locs) {h : Nat} (hh : h ∈ hourL) {x : Int32} (hm : σ' = mu σ h 12 x) (hdg : decode cc pc = .ok (.putfield 44, 3)) (kk : ∀ (H1 : Heap) (locs1 : List Loc), Rp EC LC w σ' H1 → va_S (AW LC w) s.heap H1 locs1 → W p l e R s m args below meth c H1 locs1 cells slots Q (F0 m (pc + 3) ls rest)) : W p l e R s m args below meth c H locs cells slots Q (F0 m pc ls (.int x :: .ref (w.2.2 h) :: rest)) := by
  subst hm
  exact r_put S hK hR hS (ok_1 _ hh) inX1 tyX1_ok nmX1 (eC_1 _ hh w _) rfl 12 (by decide) (gt_at 209 (by decide +kernel) (by decide +kernel)) rfl rfl rfl (Nat.le_of_ble_eq_true rfl) (eC_1 _ hh w _) hdg kk
theorem g1_47 {p : Program} {l : Launch} {e : Env} {R : Room} {s : State} {m : MethodId} {args : Array Value} {below : List Frame} {meth : Method} {c : Code} {H : Heap} {locs : List Loc} {cells slots : Nat} {Q : State → Prop} {cc : ByteArray} {pc nL : Nat} {ls : Array Slot} {rest : List Value} {w : WV} {σ : Mem} (S : CallFix p m c cc nL s args gtbl RX1) (hK : KS LC w s) (hR : Rp EC LC w σ H) {h : Nat} (hh : h ∈ hourL) (hdg : decode cc pc = .ok (.getfield 47, 3)) (kk : W p l e R s m args below meth c H locs cells slots Q (F0 m (pc + 3) ls (.int (σ h 13) :: rest))) : W p l e R s m args below meth c H locs cells slots Q (F0 m pc ls (.ref (w.2.2 h) :: rest)) := r_get S hK hR (ok_1 _ hh) inX1 (eC_1 _ hh w _) rfl 13 (by decide) (gt_at 210 (by decide +kernel) (by decide +kernel)) rfl hdg kk
theorem u1_47 {p : Program} {l : Launch} {e : Env} {R : Room} {s : State} {m : MethodId} {args : Array Value} {below : List Frame} {meth : Method} {c : Code} {H : Heap} {locs : List Loc} {cells slots : Nat} {Q : State → Prop} {cc : ByteArray} {pc nL : Nat} {ls : Array Slot} {rest : List Value} {w : WV} {σ σ' : Mem} (S : CallFix p m c cc nL s args gtbl RX1) (hK : KS LC w s) (hR : Rp EC LC w σ H) (hS : va_S (AW LC w) s.heap H locs) {h : Nat} (hh : h ∈ hourL) {x : Int32} (hm : σ' = mu σ h 13 x) (hdg : decode cc pc = .ok (.putfield 47, 3)) (kk : ∀ (H1 : Heap) (locs1 : List Loc), Rp EC LC w σ' H1 → va_S (AW LC w) s.heap H1 locs1 → W p l e R s m args below meth c H1 locs1 cells slots Q (F0 m (pc + 3) ls rest)) : W p l e R s m args below meth c H locs cells slots Q (F0 m pc ls (.int x :: .ref (w.2.2 h) :: rest)) := by
  subst hm
  exact r_put S hK hR hS (ok_1 _ hh) inX1 tyX1_ok nmX1 (eC_1 _ hh w _) rfl 13 (by decide) (gt_at 210 (by decide +kernel) (by decide +kernel)) rfl rfl rfl (Nat.le_of_ble_eq_true rfl) (eC_1 _ hh w _) hdg kk
theorem g1_50 {p : Program} {l : Launch} {e : Env} {R : Room} {s : State} {m : MethodId} {args : Array Value} {below : List Frame} {meth : Method} {c : Code} {H : Heap} {locs : List Loc} {cells slots : Nat} {Q : State → Prop} {cc : ByteArray} {pc nL : Nat} {ls : Array Slot} {rest : List Value} {w : WV} {σ : Mem} (S : CallFix p m c cc nL s args gtbl RX1) (hK : KS LC w s) (hR : Rp EC LC w σ H) {h : Nat} (hh : h ∈ hourL) (hdg : decode cc pc = .ok (.getfield 50, 3)) (kk : W p l e R s m args below meth c H locs cells slots Q (F0 m (pc + 3) ls (.int (σ h 14) :: rest))) : W p l e R s m args below meth c H locs cells slots Q (F0 m pc ls (.ref (w.2.2 h) :: rest)) := r_get S hK hR (ok_1 _ hh) inX1 (eC_1 _ hh w _) rfl 14 (by decide) (gt_at 211 (by decide +kernel) (by decide +kernel)) rfl hdg kk
theorem u1_50 {p : Program} {l : Launch} {e : Env} {R : Room} {s : State} {m : MethodId} {args : Array Value} {below : List Frame} {meth : Method} {c : Code} {H : Heap} {locs : List Loc} {cells slots : Nat} {Q : State → Prop} {cc : ByteArray} {pc nL : Nat} {ls : Array Slot} {rest : List Value} {w : WV} {σ σ' : Mem} (S : CallFix p m c cc nL s args gtbl RX1) (hK : KS LC w s) (hR : Rp EC LC w σ H) (hS : va_S (AW LC w) s.heap H locs) {h : Nat} (hh : h ∈ hourL) {x : Int32} (hm : σ' = mu σ h 14 x) (hdg : decode cc pc = .ok (.putfield 50, 3)) (kk : ∀ (H1 : Heap) (locs1 : List Loc), Rp EC LC w σ' H1 → va_S (AW LC w) s.heap H1 locs1 → W p l e R s m args below meth c H1 locs1 cells slots Q (F0 m (pc + 3) ls rest)) : W p l e R s m args below meth c H locs cells slots Q (F0 m pc ls (.int x :: .ref (w.2.2 h) :: rest)) := by
  subst hm
  exact r_put S hK hR hS (ok_1 _ hh) inX1 tyX1_ok nmX1 (eC_1 _ hh w _) rfl 14 (by decide) (gt_at 211 (by decide +kernel) (by decide +kernel)) rfl rfl rfl (Nat.le_of_ble_eq_true rfl) (eC_1 _ hh w _) hdg kk
theorem g1_53 {p : Program} {l : Launch} {e : Env} {R : Room} {s : State} {m : MethodId} {args : Array Value} {below : List Frame} {meth : Method} {c : Code} {H : Heap} {locs : List Loc} {cells slots : Nat} {Q : State → Prop} {cc : ByteArray} {pc nL : Nat} {ls : Array Slot} {rest : List Value} {w : WV} {σ : Mem} (S : CallFix p m c cc nL s args gtbl RX1) (hK : KS LC w s) (hR : Rp EC LC w σ H) {h : Nat} (hh : h ∈ hourL) (hdg : decode cc pc = .ok (.getfield 53, 3)) (kk : W p l e R s m args below meth c H locs cells slots Q (F0 m (pc + 3) ls (.int (σ h 15) :: rest))) : W p l e R s m args below meth c H locs cells slots Q (F0 m pc ls (.ref (w.2.2 h) :: rest)) := r_get S hK hR (ok_1 _ hh) inX1 (eC_1 _ hh w _) rfl 15 (by decide) (gt_at 212 (by decide +kernel) (by decide +kernel)) rfl hdg kk
theorem u1_53 {p : Program} {l : Launch} {e : Env} {R : Room} {s : State} {m : MethodId} {args : Array Value} {below : List Frame} {meth : Method} {c : Code} {H : Heap} {locs : List Loc} {cells slots : Nat} {Q : State → Prop} {cc : ByteArray} {pc nL : Nat} {ls : Array Slot} {rest : List Value} {w : WV} {σ σ' : Mem} (S : CallFix p m c cc nL s args gtbl RX1) (hK : KS LC w s) (hR : Rp EC LC w σ H) (hS : va_S (AW LC w) s.heap H locs) {h : Nat} (hh : h ∈ hourL) {x : Int32} (hm : σ' = mu σ h 15 x) (hdg : decode cc pc = .ok (.putfield 53, 3)) (kk : ∀ (H1 : Heap) (locs1 : List Loc), Rp EC LC w σ' H1 → va_S (AW LC w) s.heap H1 locs1 → W p l e R s m args below meth c H1 locs1 cells slots Q (F0 m (pc + 3) ls rest)) : W p l e R s m args below meth c H locs cells slots Q (F0 m pc ls (.int x :: .ref (w.2.2 h) :: rest)) := by
  subst hm
  exact r_put S hK hR hS (ok_1 _ hh) inX1 tyX1_ok nmX1 (eC_1 _ hh w _) rfl 15 (by decide) (gt_at 212 (by decide +kernel) (by decide +kernel)) rfl rfl rfl (Nat.le_of_ble_eq_true rfl) (eC_1 _ hh w _) hdg kk
theorem g1_56 {p : Program} {l : Launch} {e : Env} {R : Room} {s : State} {m : MethodId} {args : Array Value} {below : List Frame} {meth : Method} {c : Code} {H : Heap} {locs : List Loc} {cells slots : Nat} {Q : State → Prop} {cc : ByteArray} {pc nL : Nat} {ls : Array Slot} {rest : List Value} {w : WV} {σ : Mem} (S : CallFix p m c cc nL s args gtbl RX1) (hK : KS LC w s) (hR : Rp EC LC w σ H) {h : Nat} (hh : h ∈ hourL) (hdg : decode cc pc = .ok (.getfield 56, 3)) (kk : W p l e R s m args below meth c H locs cells slots Q (F0 m (pc + 3) ls (.int (σ h 16) :: rest))) : W p l e R s m args below meth c H locs cells slots Q (F0 m pc ls (.ref (w.2.2 h) :: rest)) := r_get S hK hR (ok_1 _ hh) inX1 (eC_1 _ hh w _) rfl 16 (by decide) (gt_at 213 (by decide +kernel) (by decide +kernel)) rfl hdg kk
theorem u1_56 {p : Program} {l : Launch} {e : Env} {R : Room} {s : State} {m : MethodId} {args : Array Value} {below : List Frame} {meth : Method} {c : Code} {H : Heap} {locs : List Loc} {cells slots : Nat} {Q : State → Prop} {cc : ByteArray} {pc nL : Nat} {ls : Array Slot} {rest : List Value} {w : WV} {σ σ' : Mem} (S : CallFix p m c cc nL s args gtbl RX1) (hK : KS LC w s) (hR : Rp EC LC w σ H) (hS : va_S (AW LC w) s.heap H locs) {h : Nat} (hh : h ∈ hourL) {x : Int32} (hm : σ' = mu σ h 16 x) (hdg : decode cc pc = .ok (.putfield 56, 3)) (kk : ∀ (H1 : Heap) (locs1 : List Loc), Rp EC LC w σ' H1 → va_S (AW LC w) s.heap H1 locs1 → W p l e R s m args below meth c H1 locs1 cells slots Q (F0 m (pc + 3) ls rest)) : W p l e R s m args below meth c H locs cells slots Q (F0 m pc ls (.int x :: .ref (w.2.2 h) :: rest)) := by
  subst hm
  exact r_put S hK hR hS (ok_1 _ hh) inX1 tyX1_ok nmX1 (eC_1 _ hh w _) rfl 16 (by decide) (gt_at 213 (by decide +kernel) (by decide +kernel)) rfl rfl rfl (Nat.le_of_ble_eq_true rfl) (eC_1 _ hh w _) hdg kk
theorem g1_59 {p : Program} {l : Launch} {e : Env} {R : Room} {s : State} {m : MethodId} {args : Array Value} {below : List Frame} {meth : Method} {c : Code} {H : Heap} {locs : List Loc} {cells slots : Nat} {Q : State → Prop} {cc : ByteArray} {pc nL : Nat} {ls : Array Slot} {rest : List Value} {w : WV} {σ : Mem} (S : CallFix p m c cc nL s args gtbl RX1) (hK : KS LC w s) (hR : Rp EC LC w σ H) {h : Nat} (hh : h ∈ hourL) (hdg : decode cc pc = .ok (.getfield 59, 3)) (kk : W p l e R s m args below meth c H locs cells slots Q (F0 m (pc + 3) ls (.int (σ h 17) :: rest))) : W p l e R s m args below meth c H locs cells slots Q (F0 m pc ls (.ref (w.2.2 h) :: rest)) := r_get S hK hR (ok_1 _ hh) inX1 (eC_1 _ hh w _) rfl 17 (by decide) (gt_at 214 (by decide +kernel) (by decide +kernel)) rfl hdg kk
theorem u1_59 {p : Program} {l : Launch} {e : Env} {R : Room} {s : State} {m : MethodId} {args : Array Value} {below : List Frame} {meth : Method} {c : Code} {H : Heap} {locs : List Loc} {cells slots : Nat} {Q : State → Prop} {cc : ByteArray} {pc nL : Nat} {ls : Array Slot} {rest : List Value} {w : WV} {σ σ' : Mem} (S : CallFix p m c cc nL s args gtbl RX1) (hK : KS LC w s) (hR : Rp EC LC w σ H) (hS : va_S (AW LC w) s.heap H locs) {h : Nat} (hh : h ∈ hourL) {x : Int32} (hm : σ' = mu σ h 17 x) (hdg : decode cc pc = .ok (.putfield 59, 3)) (kk : ∀ (H1 : Heap) (locs1 : List Loc), Rp EC LC w σ' H1 → va_S (AW LC w) s.heap H1 locs1 → W p l e R s m args below meth c H1 locs1 cells slots Q (F0 m (pc + 3) ls rest)) : W p l e R s m args below meth c H locs cells slots Q (F0 m pc ls (.int x :: .ref (w.2.2 h) :: rest)) := by
  subst hm
  exact r_put S hK hR hS (ok_1 _ hh) inX1 tyX1_ok nmX1 (eC_1 _ hh w _) rfl 17 (by decide) (gt_at 214 (by decide +kernel) (by decide +kernel)) rfl rfl rfl (Nat.le_of_ble_eq_true rfl) (eC_1 _ hh w _) hdg kk
theorem g1_62 {p : Program} {l : Launch} {e : Env} {R : Room} {s : State} {m : MethodId} {args : Array Value} {below : List Frame} {meth : Method} {c : Code} {H : Heap} {locs : List Loc} {cells slots : Nat} {Q : State → Prop} {cc : ByteArray} {pc nL : Nat} {ls : Array Slot} {rest : List Value} {w : WV} {σ : Mem} (S : CallFix p m c cc nL s args gtbl RX1) (hK : KS LC w s) (hR : Rp EC LC w σ H) {h : Nat} (hh : h ∈ hourL) (hdg : decode cc pc = .ok (.getfield 62, 3)) (kk : W p l e R s m args below meth c H locs cells slots Q (F0 m (pc + 3) ls (.int (σ h 18) :: rest))) : W p l e R s m args below meth c H locs cells slots Q (F0 m pc ls (.ref (w.2.2 h) :: rest)) := r_get S hK hR (ok_1 _ hh) inX1 (eC_1 _ hh w _) rfl 18 (by decide) (gt_at 215 (by decide +kernel) (by decide +kernel)) rfl hdg kk
theorem u1_62 {p : Program} {l : Launch} {e : Env} {R : Room} {s : State} {m : MethodId} {args : Array Value} {below : List Frame} {meth : Method} {c : Code} {H : Heap} {locs : List Loc} {cells slots : Nat} {Q : State → Prop} {cc : ByteArray} {pc nL : Nat} {ls : Array Slot} {rest : List Value} {w : WV} {σ σ' : Mem} (S : CallFix p m c cc nL s args gtbl RX1) (hK : KS LC w s) (hR : Rp EC LC w σ H) (hS : va_S (AW LC w) s.heap H locs) {h : Nat} (hh : h ∈ hourL) {x : Int32} (hb : x = 0 ∨ x = 1) (hm : σ' = mu σ h 18 x) (hdg : decode cc pc = .ok (.putfield 62, 3)) (kk : ∀ (H1 : Heap) (locs1 : List Loc), Rp EC LC w σ' H1 → va_S (AW LC w) s.heap H1 locs1 → W p l e R s m args below meth c H1 locs1 cells slots Q (F0 m (pc + 3) ls rest)) : W p l e R s m args below meth c H locs cells slots Q (F0 m pc ls (.int x :: .ref (w.2.2 h) :: rest)) := by
  subst hm
  exact r_put S hK hR hS (ok_1 _ hh) inX1 tyX1_ok nmX1 (eC_1 _ hh w _) rfl 18 (by decide) (gt_at 215 (by decide +kernel) (by decide +kernel)) rfl (nb_n hb) (nb_f hb) (Nat.le_of_ble_eq_true rfl) (eC_1 _ hh w _) hdg kk
theorem g1_65 {p : Program} {l : Launch} {e : Env} {R : Room} {s : State} {m : MethodId} {args : Array Value} {below : List Frame} {meth : Method} {c : Code} {H : Heap} {locs : List Loc} {cells slots : Nat} {Q : State → Prop} {cc : ByteArray} {pc nL : Nat} {ls : Array Slot} {rest : List Value} {w : WV} {σ : Mem} (S : CallFix p m c cc nL s args gtbl RX1) (hK : KS LC w s) (hR : Rp EC LC w σ H) {h : Nat} (hh : h ∈ hourL) (hdg : decode cc pc = .ok (.getfield 65, 3)) (kk : W p l e R s m args below meth c H locs cells slots Q (F0 m (pc + 3) ls (.ref (w.2.2 3) :: rest))) : W p l e R s m args below meth c H locs cells slots Q (F0 m pc ls (.ref (w.2.2 h) :: rest)) := r_get S hK hR (ok_1 _ hh) inX1 (eC_1 _ hh w _) rfl 0 (by decide) (gt_at 197 (by decide +kernel) (by decide +kernel)) rfl hdg kk
theorem g1_69 {p : Program} {l : Launch} {e : Env} {R : Room} {s : State} {m : MethodId} {args : Array Value} {below : List Frame} {meth : Method} {c : Code} {H : Heap} {locs : List Loc} {cells slots : Nat} {Q : State → Prop} {cc : ByteArray} {pc nL : Nat} {ls : Array Slot} {rest : List Value} {w : WV} {σ : Mem} (S : CallFix p m c cc nL s args gtbl RX1) (hK : KS LC w s) (hR : Rp EC LC w σ H) {h : Nat} (hh : h ∈ hourL) (hdg : decode cc pc = .ok (.getfield 69, 3)) (kk : W p l e R s m args below meth c H locs cells slots Q (F0 m (pc + 3) ls (.ref (w.2.2 (hst h)) :: rest))) : W p l e R s m args below meth c H locs cells slots Q (F0 m pc ls (.ref (w.2.2 h) :: rest)) := r_get S hK hR (ok_1 _ hh) inX1 (eC_1 _ hh w _) rfl 1 (by decide) (gt_at 198 (by decide +kernel) (by decide +kernel)) rfl hdg kk
theorem g1_95 {p : Program} {l : Launch} {e : Env} {R : Room} {s : State} {m : MethodId} {args : Array Value} {below : List Frame} {meth : Method} {c : Code} {H : Heap} {locs : List Loc} {cells slots : Nat} {Q : State → Prop} {cc : ByteArray} {pc nL : Nat} {ls : Array Slot} {rest : List Value} {w : WV} {σ : Mem} (S : CallFix p m c cc nL s args gtbl RX1) (hK : KS LC w s) (hR : Rp EC LC w σ H) {h : Nat} (hh : h ∈ bookL) {t : Nat} (ht : h + 1 = t) (hdg : decode cc pc = .ok (.getfield 95, 3)) (kk : W p l e R s m args below meth c H locs cells slots Q (F0 m (pc + 3) ls (.ref (w.2.2 t) :: rest))) : W p l e R s m args below meth c H locs cells slots Q (F0 m pc ls (.ref (w.2.2 h) :: rest)) := by subst ht; exact r_get S hK hR (ok_0 _ hh) inX0 (eC_0 _ hh w _) rfl 0 (by decide) (gt_at 142 (by decide +kernel) (by decide +kernel)) rfl hdg kk
theorem g1_174 {p : Program} {l : Launch} {e : Env} {R : Room} {s : State} {m : MethodId} {args : Array Value} {below : List Frame} {meth : Method} {c : Code} {H : Heap} {locs : List Loc} {cells slots : Nat} {Q : State → Prop} {cc : ByteArray} {pc nL : Nat} {ls : Array Slot} {rest : List Value} {w : WV} {σ : Mem} (S : CallFix p m c cc nL s args gtbl RX1) (hK : KS LC w s) (hR : Rp EC LC w σ H) {h : Nat} (hh : h ∈ bookL) {t : Nat} (ht : h + 4 = t) (hdg : decode cc pc = .ok (.getfield 174, 3)) (kk : W p l e R s m args below meth c H locs cells slots Q (F0 m (pc + 3) ls (.ref (w.2.2 t) :: rest))) : W p l e R s m args below meth c H locs cells slots Q (F0 m pc ls (.ref (w.2.2 h) :: rest)) := by subst ht; exact r_get S hK hR (ok_0 _ hh) inX0 (eC_0 _ hh w _) rfl 1 (by decide) (gt_at 145 (by decide +kernel) (by decide +kernel)) rfl hdg kk
theorem g2_9 {p : Program} {l : Launch} {e : Env} {R : Room} {s : State} {m : MethodId} {args : Array Value} {below : List Frame} {meth : Method} {c : Code} {H : Heap} {locs : List Loc} {cells slots : Nat} {Q : State → Prop} {cc : ByteArray} {pc nL : Nat} {ls : Array Slot} {rest : List Value} {w : WV} {σ : Mem} (S : CallFix p m c cc nL s args gtbl RX2) (hK : KS LC w s) (hR : Rp EC LC w σ H) {h : Nat} (hh : h ∈ pairsL) {t : Nat} (ht : h + 1 = t) (hdg : decode cc pc = .ok (.getfield 9, 3)) (kk : W p l e R s m args below meth c H locs cells slots Q (F0 m (pc + 3) ls (.ref (w.2.2 t) :: rest))) : W p l e R s m args below meth c H locs cells slots Q (F0 m pc ls (.ref (w.2.2 h) :: rest)) := by subst ht; exact r_get S hK hR (ok_2 _ hh) inX2 (eC_2 _ hh w _) rfl 0 (by decide) (gt_at 127 (by decide +kernel) (by decide +kernel)) rfl hdg kk
theorem g2_15 {p : Program} {l : Launch} {e : Env} {R : Room} {s : State} {m : MethodId} {args : Array Value} {below : List Frame} {meth : Method} {c : Code} {H : Heap} {locs : List Loc} {cells slots : Nat} {Q : State → Prop} {cc : ByteArray} {pc nL : Nat} {ls : Array Slot} {rest : List Value} {w : WV} {σ : Mem} (S : CallFix p m c cc nL s args gtbl RX2) (hK : KS LC w s) (hR : Rp EC LC w σ H) {h : Nat} (hh : h ∈ pairsL) {t : Nat} (ht : h + 2 = t) (hdg : decode cc pc = .ok (.getfield 15, 3)) (kk : W p l e R s m args below meth c H locs cells slots Q (F0 m (pc + 3) ls (.ref (w.2.2 t) :: rest))) : W p l e R s m args below meth c H locs cells slots Q (F0 m pc ls (.ref (w.2.2 h) :: rest)) := by subst ht; exact r_get S hK hR (ok_2 _ hh) inX2 (eC_2 _ hh w _) rfl 1 (by decide) (gt_at 128 (by decide +kernel) (by decide +kernel)) rfl hdg kk
theorem g2_18 {p : Program} {l : Launch} {e : Env} {R : Room} {s : State} {m : MethodId} {args : Array Value} {below : List Frame} {meth : Method} {c : Code} {H : Heap} {locs : List Loc} {cells slots : Nat} {Q : State → Prop} {cc : ByteArray} {pc nL : Nat} {ls : Array Slot} {rest : List Value} {w : WV} {σ : Mem} (S : CallFix p m c cc nL s args gtbl RX2) (hK : KS LC w s) (hR : Rp EC LC w σ H) {h : Nat} (hh : h ∈ pairsL) (hdg : decode cc pc = .ok (.getfield 18, 3)) (kk : W p l e R s m args below meth c H locs cells slots Q (F0 m (pc + 3) ls (.int (σ h 3) :: rest))) : W p l e R s m args below meth c H locs cells slots Q (F0 m pc ls (.ref (w.2.2 h) :: rest)) := r_get S hK hR (ok_2 _ hh) inX2 (eC_2 _ hh w _) rfl 3 (by decide) (gt_at 130 (by decide +kernel) (by decide +kernel)) rfl hdg kk
theorem u2_18 {p : Program} {l : Launch} {e : Env} {R : Room} {s : State} {m : MethodId} {args : Array Value} {below : List Frame} {meth : Method} {c : Code} {H : Heap} {locs : List Loc} {cells slots : Nat} {Q : State → Prop} {cc : ByteArray} {pc nL : Nat} {ls : Array Slot} {rest : List Value} {w : WV} {σ σ' : Mem} (S : CallFix p m c cc nL s args gtbl RX2) (hK : KS LC w s) (hR : Rp EC LC w σ H) (hS : va_S (AW LC w) s.heap H locs) {h : Nat} (hh : h ∈ pairsL) {x : Int32} (hm : σ' = mu σ h 3 x) (hdg : decode cc pc = .ok (.putfield 18, 3)) (kk : ∀ (H1 : Heap) (locs1 : List Loc), Rp EC LC w σ' H1 → va_S (AW LC w) s.heap H1 locs1 → W p l e R s m args below meth c H1 locs1 cells slots Q (F0 m (pc + 3) ls rest)) : W p l e R s m args below meth c H locs cells slots Q (F0 m pc ls (.int x :: .ref (w.2.2 h) :: rest)) := by
  subst hm
  exact r_put S hK hR hS (ok_2 _ hh) inX2 tyX2_ok nmX2 (eC_2 _ hh w _) rfl 3 (by decide) (gt_at 130 (by decide +kernel) (by decide +kernel)) rfl rfl rfl (Nat.le_of_ble_eq_true rfl) (eC_2 _ hh w _) hdg kk
theorem g2_28 {p : Program} {l : Launch} {e : Env} {R : Room} {s : State} {m : MethodId} {args : Array Value} {below : List Frame} {meth : Method} {c : Code} {H : Heap} {locs : List Loc} {cells slots : Nat} {Q : State → Prop} {cc : ByteArray} {pc nL : Nat} {ls : Array Slot} {rest : List Value} {w : WV} {σ : Mem} (S : CallFix p m c cc nL s args gtbl RX2) (hK : KS LC w s) (hR : Rp EC LC w σ H) {h : Nat} (hh : h ∈ pairsL) (hdg : decode cc pc = .ok (.getfield 28, 3)) (kk : W p l e R s m args below meth c H locs cells slots Q (F0 m (pc + 3) ls (.int (σ h 2) :: rest))) : W p l e R s m args below meth c H locs cells slots Q (F0 m pc ls (.ref (w.2.2 h) :: rest)) := r_get S hK hR (ok_2 _ hh) inX2 (eC_2 _ hh w _) rfl 2 (by decide) (gt_at 129 (by decide +kernel) (by decide +kernel)) rfl hdg kk
theorem g3_7 {p : Program} {l : Launch} {e : Env} {R : Room} {s : State} {m : MethodId} {args : Array Value} {below : List Frame} {meth : Method} {c : Code} {H : Heap} {locs : List Loc} {cells slots : Nat} {Q : State → Prop} {cc : ByteArray} {pc nL : Nat} {ls : Array Slot} {rest : List Value} {w : WV} {σ : Mem} (S : CallFix p m c cc nL s args gtbl RX3) (hK : KS LC w s) (hR : Rp EC LC w σ H) {h : Nat} (hh : h ∈ pileL) (hdg : decode cc pc = .ok (.getfield 7, 3)) (kk : W p l e R s m args below meth c H locs cells slots Q (F0 m (pc + 3) ls (.int (σ h 1) :: rest))) : W p l e R s m args below meth c H locs cells slots Q (F0 m pc ls (.ref (w.2.2 h) :: rest)) := r_get S hK hR (ok_3 _ hh) inX3 (eC_3 _ hh w _) rfl 1 (by decide) (gt_at 268 (by decide +kernel) (by decide +kernel)) rfl hdg kk
theorem u3_7 {p : Program} {l : Launch} {e : Env} {R : Room} {s : State} {m : MethodId} {args : Array Value} {below : List Frame} {meth : Method} {c : Code} {H : Heap} {locs : List Loc} {cells slots : Nat} {Q : State → Prop} {cc : ByteArray} {pc nL : Nat} {ls : Array Slot} {rest : List Value} {w : WV} {σ σ' : Mem} (S : CallFix p m c cc nL s args gtbl RX3) (hK : KS LC w s) (hR : Rp EC LC w σ H) (hS : va_S (AW LC w) s.heap H locs) {h : Nat} (hh : h ∈ pileL) {x : Int32} (hm : σ' = mu σ h 1 x) (hdg : decode cc pc = .ok (.putfield 7, 3)) (kk : ∀ (H1 : Heap) (locs1 : List Loc), Rp EC LC w σ' H1 → va_S (AW LC w) s.heap H1 locs1 → W p l e R s m args below meth c H1 locs1 cells slots Q (F0 m (pc + 3) ls rest)) : W p l e R s m args below meth c H locs cells slots Q (F0 m pc ls (.int x :: .ref (w.2.2 h) :: rest)) := by
  subst hm
  exact r_put S hK hR hS (ok_3 _ hh) inX3 tyX3_ok nmX3 (eC_3 _ hh w _) rfl 1 (by decide) (gt_at 268 (by decide +kernel) (by decide +kernel)) rfl rfl rfl (Nat.le_of_ble_eq_true rfl) (eC_3 _ hh w _) hdg kk
theorem g3_21 {p : Program} {l : Launch} {e : Env} {R : Room} {s : State} {m : MethodId} {args : Array Value} {below : List Frame} {meth : Method} {c : Code} {H : Heap} {locs : List Loc} {cells slots : Nat} {Q : State → Prop} {cc : ByteArray} {pc nL : Nat} {ls : Array Slot} {rest : List Value} {w : WV} {σ : Mem} (S : CallFix p m c cc nL s args gtbl RX3) (hK : KS LC w s) (hR : Rp EC LC w σ H) {h : Nat} (hh : h ∈ pileL) {t : Nat} (ht : h + 1 = t) (hdg : decode cc pc = .ok (.getfield 21, 3)) (kk : W p l e R s m args below meth c H locs cells slots Q (F0 m (pc + 3) ls (.ref (w.2.2 t) :: rest))) : W p l e R s m args below meth c H locs cells slots Q (F0 m pc ls (.ref (w.2.2 h) :: rest)) := by subst ht; exact r_get S hK hR (ok_3 _ hh) inX3 (eC_3 _ hh w _) rfl 0 (by decide) (gt_at 267 (by decide +kernel) (by decide +kernel)) rfl hdg kk
theorem g4_14 {p : Program} {l : Launch} {e : Env} {R : Room} {s : State} {m : MethodId} {args : Array Value} {below : List Frame} {meth : Method} {c : Code} {H : Heap} {locs : List Loc} {cells slots : Nat} {Q : State → Prop} {cc : ByteArray} {pc nL : Nat} {ls : Array Slot} {rest : List Value} {w : WV} {σ : Mem} (S : CallFix p m c cc nL s args gtbl RX4) (hK : KS LC w s) (hR : Rp EC LC w σ H) {h : Nat} (hh : h ∈ standL) {t : Nat} (ht : h + 1 = t) (hdg : decode cc pc = .ok (.getfield 14, 3)) (kk : W p l e R s m args below meth c H locs cells slots Q (F0 m (pc + 3) ls (.ref (w.2.2 t) :: rest))) : W p l e R s m args below meth c H locs cells slots Q (F0 m pc ls (.ref (w.2.2 h) :: rest)) := by subst ht; exact r_get S hK hR (ok_4 _ hh) inX4 (eC_4 _ hh w _) rfl 0 (by decide) (gt_at 182 (by decide +kernel) (by decide +kernel)) rfl hdg kk
theorem g4_20 {p : Program} {l : Launch} {e : Env} {R : Room} {s : State} {m : MethodId} {args : Array Value} {below : List Frame} {meth : Method} {c : Code} {H : Heap} {locs : List Loc} {cells slots : Nat} {Q : State → Prop} {cc : ByteArray} {pc nL : Nat} {ls : Array Slot} {rest : List Value} {w : WV} {σ : Mem} (S : CallFix p m c cc nL s args gtbl RX4) (hK : KS LC w s) (hR : Rp EC LC w σ H) {h : Nat} (hh : h ∈ standL) {t : Nat} (ht : h + 4 = t) (hdg : decode cc pc = .ok (.getfield 20, 3)) (kk : W p l e R s m args below meth c H locs cells slots Q (F0 m (pc + 3) ls (.ref (w.2.2 t) :: rest))) : W p l e R s m args below meth c H locs cells slots Q (F0 m pc ls (.ref (w.2.2 h) :: rest)) := by subst ht; exact r_get S hK hR (ok_4 _ hh) inX4 (eC_4 _ hh w _) rfl 1 (by decide) (gt_at 184 (by decide +kernel) (by decide +kernel)) rfl hdg kk
theorem g5_9 {p : Program} {l : Launch} {e : Env} {R : Room} {s : State} {m : MethodId} {args : Array Value} {below : List Frame} {meth : Method} {c : Code} {H : Heap} {locs : List Loc} {cells slots : Nat} {Q : State → Prop} {cc : ByteArray} {pc nL : Nat} {ls : Array Slot} {rest : List Value} {w : WV} {σ : Mem} (S : CallFix p m c cc nL s args gtbl RX5) (hK : KS LC w s) (hR : Rp EC LC w σ H) {h : Nat} (hh : h ∈ textL) {t : Nat} (ht : h + 1 = t) (hdg : decode cc pc = .ok (.getfield 9, 3)) (kk : W p l e R s m args below meth c H locs cells slots Q (F0 m (pc + 3) ls (.ref (w.2.2 t) :: rest))) : W p l e R s m args below meth c H locs cells slots Q (F0 m pc ls (.ref (w.2.2 h) :: rest)) := by subst ht; exact r_get S hK hR (ok_5 _ hh) inX5 (eC_5 _ hh w _) rfl 0 (by decide) (gt_at 101 (by decide +kernel) (by decide +kernel)) rfl hdg kk
theorem g5_15 {p : Program} {l : Launch} {e : Env} {R : Room} {s : State} {m : MethodId} {args : Array Value} {below : List Frame} {meth : Method} {c : Code} {H : Heap} {locs : List Loc} {cells slots : Nat} {Q : State → Prop} {cc : ByteArray} {pc nL : Nat} {ls : Array Slot} {rest : List Value} {w : WV} {σ : Mem} (S : CallFix p m c cc nL s args gtbl RX5) (hK : KS LC w s) (hR : Rp EC LC w σ H) {h : Nat} (hh : h ∈ textL) (hdg : decode cc pc = .ok (.getfield 15, 3)) (kk : W p l e R s m args below meth c H locs cells slots Q (F0 m (pc + 3) ls (.int (σ h 1) :: rest))) : W p l e R s m args below meth c H locs cells slots Q (F0 m pc ls (.ref (w.2.2 h) :: rest)) := r_get S hK hR (ok_5 _ hh) inX5 (eC_5 _ hh w _) rfl 1 (by decide) (gt_at 102 (by decide +kernel) (by decide +kernel)) rfl hdg kk
theorem u5_15 {p : Program} {l : Launch} {e : Env} {R : Room} {s : State} {m : MethodId} {args : Array Value} {below : List Frame} {meth : Method} {c : Code} {H : Heap} {locs : List Loc} {cells slots : Nat} {Q : State → Prop} {cc : ByteArray} {pc nL : Nat} {ls : Array Slot} {rest : List Value} {w : WV} {σ σ' : Mem} (S : CallFix p m c cc nL s args gtbl RX5) (hK : KS LC w s) (hR : Rp EC LC w σ H) (hS : va_S (AW LC w) s.heap H locs) {h : Nat} (hh : h ∈ textL) {x : Int32} (hm : σ' = mu σ h 1 x) (hdg : decode cc pc = .ok (.putfield 15, 3)) (kk : ∀ (H1 : Heap) (locs1 : List Loc), Rp EC LC w σ' H1 → va_S (AW LC w) s.heap H1 locs1 → W p l e R s m args below meth c H1 locs1 cells slots Q (F0 m (pc + 3) ls rest)) : W p l e R s m args below meth c H locs cells slots Q (F0 m pc ls (.int x :: .ref (w.2.2 h) :: rest)) := by
  subst hm
  exact r_put S hK hR hS (ok_5 _ hh) inX5 tyX5_ok nmX5 (eC_5 _ hh w _) rfl 1 (by decide) (gt_at 102 (by decide +kernel) (by decide +kernel)) rfl rfl rfl (Nat.le_of_ble_eq_true rfl) (eC_5 _ hh w _) hdg kk
theorem g5_19 {p : Program} {l : Launch} {e : Env} {R : Room} {s : State} {m : MethodId} {args : Array Value} {below : List Frame} {meth : Method} {c : Code} {H : Heap} {locs : List Loc} {cells slots : Nat} {Q : State → Prop} {cc : ByteArray} {pc nL : Nat} {ls : Array Slot} {rest : List Value} {w : WV} {σ : Mem} (S : CallFix p m c cc nL s args gtbl RX5) (hK : KS LC w s) (hR : Rp EC LC w σ H) {h : Nat} (hh : h ∈ textL) (hdg : decode cc pc = .ok (.getfield 19, 3)) (kk : W p l e R s m args below meth c H locs cells slots Q (F0 m (pc + 3) ls (.int (σ h 2) :: rest))) : W p l e R s m args below meth c H locs cells slots Q (F0 m pc ls (.ref (w.2.2 h) :: rest)) := r_get S hK hR (ok_5 _ hh) inX5 (eC_5 _ hh w _) rfl 2 (by decide) (gt_at 103 (by decide +kernel) (by decide +kernel)) rfl hdg kk
theorem u5_19 {p : Program} {l : Launch} {e : Env} {R : Room} {s : State} {m : MethodId} {args : Array Value} {below : List Frame} {meth : Method} {c : Code} {H : Heap} {locs : List Loc} {cells slots : Nat} {Q : State → Prop} {cc : ByteArray} {pc nL : Nat} {ls : Array Slot} {rest : List Value} {w : WV} {σ σ' : Mem} (S : CallFix p m c cc nL s args gtbl RX5) (hK : KS LC w s) (hR : Rp EC LC w σ H) (hS : va_S (AW LC w) s.heap H locs) {h : Nat} (hh : h ∈ textL) {x : Int32} (hm : σ' = mu σ h 2 x) (hdg : decode cc pc = .ok (.putfield 19, 3)) (kk : ∀ (H1 : Heap) (locs1 : List Loc), Rp EC LC w σ' H1 → va_S (AW LC w) s.heap H1 locs1 → W p l e R s m args below meth c H1 locs1 cells slots Q (F0 m (pc + 3) ls rest)) : W p l e R s m args below meth c H locs cells slots Q (F0 m pc ls (.int x :: .ref (w.2.2 h) :: rest)) := by
  subst hm
  exact r_put S hK hR hS (ok_5 _ hh) inX5 tyX5_ok nmX5 (eC_5 _ hh w _) rfl 2 (by decide) (gt_at 103 (by decide +kernel) (by decide +kernel)) rfl rfl rfl (Nat.le_of_ble_eq_true rfl) (eC_5 _ hh w _) hdg kk
theorem g6_10 {p : Program} {l : Launch} {e : Env} {R : Room} {s : State} {m : MethodId} {args : Array Value} {below : List Frame} {meth : Method} {c : Code} {H : Heap} {locs : List Loc} {cells slots : Nat} {Q : State → Prop} {cc : ByteArray} {pc nL : Nat} {ls : Array Slot} {rest : List Value} {w : WV} {σ : Mem} (S : CallFix p m c cc nL s args gtbl RX6) (hK : KS LC w s) (hR : Rp EC LC w σ H) (hdg : decode cc pc = .ok (.getfield 10, 3)) (kk : W p l e R s m args below meth c H locs cells slots Q (F0 m (pc + 3) ls (.ref (w.2.2 1) :: rest))) : W p l e R s m args below meth c H locs cells slots Q (F0 m pc ls (.ref (w.2.2 0) :: rest)) := r_get S hK hR (by decide) inX6 (eC_6 w _) rfl 0 (by decide) (gt_at 473 (by decide +kernel) (by decide +kernel)) rfl hdg kk
theorem g6_19 {p : Program} {l : Launch} {e : Env} {R : Room} {s : State} {m : MethodId} {args : Array Value} {below : List Frame} {meth : Method} {c : Code} {H : Heap} {locs : List Loc} {cells slots : Nat} {Q : State → Prop} {cc : ByteArray} {pc nL : Nat} {ls : Array Slot} {rest : List Value} {w : WV} {σ : Mem} (S : CallFix p m c cc nL s args gtbl RX6) (hK : KS LC w s) (hR : Rp EC LC w σ H) (hdg : decode cc pc = .ok (.getfield 19, 3)) (kk : W p l e R s m args below meth c H locs cells slots Q (F0 m (pc + 3) ls (.ref (w.2.2 3) :: rest))) : W p l e R s m args below meth c H locs cells slots Q (F0 m pc ls (.ref (w.2.2 0) :: rest)) := r_get S hK hR (by decide) inX6 (eC_6 w _) rfl 1 (by decide) (gt_at 474 (by decide +kernel) (by decide +kernel)) rfl hdg kk
theorem g6_23 {p : Program} {l : Launch} {e : Env} {R : Room} {s : State} {m : MethodId} {args : Array Value} {below : List Frame} {meth : Method} {c : Code} {H : Heap} {locs : List Loc} {cells slots : Nat} {Q : State → Prop} {cc : ByteArray} {pc nL : Nat} {ls : Array Slot} {rest : List Value} {w : WV} {σ : Mem} (S : CallFix p m c cc nL s args gtbl RX6) (hK : KS LC w s) (hR : Rp EC LC w σ H) (hdg : decode cc pc = .ok (.getfield 23, 3)) (kk : W p l e R s m args below meth c H locs cells slots Q (F0 m (pc + 3) ls (.ref (w.2.2 17) :: rest))) : W p l e R s m args below meth c H locs cells slots Q (F0 m pc ls (.ref (w.2.2 0) :: rest)) := r_get S hK hR (by decide) inX6 (eC_6 w _) rfl 2 (by decide) (gt_at 475 (by decide +kernel) (by decide +kernel)) rfl hdg kk
theorem g6_29 {p : Program} {l : Launch} {e : Env} {R : Room} {s : State} {m : MethodId} {args : Array Value} {below : List Frame} {meth : Method} {c : Code} {H : Heap} {locs : List Loc} {cells slots : Nat} {Q : State → Prop} {cc : ByteArray} {pc nL : Nat} {ls : Array Slot} {rest : List Value} {w : WV} {σ : Mem} (S : CallFix p m c cc nL s args gtbl RX6) (hK : KS LC w s) (hR : Rp EC LC w σ H) (hdg : decode cc pc = .ok (.getfield 29, 3)) (kk : W p l e R s m args below meth c H locs cells slots Q (F0 m (pc + 3) ls (.ref (w.2.2 31) :: rest))) : W p l e R s m args below meth c H locs cells slots Q (F0 m pc ls (.ref (w.2.2 0) :: rest)) := r_get S hK hR (by decide) inX6 (eC_6 w _) rfl 3 (by decide) (gt_at 476 (by decide +kernel) (by decide +kernel)) rfl hdg kk
theorem g6_33 {p : Program} {l : Launch} {e : Env} {R : Room} {s : State} {m : MethodId} {args : Array Value} {below : List Frame} {meth : Method} {c : Code} {H : Heap} {locs : List Loc} {cells slots : Nat} {Q : State → Prop} {cc : ByteArray} {pc nL : Nat} {ls : Array Slot} {rest : List Value} {w : WV} {σ : Mem} (S : CallFix p m c cc nL s args gtbl RX6) (hK : KS LC w s) (hR : Rp EC LC w σ H) (hdg : decode cc pc = .ok (.getfield 33, 3)) (kk : W p l e R s m args below meth c H locs cells slots Q (F0 m (pc + 3) ls (.ref (w.2.2 36) :: rest))) : W p l e R s m args below meth c H locs cells slots Q (F0 m pc ls (.ref (w.2.2 0) :: rest)) := r_get S hK hR (by decide) inX6 (eC_6 w _) rfl 4 (by decide) (gt_at 477 (by decide +kernel) (by decide +kernel)) rfl hdg kk
theorem g6_38 {p : Program} {l : Launch} {e : Env} {R : Room} {s : State} {m : MethodId} {args : Array Value} {below : List Frame} {meth : Method} {c : Code} {H : Heap} {locs : List Loc} {cells slots : Nat} {Q : State → Prop} {cc : ByteArray} {pc nL : Nat} {ls : Array Slot} {rest : List Value} {w : WV} {σ : Mem} (S : CallFix p m c cc nL s args gtbl RX6) (hK : KS LC w s) (hR : Rp EC LC w σ H) (hdg : decode cc pc = .ok (.getfield 38, 3)) (kk : W p l e R s m args below meth c H locs cells slots Q (F0 m (pc + 3) ls (.ref (w.2.2 41) :: rest))) : W p l e R s m args below meth c H locs cells slots Q (F0 m pc ls (.ref (w.2.2 0) :: rest)) := r_get S hK hR (by decide) inX6 (eC_6 w _) rfl 5 (by decide) (gt_at 478 (by decide +kernel) (by decide +kernel)) rfl hdg kk
theorem g6_45 {p : Program} {l : Launch} {e : Env} {R : Room} {s : State} {m : MethodId} {args : Array Value} {below : List Frame} {meth : Method} {c : Code} {H : Heap} {locs : List Loc} {cells slots : Nat} {Q : State → Prop} {cc : ByteArray} {pc nL : Nat} {ls : Array Slot} {rest : List Value} {w : WV} {σ : Mem} (S : CallFix p m c cc nL s args gtbl RX6) (hK : KS LC w s) (hR : Rp EC LC w σ H) (hdg : decode cc pc = .ok (.getfield 45, 3)) (kk : W p l e R s m args below meth c H locs cells slots Q (F0 m (pc + 3) ls (.ref (w.2.2 74) :: rest))) : W p l e R s m args below meth c H locs cells slots Q (F0 m pc ls (.ref (w.2.2 0) :: rest)) := r_get S hK hR (by decide) inX6 (eC_6 w _) rfl 6 (by decide) (gt_at 479 (by decide +kernel) (by decide +kernel)) rfl hdg kk
theorem g6_54 {p : Program} {l : Launch} {e : Env} {R : Room} {s : State} {m : MethodId} {args : Array Value} {below : List Frame} {meth : Method} {c : Code} {H : Heap} {locs : List Loc} {cells slots : Nat} {Q : State → Prop} {cc : ByteArray} {pc nL : Nat} {ls : Array Slot} {rest : List Value} {w : WV} {σ : Mem} (S : CallFix p m c cc nL s args gtbl RX6) (hK : KS LC w s) (hR : Rp EC LC w σ H) (hdg : decode cc pc = .ok (.getfield 54, 3)) (kk : W p l e R s m args below meth c H locs cells slots Q (F0 m (pc + 3) ls (.ref (w.2.2 82) :: rest))) : W p l e R s m args below meth c H locs cells slots Q (F0 m pc ls (.ref (w.2.2 0) :: rest)) := r_get S hK hR (by decide) inX6 (eC_6 w _) rfl 7 (by decide) (gt_at 480 (by decide +kernel) (by decide +kernel)) rfl hdg kk
theorem g6_58 {p : Program} {l : Launch} {e : Env} {R : Room} {s : State} {m : MethodId} {args : Array Value} {below : List Frame} {meth : Method} {c : Code} {H : Heap} {locs : List Loc} {cells slots : Nat} {Q : State → Prop} {cc : ByteArray} {pc nL : Nat} {ls : Array Slot} {rest : List Value} {w : WV} {σ : Mem} (S : CallFix p m c cc nL s args gtbl RX6) (hK : KS LC w s) (hR : Rp EC LC w σ H) (hdg : decode cc pc = .ok (.getfield 58, 3)) (kk : W p l e R s m args below meth c H locs cells slots Q (F0 m (pc + 3) ls (.ref (w.2.2 124) :: rest))) : W p l e R s m args below meth c H locs cells slots Q (F0 m pc ls (.ref (w.2.2 0) :: rest)) := r_get S hK hR (by decide) inX6 (eC_6 w _) rfl 8 (by decide) (gt_at 481 (by decide +kernel) (by decide +kernel)) rfl hdg kk
theorem g6_64 {p : Program} {l : Launch} {e : Env} {R : Room} {s : State} {m : MethodId} {args : Array Value} {below : List Frame} {meth : Method} {c : Code} {H : Heap} {locs : List Loc} {cells slots : Nat} {Q : State → Prop} {cc : ByteArray} {pc nL : Nat} {ls : Array Slot} {rest : List Value} {w : WV} {σ : Mem} (S : CallFix p m c cc nL s args gtbl RX6) (hK : KS LC w s) (hR : Rp EC LC w σ H) (hdg : decode cc pc = .ok (.getfield 64, 3)) (kk : W p l e R s m args below meth c H locs cells slots Q (F0 m (pc + 3) ls (.ref (w.2.2 136) :: rest))) : W p l e R s m args below meth c H locs cells slots Q (F0 m pc ls (.ref (w.2.2 0) :: rest)) := r_get S hK hR (by decide) inX6 (eC_6 w _) rfl 9 (by decide) (gt_at 482 (by decide +kernel) (by decide +kernel)) rfl hdg kk
theorem g6_68 {p : Program} {l : Launch} {e : Env} {R : Room} {s : State} {m : MethodId} {args : Array Value} {below : List Frame} {meth : Method} {c : Code} {H : Heap} {locs : List Loc} {cells slots : Nat} {Q : State → Prop} {cc : ByteArray} {pc nL : Nat} {ls : Array Slot} {rest : List Value} {w : WV} {σ : Mem} (S : CallFix p m c cc nL s args gtbl RX6) (hK : KS LC w s) (hR : Rp EC LC w σ H) (hdg : decode cc pc = .ok (.getfield 68, 3)) (kk : W p l e R s m args below meth c H locs cells slots Q (F0 m (pc + 3) ls (.int (σ 0 10) :: rest))) : W p l e R s m args below meth c H locs cells slots Q (F0 m pc ls (.ref (w.2.2 0) :: rest)) := r_get S hK hR (by decide) inX6 (eC_6 w _) rfl 10 (by decide) (gt_at 483 (by decide +kernel) (by decide +kernel)) rfl hdg kk
theorem u6_68 {p : Program} {l : Launch} {e : Env} {R : Room} {s : State} {m : MethodId} {args : Array Value} {below : List Frame} {meth : Method} {c : Code} {H : Heap} {locs : List Loc} {cells slots : Nat} {Q : State → Prop} {cc : ByteArray} {pc nL : Nat} {ls : Array Slot} {rest : List Value} {w : WV} {σ σ' : Mem} (S : CallFix p m c cc nL s args gtbl RX6) (hK : KS LC w s) (hR : Rp EC LC w σ H) (hS : va_S (AW LC w) s.heap H locs) {x : Int32} (hb : x = 0 ∨ x = 1) (hm : σ' = mu σ 0 10 x) (hdg : decode cc pc = .ok (.putfield 68, 3)) (kk : ∀ (H1 : Heap) (locs1 : List Loc), Rp EC LC w σ' H1 → va_S (AW LC w) s.heap H1 locs1 → W p l e R s m args below meth c H1 locs1 cells slots Q (F0 m (pc + 3) ls rest)) : W p l e R s m args below meth c H locs cells slots Q (F0 m pc ls (.int x :: .ref (w.2.2 0) :: rest)) := by
  subst hm
  exact r_put S hK hR hS (by decide) inX6 tyX6_ok nmX6 (eC_6 w _) rfl 10 (by decide) (gt_at 483 (by decide +kernel) (by decide +kernel)) rfl (nb_n hb) (nb_f hb) (Nat.le_of_ble_eq_true rfl) (eC_6 w _) hdg kk
theorem g6_72 {p : Program} {l : Launch} {e : Env} {R : Room} {s : State} {m : MethodId} {args : Array Value} {below : List Frame} {meth : Method} {c : Code} {H : Heap} {locs : List Loc} {cells slots : Nat} {Q : State → Prop} {cc : ByteArray} {pc nL : Nat} {ls : Array Slot} {rest : List Value} {w : WV} {σ : Mem} (S : CallFix p m c cc nL s args gtbl RX6) (hK : KS LC w s) (hR : Rp EC LC w σ H) (hdg : decode cc pc = .ok (.getfield 72, 3)) (kk : W p l e R s m args below meth c H locs cells slots Q (F0 m (pc + 3) ls (.int (σ 0 11) :: rest))) : W p l e R s m args below meth c H locs cells slots Q (F0 m pc ls (.ref (w.2.2 0) :: rest)) := r_get S hK hR (by decide) inX6 (eC_6 w _) rfl 11 (by decide) (gt_at 484 (by decide +kernel) (by decide +kernel)) rfl hdg kk
theorem u6_72 {p : Program} {l : Launch} {e : Env} {R : Room} {s : State} {m : MethodId} {args : Array Value} {below : List Frame} {meth : Method} {c : Code} {H : Heap} {locs : List Loc} {cells slots : Nat} {Q : State → Prop} {cc : ByteArray} {pc nL : Nat} {ls : Array Slot} {rest : List Value} {w : WV} {σ σ' : Mem} (S : CallFix p m c cc nL s args gtbl RX6) (hK : KS LC w s) (hR : Rp EC LC w σ H) (hS : va_S (AW LC w) s.heap H locs) {x : Int32} (hm : σ' = mu σ 0 11 x) (hdg : decode cc pc = .ok (.putfield 72, 3)) (kk : ∀ (H1 : Heap) (locs1 : List Loc), Rp EC LC w σ' H1 → va_S (AW LC w) s.heap H1 locs1 → W p l e R s m args below meth c H1 locs1 cells slots Q (F0 m (pc + 3) ls rest)) : W p l e R s m args below meth c H locs cells slots Q (F0 m pc ls (.int x :: .ref (w.2.2 0) :: rest)) := by
  subst hm
  exact r_put S hK hR hS (by decide) inX6 tyX6_ok nmX6 (eC_6 w _) rfl 11 (by decide) (gt_at 484 (by decide +kernel) (by decide +kernel)) rfl rfl rfl (Nat.le_of_ble_eq_true rfl) (eC_6 w _) hdg kk
theorem g6_76 {p : Program} {l : Launch} {e : Env} {R : Room} {s : State} {m : MethodId} {args : Array Value} {below : List Frame} {meth : Method} {c : Code} {H : Heap} {locs : List Loc} {cells slots : Nat} {Q : State → Prop} {cc : ByteArray} {pc nL : Nat} {ls : Array Slot} {rest : List Value} {w : WV} {σ : Mem} (S : CallFix p m c cc nL s args gtbl RX6) (hK : KS LC w s) (hR : Rp EC LC w σ H) (hdg : decode cc pc = .ok (.getfield 76, 3)) (kk : W p l e R s m args below meth c H locs cells slots Q (F0 m (pc + 3) ls (.int (σ 0 12) :: rest))) : W p l e R s m args below meth c H locs cells slots Q (F0 m pc ls (.ref (w.2.2 0) :: rest)) := r_get S hK hR (by decide) inX6 (eC_6 w _) rfl 12 (by decide) (gt_at 485 (by decide +kernel) (by decide +kernel)) rfl hdg kk
theorem u6_76 {p : Program} {l : Launch} {e : Env} {R : Room} {s : State} {m : MethodId} {args : Array Value} {below : List Frame} {meth : Method} {c : Code} {H : Heap} {locs : List Loc} {cells slots : Nat} {Q : State → Prop} {cc : ByteArray} {pc nL : Nat} {ls : Array Slot} {rest : List Value} {w : WV} {σ σ' : Mem} (S : CallFix p m c cc nL s args gtbl RX6) (hK : KS LC w s) (hR : Rp EC LC w σ H) (hS : va_S (AW LC w) s.heap H locs) {x : Int32} (hm : σ' = mu σ 0 12 x) (hdg : decode cc pc = .ok (.putfield 76, 3)) (kk : ∀ (H1 : Heap) (locs1 : List Loc), Rp EC LC w σ' H1 → va_S (AW LC w) s.heap H1 locs1 → W p l e R s m args below meth c H1 locs1 cells slots Q (F0 m (pc + 3) ls rest)) : W p l e R s m args below meth c H locs cells slots Q (F0 m pc ls (.int x :: .ref (w.2.2 0) :: rest)) := by
  subst hm
  exact r_put S hK hR hS (by decide) inX6 tyX6_ok nmX6 (eC_6 w _) rfl 12 (by decide) (gt_at 485 (by decide +kernel) (by decide +kernel)) rfl rfl rfl (Nat.le_of_ble_eq_true rfl) (eC_6 w _) hdg kk
theorem g6_113 {p : Program} {l : Launch} {e : Env} {R : Room} {s : State} {m : MethodId} {args : Array Value} {below : List Frame} {meth : Method} {c : Code} {H : Heap} {locs : List Loc} {cells slots : Nat} {Q : State → Prop} {cc : ByteArray} {pc nL : Nat} {ls : Array Slot} {rest : List Value} {w : WV} {σ : Mem} (S : CallFix p m c cc nL s args gtbl RX6) (hK : KS LC w s) (hR : Rp EC LC w σ H) {h : Nat} (hh : h ∈ bookL) {t : Nat} (ht : h + 1 = t) (hdg : decode cc pc = .ok (.getfield 113, 3)) (kk : W p l e R s m args below meth c H locs cells slots Q (F0 m (pc + 3) ls (.ref (w.2.2 t) :: rest))) : W p l e R s m args below meth c H locs cells slots Q (F0 m pc ls (.ref (w.2.2 h) :: rest)) := by subst ht; exact r_get S hK hR (ok_0 _ hh) inX0 (eC_0 _ hh w _) rfl 0 (by decide) (gt_at 141 (by decide +kernel) (by decide +kernel)) rfl hdg kk
theorem g6_136 {p : Program} {l : Launch} {e : Env} {R : Room} {s : State} {m : MethodId} {args : Array Value} {below : List Frame} {meth : Method} {c : Code} {H : Heap} {locs : List Loc} {cells slots : Nat} {Q : State → Prop} {cc : ByteArray} {pc nL : Nat} {ls : Array Slot} {rest : List Value} {w : WV} {σ : Mem} (S : CallFix p m c cc nL s args gtbl RX6) (hK : KS LC w s) (hR : Rp EC LC w σ H) {h : Nat} (hh : h ∈ bookL) {t : Nat} (ht : h + 4 = t) (hdg : decode cc pc = .ok (.getfield 136, 3)) (kk : W p l e R s m args below meth c H locs cells slots Q (F0 m (pc + 3) ls (.ref (w.2.2 t) :: rest))) : W p l e R s m args below meth c H locs cells slots Q (F0 m pc ls (.ref (w.2.2 h) :: rest)) := by subst ht; exact r_get S hK hR (ok_0 _ hh) inX0 (eC_0 _ hh w _) rfl 1 (by decide) (gt_at 144 (by decide +kernel) (by decide +kernel)) rfl hdg kk
theorem g6_178 {p : Program} {l : Launch} {e : Env} {R : Room} {s : State} {m : MethodId} {args : Array Value} {below : List Frame} {meth : Method} {c : Code} {H : Heap} {locs : List Loc} {cells slots : Nat} {Q : State → Prop} {cc : ByteArray} {pc nL : Nat} {ls : Array Slot} {rest : List Value} {w : WV} {σ : Mem} (S : CallFix p m c cc nL s args gtbl RX6) (hK : KS LC w s) (hR : Rp EC LC w σ H) {h : Nat} (hh : h ∈ standL) {t : Nat} (ht : h + 1 = t) (hdg : decode cc pc = .ok (.getfield 178, 3)) (kk : W p l e R s m args below meth c H locs cells slots Q (F0 m (pc + 3) ls (.ref (w.2.2 t) :: rest))) : W p l e R s m args below meth c H locs cells slots Q (F0 m pc ls (.ref (w.2.2 h) :: rest)) := by subst ht; exact r_get S hK hR (ok_4 _ hh) inX4 (eC_4 _ hh w _) rfl 0 (by decide) (gt_at 183 (by decide +kernel) (by decide +kernel)) rfl hdg kk
theorem g6_208 {p : Program} {l : Launch} {e : Env} {R : Room} {s : State} {m : MethodId} {args : Array Value} {below : List Frame} {meth : Method} {c : Code} {H : Heap} {locs : List Loc} {cells slots : Nat} {Q : State → Prop} {cc : ByteArray} {pc nL : Nat} {ls : Array Slot} {rest : List Value} {w : WV} {σ : Mem} (S : CallFix p m c cc nL s args gtbl RX6) (hK : KS LC w s) (hR : Rp EC LC w σ H) {h : Nat} (hh : h ∈ bookL) {t : Nat} (ht : h + 10 = t) (hdg : decode cc pc = .ok (.getfield 208, 3)) (kk : W p l e R s m args below meth c H locs cells slots Q (F0 m (pc + 3) ls (.ref (w.2.2 t) :: rest))) : W p l e R s m args below meth c H locs cells slots Q (F0 m pc ls (.ref (w.2.2 h) :: rest)) := by subst ht; exact r_get S hK hR (ok_0 _ hh) inX0 (eC_0 _ hh w _) rfl 3 (by decide) (gt_at 149 (by decide +kernel) (by decide +kernel)) rfl hdg kk
theorem g6_250 {p : Program} {l : Launch} {e : Env} {R : Room} {s : State} {m : MethodId} {args : Array Value} {below : List Frame} {meth : Method} {c : Code} {H : Heap} {locs : List Loc} {cells slots : Nat} {Q : State → Prop} {cc : ByteArray} {pc nL : Nat} {ls : Array Slot} {rest : List Value} {w : WV} {σ : Mem} (S : CallFix p m c cc nL s args gtbl RX6) (hK : KS LC w s) (hR : Rp EC LC w σ H) {h : Nat} (hh : h ∈ bookL) {t : Nat} (ht : h + 7 = t) (hdg : decode cc pc = .ok (.getfield 250, 3)) (kk : W p l e R s m args below meth c H locs cells slots Q (F0 m (pc + 3) ls (.ref (w.2.2 t) :: rest))) : W p l e R s m args below meth c H locs cells slots Q (F0 m pc ls (.ref (w.2.2 h) :: rest)) := by subst ht; exact r_get S hK hR (ok_0 _ hh) inX0 (eC_0 _ hh w _) rfl 2 (by decide) (gt_at 147 (by decide +kernel) (by decide +kernel)) rfl hdg kk
theorem g7_7 {p : Program} {l : Launch} {e : Env} {R : Room} {s : State} {m : MethodId} {args : Array Value} {below : List Frame} {meth : Method} {c : Code} {H : Heap} {locs : List Loc} {cells slots : Nat} {Q : State → Prop} {cc : ByteArray} {pc nL : Nat} {ls : Array Slot} {rest : List Value} {w : WV} {σ : Mem} (S : CallFix p m c cc nL s args gtbl RX7) (hK : KS LM w s) (hR : Rp EM LM w σ H) (hdg : decode cc pc = .ok (.getfield 7, 3)) (kk : W p l e R s m args below meth c H locs cells slots Q (F0 m (pc + 3) ls (.ref (w.2.2 2) :: rest))) : W p l e R s m args below meth c H locs cells slots Q (F0 m pc ls (.ref (w.2.2 0) :: rest)) := r_get S hK hR (by decide) inX7 (eM_7 w _) rfl 1 (by decide) (gt_at 907 (by decide +kernel) (by decide +kernel)) rfl hdg kk
theorem g7_13 {p : Program} {l : Launch} {e : Env} {R : Room} {s : State} {m : MethodId} {args : Array Value} {below : List Frame} {meth : Method} {c : Code} {H : Heap} {locs : List Loc} {cells slots : Nat} {Q : State → Prop} {cc : ByteArray} {pc nL : Nat} {ls : Array Slot} {rest : List Value} {w : WV} {σ : Mem} (S : CallFix p m c cc nL s args gtbl RX7) (hK : KS LM w s) (hR : Rp EM LM w σ H) (hdg : decode cc pc = .ok (.getfield 13, 3)) (kk : W p l e R s m args below meth c H locs cells slots Q (F0 m (pc + 3) ls (.ref (w.2.2 3) :: rest))) : W p l e R s m args below meth c H locs cells slots Q (F0 m pc ls (.ref (w.2.2 0) :: rest)) := r_get S hK hR (by decide) inX7 (eM_7 w _) rfl 2 (by decide) (gt_at 908 (by decide +kernel) (by decide +kernel)) rfl hdg kk
theorem g7_16 {p : Program} {l : Launch} {e : Env} {R : Room} {s : State} {m : MethodId} {args : Array Value} {below : List Frame} {meth : Method} {c : Code} {H : Heap} {locs : List Loc} {cells slots : Nat} {Q : State → Prop} {cc : ByteArray} {pc nL : Nat} {ls : Array Slot} {rest : List Value} {w : WV} {σ : Mem} (S : CallFix p m c cc nL s args gtbl RX7) (hK : KS LM w s) (hR : Rp EM LM w σ H) (hdg : decode cc pc = .ok (.getfield 16, 3)) (kk : W p l e R s m args below meth c H locs cells slots Q (F0 m (pc + 3) ls (.ref (w.2.2 4) :: rest))) : W p l e R s m args below meth c H locs cells slots Q (F0 m pc ls (.ref (w.2.2 0) :: rest)) := r_get S hK hR (by decide) inX7 (eM_7 w _) rfl 3 (by decide) (gt_at 909 (by decide +kernel) (by decide +kernel)) rfl hdg kk
theorem g7_19 {p : Program} {l : Launch} {e : Env} {R : Room} {s : State} {m : MethodId} {args : Array Value} {below : List Frame} {meth : Method} {c : Code} {H : Heap} {locs : List Loc} {cells slots : Nat} {Q : State → Prop} {cc : ByteArray} {pc nL : Nat} {ls : Array Slot} {rest : List Value} {w : WV} {σ : Mem} (S : CallFix p m c cc nL s args gtbl RX7) (hK : KS LM w s) (hR : Rp EM LM w σ H) (hdg : decode cc pc = .ok (.getfield 19, 3)) (kk : W p l e R s m args below meth c H locs cells slots Q (F0 m (pc + 3) ls (.ref (w.2.2 5) :: rest))) : W p l e R s m args below meth c H locs cells slots Q (F0 m pc ls (.ref (w.2.2 0) :: rest)) := r_get S hK hR (by decide) inX7 (eM_7 w _) rfl 4 (by decide) (gt_at 910 (by decide +kernel) (by decide +kernel)) rfl hdg kk
theorem g7_22 {p : Program} {l : Launch} {e : Env} {R : Room} {s : State} {m : MethodId} {args : Array Value} {below : List Frame} {meth : Method} {c : Code} {H : Heap} {locs : List Loc} {cells slots : Nat} {Q : State → Prop} {cc : ByteArray} {pc nL : Nat} {ls : Array Slot} {rest : List Value} {w : WV} {σ : Mem} (S : CallFix p m c cc nL s args gtbl RX7) (hK : KS LM w s) (hR : Rp EM LM w σ H) (hdg : decode cc pc = .ok (.getfield 22, 3)) (kk : W p l e R s m args below meth c H locs cells slots Q (F0 m (pc + 3) ls (.ref (w.2.2 6) :: rest))) : W p l e R s m args below meth c H locs cells slots Q (F0 m pc ls (.ref (w.2.2 0) :: rest)) := r_get S hK hR (by decide) inX7 (eM_7 w _) rfl 5 (by decide) (gt_at 911 (by decide +kernel) (by decide +kernel)) rfl hdg kk
theorem g7_25 {p : Program} {l : Launch} {e : Env} {R : Room} {s : State} {m : MethodId} {args : Array Value} {below : List Frame} {meth : Method} {c : Code} {H : Heap} {locs : List Loc} {cells slots : Nat} {Q : State → Prop} {cc : ByteArray} {pc nL : Nat} {ls : Array Slot} {rest : List Value} {w : WV} {σ : Mem} (S : CallFix p m c cc nL s args gtbl RX7) (hK : KS LM w s) (hR : Rp EM LM w σ H) (hdg : decode cc pc = .ok (.getfield 25, 3)) (kk : W p l e R s m args below meth c H locs cells slots Q (F0 m (pc + 3) ls (.ref (w.2.2 7) :: rest))) : W p l e R s m args below meth c H locs cells slots Q (F0 m pc ls (.ref (w.2.2 0) :: rest)) := r_get S hK hR (by decide) inX7 (eM_7 w _) rfl 6 (by decide) (gt_at 912 (by decide +kernel) (by decide +kernel)) rfl hdg kk
theorem g7_28 {p : Program} {l : Launch} {e : Env} {R : Room} {s : State} {m : MethodId} {args : Array Value} {below : List Frame} {meth : Method} {c : Code} {H : Heap} {locs : List Loc} {cells slots : Nat} {Q : State → Prop} {cc : ByteArray} {pc nL : Nat} {ls : Array Slot} {rest : List Value} {w : WV} {σ : Mem} (S : CallFix p m c cc nL s args gtbl RX7) (hK : KS LM w s) (hR : Rp EM LM w σ H) (hdg : decode cc pc = .ok (.getfield 28, 3)) (kk : W p l e R s m args below meth c H locs cells slots Q (F0 m (pc + 3) ls (.ref (w.2.2 8) :: rest))) : W p l e R s m args below meth c H locs cells slots Q (F0 m pc ls (.ref (w.2.2 0) :: rest)) := r_get S hK hR (by decide) inX7 (eM_7 w _) rfl 7 (by decide) (gt_at 913 (by decide +kernel) (by decide +kernel)) rfl hdg kk
theorem g7_31 {p : Program} {l : Launch} {e : Env} {R : Room} {s : State} {m : MethodId} {args : Array Value} {below : List Frame} {meth : Method} {c : Code} {H : Heap} {locs : List Loc} {cells slots : Nat} {Q : State → Prop} {cc : ByteArray} {pc nL : Nat} {ls : Array Slot} {rest : List Value} {w : WV} {σ : Mem} (S : CallFix p m c cc nL s args gtbl RX7) (hK : KS LM w s) (hR : Rp EM LM w σ H) (hdg : decode cc pc = .ok (.getfield 31, 3)) (kk : W p l e R s m args below meth c H locs cells slots Q (F0 m (pc + 3) ls (.ref (w.2.2 9) :: rest))) : W p l e R s m args below meth c H locs cells slots Q (F0 m pc ls (.ref (w.2.2 0) :: rest)) := r_get S hK hR (by decide) inX7 (eM_7 w _) rfl 8 (by decide) (gt_at 914 (by decide +kernel) (by decide +kernel)) rfl hdg kk
theorem g7_34 {p : Program} {l : Launch} {e : Env} {R : Room} {s : State} {m : MethodId} {args : Array Value} {below : List Frame} {meth : Method} {c : Code} {H : Heap} {locs : List Loc} {cells slots : Nat} {Q : State → Prop} {cc : ByteArray} {pc nL : Nat} {ls : Array Slot} {rest : List Value} {w : WV} {σ : Mem} (S : CallFix p m c cc nL s args gtbl RX7) (hK : KS LM w s) (hR : Rp EM LM w σ H) (hdg : decode cc pc = .ok (.getfield 34, 3)) (kk : W p l e R s m args below meth c H locs cells slots Q (F0 m (pc + 3) ls (.ref (w.2.2 10) :: rest))) : W p l e R s m args below meth c H locs cells slots Q (F0 m pc ls (.ref (w.2.2 0) :: rest)) := r_get S hK hR (by decide) inX7 (eM_7 w _) rfl 9 (by decide) (gt_at 915 (by decide +kernel) (by decide +kernel)) rfl hdg kk
theorem g7_37 {p : Program} {l : Launch} {e : Env} {R : Room} {s : State} {m : MethodId} {args : Array Value} {below : List Frame} {meth : Method} {c : Code} {H : Heap} {locs : List Loc} {cells slots : Nat} {Q : State → Prop} {cc : ByteArray} {pc nL : Nat} {ls : Array Slot} {rest : List Value} {w : WV} {σ : Mem} (S : CallFix p m c cc nL s args gtbl RX7) (hK : KS LM w s) (hR : Rp EM LM w σ H) (hdg : decode cc pc = .ok (.getfield 37, 3)) (kk : W p l e R s m args below meth c H locs cells slots Q (F0 m (pc + 3) ls (.ref (w.2.2 11) :: rest))) : W p l e R s m args below meth c H locs cells slots Q (F0 m pc ls (.ref (w.2.2 0) :: rest)) := r_get S hK hR (by decide) inX7 (eM_7 w _) rfl 10 (by decide) (gt_at 916 (by decide +kernel) (by decide +kernel)) rfl hdg kk
theorem g7_40 {p : Program} {l : Launch} {e : Env} {R : Room} {s : State} {m : MethodId} {args : Array Value} {below : List Frame} {meth : Method} {c : Code} {H : Heap} {locs : List Loc} {cells slots : Nat} {Q : State → Prop} {cc : ByteArray} {pc nL : Nat} {ls : Array Slot} {rest : List Value} {w : WV} {σ : Mem} (S : CallFix p m c cc nL s args gtbl RX7) (hK : KS LM w s) (hR : Rp EM LM w σ H) (hdg : decode cc pc = .ok (.getfield 40, 3)) (kk : W p l e R s m args below meth c H locs cells slots Q (F0 m (pc + 3) ls (.ref (w.2.2 12) :: rest))) : W p l e R s m args below meth c H locs cells slots Q (F0 m pc ls (.ref (w.2.2 0) :: rest)) := r_get S hK hR (by decide) inX7 (eM_7 w _) rfl 11 (by decide) (gt_at 917 (by decide +kernel) (by decide +kernel)) rfl hdg kk
theorem g7_43 {p : Program} {l : Launch} {e : Env} {R : Room} {s : State} {m : MethodId} {args : Array Value} {below : List Frame} {meth : Method} {c : Code} {H : Heap} {locs : List Loc} {cells slots : Nat} {Q : State → Prop} {cc : ByteArray} {pc nL : Nat} {ls : Array Slot} {rest : List Value} {w : WV} {σ : Mem} (S : CallFix p m c cc nL s args gtbl RX7) (hK : KS LM w s) (hR : Rp EM LM w σ H) (hdg : decode cc pc = .ok (.getfield 43, 3)) (kk : W p l e R s m args below meth c H locs cells slots Q (F0 m (pc + 3) ls (.ref (w.2.2 13) :: rest))) : W p l e R s m args below meth c H locs cells slots Q (F0 m pc ls (.ref (w.2.2 0) :: rest)) := r_get S hK hR (by decide) inX7 (eM_7 w _) rfl 12 (by decide) (gt_at 918 (by decide +kernel) (by decide +kernel)) rfl hdg kk
theorem g7_46 {p : Program} {l : Launch} {e : Env} {R : Room} {s : State} {m : MethodId} {args : Array Value} {below : List Frame} {meth : Method} {c : Code} {H : Heap} {locs : List Loc} {cells slots : Nat} {Q : State → Prop} {cc : ByteArray} {pc nL : Nat} {ls : Array Slot} {rest : List Value} {w : WV} {σ : Mem} (S : CallFix p m c cc nL s args gtbl RX7) (hK : KS LM w s) (hR : Rp EM LM w σ H) (hdg : decode cc pc = .ok (.getfield 46, 3)) (kk : W p l e R s m args below meth c H locs cells slots Q (F0 m (pc + 3) ls (.ref (w.2.2 14) :: rest))) : W p l e R s m args below meth c H locs cells slots Q (F0 m pc ls (.ref (w.2.2 0) :: rest)) := r_get S hK hR (by decide) inX7 (eM_7 w _) rfl 13 (by decide) (gt_at 919 (by decide +kernel) (by decide +kernel)) rfl hdg kk
theorem g7_49 {p : Program} {l : Launch} {e : Env} {R : Room} {s : State} {m : MethodId} {args : Array Value} {below : List Frame} {meth : Method} {c : Code} {H : Heap} {locs : List Loc} {cells slots : Nat} {Q : State → Prop} {cc : ByteArray} {pc nL : Nat} {ls : Array Slot} {rest : List Value} {w : WV} {σ : Mem} (S : CallFix p m c cc nL s args gtbl RX7) (hK : KS LM w s) (hR : Rp EM LM w σ H) (hdg : decode cc pc = .ok (.getfield 49, 3)) (kk : W p l e R s m args below meth c H locs cells slots Q (F0 m (pc + 3) ls (.ref (w.2.2 15) :: rest))) : W p l e R s m args below meth c H locs cells slots Q (F0 m pc ls (.ref (w.2.2 0) :: rest)) := r_get S hK hR (by decide) inX7 (eM_7 w _) rfl 14 (by decide) (gt_at 920 (by decide +kernel) (by decide +kernel)) rfl hdg kk
theorem g7_52 {p : Program} {l : Launch} {e : Env} {R : Room} {s : State} {m : MethodId} {args : Array Value} {below : List Frame} {meth : Method} {c : Code} {H : Heap} {locs : List Loc} {cells slots : Nat} {Q : State → Prop} {cc : ByteArray} {pc nL : Nat} {ls : Array Slot} {rest : List Value} {w : WV} {σ : Mem} (S : CallFix p m c cc nL s args gtbl RX7) (hK : KS LM w s) (hR : Rp EM LM w σ H) (hdg : decode cc pc = .ok (.getfield 52, 3)) (kk : W p l e R s m args below meth c H locs cells slots Q (F0 m (pc + 3) ls (.ref (w.2.2 16) :: rest))) : W p l e R s m args below meth c H locs cells slots Q (F0 m pc ls (.ref (w.2.2 0) :: rest)) := r_get S hK hR (by decide) inX7 (eM_7 w _) rfl 15 (by decide) (gt_at 921 (by decide +kernel) (by decide +kernel)) rfl hdg kk
theorem g7_55 {p : Program} {l : Launch} {e : Env} {R : Room} {s : State} {m : MethodId} {args : Array Value} {below : List Frame} {meth : Method} {c : Code} {H : Heap} {locs : List Loc} {cells slots : Nat} {Q : State → Prop} {cc : ByteArray} {pc nL : Nat} {ls : Array Slot} {rest : List Value} {w : WV} {σ : Mem} (S : CallFix p m c cc nL s args gtbl RX7) (hK : KS LM w s) (hR : Rp EM LM w σ H) (hdg : decode cc pc = .ok (.getfield 55, 3)) (kk : W p l e R s m args below meth c H locs cells slots Q (F0 m (pc + 3) ls (.ref (w.2.2 17) :: rest))) : W p l e R s m args below meth c H locs cells slots Q (F0 m pc ls (.ref (w.2.2 0) :: rest)) := r_get S hK hR (by decide) inX7 (eM_7 w _) rfl 16 (by decide) (gt_at 922 (by decide +kernel) (by decide +kernel)) rfl hdg kk
theorem g7_58 {p : Program} {l : Launch} {e : Env} {R : Room} {s : State} {m : MethodId} {args : Array Value} {below : List Frame} {meth : Method} {c : Code} {H : Heap} {locs : List Loc} {cells slots : Nat} {Q : State → Prop} {cc : ByteArray} {pc nL : Nat} {ls : Array Slot} {rest : List Value} {w : WV} {σ : Mem} (S : CallFix p m c cc nL s args gtbl RX7) (hK : KS LM w s) (hR : Rp EM LM w σ H) (hdg : decode cc pc = .ok (.getfield 58, 3)) (kk : W p l e R s m args below meth c H locs cells slots Q (F0 m (pc + 3) ls (.ref (w.2.2 18) :: rest))) : W p l e R s m args below meth c H locs cells slots Q (F0 m pc ls (.ref (w.2.2 0) :: rest)) := r_get S hK hR (by decide) inX7 (eM_7 w _) rfl 17 (by decide) (gt_at 923 (by decide +kernel) (by decide +kernel)) rfl hdg kk
theorem g7_61 {p : Program} {l : Launch} {e : Env} {R : Room} {s : State} {m : MethodId} {args : Array Value} {below : List Frame} {meth : Method} {c : Code} {H : Heap} {locs : List Loc} {cells slots : Nat} {Q : State → Prop} {cc : ByteArray} {pc nL : Nat} {ls : Array Slot} {rest : List Value} {w : WV} {σ : Mem} (S : CallFix p m c cc nL s args gtbl RX7) (hK : KS LM w s) (hR : Rp EM LM w σ H) (hdg : decode cc pc = .ok (.getfield 61, 3)) (kk : W p l e R s m args below meth c H locs cells slots Q (F0 m (pc + 3) ls (.ref (w.2.2 20) :: rest))) : W p l e R s m args below meth c H locs cells slots Q (F0 m pc ls (.ref (w.2.2 0) :: rest)) := r_get S hK hR (by decide) inX7 (eM_7 w _) rfl 19 (by decide) (gt_at 925 (by decide +kernel) (by decide +kernel)) rfl hdg kk
theorem g7_64 {p : Program} {l : Launch} {e : Env} {R : Room} {s : State} {m : MethodId} {args : Array Value} {below : List Frame} {meth : Method} {c : Code} {H : Heap} {locs : List Loc} {cells slots : Nat} {Q : State → Prop} {cc : ByteArray} {pc nL : Nat} {ls : Array Slot} {rest : List Value} {w : WV} {σ : Mem} (S : CallFix p m c cc nL s args gtbl RX7) (hK : KS LM w s) (hR : Rp EM LM w σ H) (hdg : decode cc pc = .ok (.getfield 64, 3)) (kk : W p l e R s m args below meth c H locs cells slots Q (F0 m (pc + 3) ls (.ref (w.2.2 23) :: rest))) : W p l e R s m args below meth c H locs cells slots Q (F0 m pc ls (.ref (w.2.2 0) :: rest)) := r_get S hK hR (by decide) inX7 (eM_7 w _) rfl 22 (by decide) (gt_at 928 (by decide +kernel) (by decide +kernel)) rfl hdg kk
theorem g7_67 {p : Program} {l : Launch} {e : Env} {R : Room} {s : State} {m : MethodId} {args : Array Value} {below : List Frame} {meth : Method} {c : Code} {H : Heap} {locs : List Loc} {cells slots : Nat} {Q : State → Prop} {cc : ByteArray} {pc nL : Nat} {ls : Array Slot} {rest : List Value} {w : WV} {σ : Mem} (S : CallFix p m c cc nL s args gtbl RX7) (hK : KS LM w s) (hR : Rp EM LM w σ H) (hdg : decode cc pc = .ok (.getfield 67, 3)) (kk : W p l e R s m args below meth c H locs cells slots Q (F0 m (pc + 3) ls (.ref (w.2.2 24) :: rest))) : W p l e R s m args below meth c H locs cells slots Q (F0 m pc ls (.ref (w.2.2 0) :: rest)) := r_get S hK hR (by decide) inX7 (eM_7 w _) rfl 23 (by decide) (gt_at 929 (by decide +kernel) (by decide +kernel)) rfl hdg kk
theorem g7_70 {p : Program} {l : Launch} {e : Env} {R : Room} {s : State} {m : MethodId} {args : Array Value} {below : List Frame} {meth : Method} {c : Code} {H : Heap} {locs : List Loc} {cells slots : Nat} {Q : State → Prop} {cc : ByteArray} {pc nL : Nat} {ls : Array Slot} {rest : List Value} {w : WV} {σ : Mem} (S : CallFix p m c cc nL s args gtbl RX7) (hK : KS LM w s) (hR : Rp EM LM w σ H) (hdg : decode cc pc = .ok (.getfield 70, 3)) (kk : W p l e R s m args below meth c H locs cells slots Q (F0 m (pc + 3) ls (.ref (w.2.2 26) :: rest))) : W p l e R s m args below meth c H locs cells slots Q (F0 m pc ls (.ref (w.2.2 0) :: rest)) := r_get S hK hR (by decide) inX7 (eM_7 w _) rfl 25 (by decide) (gt_at 931 (by decide +kernel) (by decide +kernel)) rfl hdg kk
theorem g7_73 {p : Program} {l : Launch} {e : Env} {R : Room} {s : State} {m : MethodId} {args : Array Value} {below : List Frame} {meth : Method} {c : Code} {H : Heap} {locs : List Loc} {cells slots : Nat} {Q : State → Prop} {cc : ByteArray} {pc nL : Nat} {ls : Array Slot} {rest : List Value} {w : WV} {σ : Mem} (S : CallFix p m c cc nL s args gtbl RX7) (hK : KS LM w s) (hR : Rp EM LM w σ H) (hdg : decode cc pc = .ok (.getfield 73, 3)) (kk : W p l e R s m args below meth c H locs cells slots Q (F0 m (pc + 3) ls (.ref (w.2.2 27) :: rest))) : W p l e R s m args below meth c H locs cells slots Q (F0 m pc ls (.ref (w.2.2 0) :: rest)) := r_get S hK hR (by decide) inX7 (eM_7 w _) rfl 26 (by decide) (gt_at 932 (by decide +kernel) (by decide +kernel)) rfl hdg kk
theorem g7_76 {p : Program} {l : Launch} {e : Env} {R : Room} {s : State} {m : MethodId} {args : Array Value} {below : List Frame} {meth : Method} {c : Code} {H : Heap} {locs : List Loc} {cells slots : Nat} {Q : State → Prop} {cc : ByteArray} {pc nL : Nat} {ls : Array Slot} {rest : List Value} {w : WV} {σ : Mem} (S : CallFix p m c cc nL s args gtbl RX7) (hK : KS LM w s) (hR : Rp EM LM w σ H) (hdg : decode cc pc = .ok (.getfield 76, 3)) (kk : W p l e R s m args below meth c H locs cells slots Q (F0 m (pc + 3) ls (.ref (w.2.2 28) :: rest))) : W p l e R s m args below meth c H locs cells slots Q (F0 m pc ls (.ref (w.2.2 0) :: rest)) := r_get S hK hR (by decide) inX7 (eM_7 w _) rfl 27 (by decide) (gt_at 933 (by decide +kernel) (by decide +kernel)) rfl hdg kk
theorem g7_79 {p : Program} {l : Launch} {e : Env} {R : Room} {s : State} {m : MethodId} {args : Array Value} {below : List Frame} {meth : Method} {c : Code} {H : Heap} {locs : List Loc} {cells slots : Nat} {Q : State → Prop} {cc : ByteArray} {pc nL : Nat} {ls : Array Slot} {rest : List Value} {w : WV} {σ : Mem} (S : CallFix p m c cc nL s args gtbl RX7) (hK : KS LM w s) (hR : Rp EM LM w σ H) (hdg : decode cc pc = .ok (.getfield 79, 3)) (kk : W p l e R s m args below meth c H locs cells slots Q (F0 m (pc + 3) ls (.ref (w.2.2 29) :: rest))) : W p l e R s m args below meth c H locs cells slots Q (F0 m pc ls (.ref (w.2.2 0) :: rest)) := r_get S hK hR (by decide) inX7 (eM_7 w _) rfl 28 (by decide) (gt_at 934 (by decide +kernel) (by decide +kernel)) rfl hdg kk
theorem g7_82 {p : Program} {l : Launch} {e : Env} {R : Room} {s : State} {m : MethodId} {args : Array Value} {below : List Frame} {meth : Method} {c : Code} {H : Heap} {locs : List Loc} {cells slots : Nat} {Q : State → Prop} {cc : ByteArray} {pc nL : Nat} {ls : Array Slot} {rest : List Value} {w : WV} {σ : Mem} (S : CallFix p m c cc nL s args gtbl RX7) (hK : KS LM w s) (hR : Rp EM LM w σ H) (hdg : decode cc pc = .ok (.getfield 82, 3)) (kk : W p l e R s m args below meth c H locs cells slots Q (F0 m (pc + 3) ls (.ref (w.2.2 30) :: rest))) : W p l e R s m args below meth c H locs cells slots Q (F0 m pc ls (.ref (w.2.2 0) :: rest)) := r_get S hK hR (by decide) inX7 (eM_7 w _) rfl 29 (by decide) (gt_at 935 (by decide +kernel) (by decide +kernel)) rfl hdg kk
theorem g7_85 {p : Program} {l : Launch} {e : Env} {R : Room} {s : State} {m : MethodId} {args : Array Value} {below : List Frame} {meth : Method} {c : Code} {H : Heap} {locs : List Loc} {cells slots : Nat} {Q : State → Prop} {cc : ByteArray} {pc nL : Nat} {ls : Array Slot} {rest : List Value} {w : WV} {σ : Mem} (S : CallFix p m c cc nL s args gtbl RX7) (hK : KS LM w s) (hR : Rp EM LM w σ H) (hdg : decode cc pc = .ok (.getfield 85, 3)) (kk : W p l e R s m args below meth c H locs cells slots Q (F0 m (pc + 3) ls (.ref (w.2.2 31) :: rest))) : W p l e R s m args below meth c H locs cells slots Q (F0 m pc ls (.ref (w.2.2 0) :: rest)) := r_get S hK hR (by decide) inX7 (eM_7 w _) rfl 30 (by decide) (gt_at 936 (by decide +kernel) (by decide +kernel)) rfl hdg kk
theorem g7_88 {p : Program} {l : Launch} {e : Env} {R : Room} {s : State} {m : MethodId} {args : Array Value} {below : List Frame} {meth : Method} {c : Code} {H : Heap} {locs : List Loc} {cells slots : Nat} {Q : State → Prop} {cc : ByteArray} {pc nL : Nat} {ls : Array Slot} {rest : List Value} {w : WV} {σ : Mem} (S : CallFix p m c cc nL s args gtbl RX7) (hK : KS LM w s) (hR : Rp EM LM w σ H) (hdg : decode cc pc = .ok (.getfield 88, 3)) (kk : W p l e R s m args below meth c H locs cells slots Q (F0 m (pc + 3) ls (.ref (w.2.2 32) :: rest))) : W p l e R s m args below meth c H locs cells slots Q (F0 m pc ls (.ref (w.2.2 0) :: rest)) := r_get S hK hR (by decide) inX7 (eM_7 w _) rfl 31 (by decide) (gt_at 937 (by decide +kernel) (by decide +kernel)) rfl hdg kk
theorem g7_92 {p : Program} {l : Launch} {e : Env} {R : Room} {s : State} {m : MethodId} {args : Array Value} {below : List Frame} {meth : Method} {c : Code} {H : Heap} {locs : List Loc} {cells slots : Nat} {Q : State → Prop} {cc : ByteArray} {pc nL : Nat} {ls : Array Slot} {rest : List Value} {w : WV} {σ : Mem} (S : CallFix p m c cc nL s args gtbl RX7) (hK : KS LM w s) (hR : Rp EM LM w σ H) (hdg : decode cc pc = .ok (.getfield 92, 3)) (kk : W p l e R s m args below meth c H locs cells slots Q (F0 m (pc + 3) ls (.ref (w.2.2 38) :: rest))) : W p l e R s m args below meth c H locs cells slots Q (F0 m pc ls (.ref (w.2.2 0) :: rest)) := r_get S hK hR (by decide) inX7 (eM_7 w _) rfl 37 (by decide) (gt_at 943 (by decide +kernel) (by decide +kernel)) rfl hdg kk
theorem g7_117 {p : Program} {l : Launch} {e : Env} {R : Room} {s : State} {m : MethodId} {args : Array Value} {below : List Frame} {meth : Method} {c : Code} {H : Heap} {locs : List Loc} {cells slots : Nat} {Q : State → Prop} {cc : ByteArray} {pc nL : Nat} {ls : Array Slot} {rest : List Value} {w : WV} {σ : Mem} (S : CallFix p m c cc nL s args gtbl RX7) (hK : KS LM w s) (hR : Rp EM LM w σ H) (hdg : decode cc pc = .ok (.getfield 117, 3)) (kk : W p l e R s m args below meth c H locs cells slots Q (F0 m (pc + 3) ls (.int (σ 0 0) :: rest))) : W p l e R s m args below meth c H locs cells slots Q (F0 m pc ls (.ref (w.2.2 0) :: rest)) := r_get S hK hR (by decide) inX7 (eM_7 w _) rfl 0 (by decide) (gt_at 906 (by decide +kernel) (by decide +kernel)) rfl hdg kk
theorem u7_117 {p : Program} {l : Launch} {e : Env} {R : Room} {s : State} {m : MethodId} {args : Array Value} {below : List Frame} {meth : Method} {c : Code} {H : Heap} {locs : List Loc} {cells slots : Nat} {Q : State → Prop} {cc : ByteArray} {pc nL : Nat} {ls : Array Slot} {rest : List Value} {w : WV} {σ σ' : Mem} (S : CallFix p m c cc nL s args gtbl RX7) (hK : KS LM w s) (hR : Rp EM LM w σ H) (hS : va_S (AW LM w) s.heap H locs) {x : Int32} (hm : σ' = mu σ 0 0 x) (hdg : decode cc pc = .ok (.putfield 117, 3)) (kk : ∀ (H1 : Heap) (locs1 : List Loc), Rp EM LM w σ' H1 → va_S (AW LM w) s.heap H1 locs1 → W p l e R s m args below meth c H1 locs1 cells slots Q (F0 m (pc + 3) ls rest)) : W p l e R s m args below meth c H locs cells slots Q (F0 m pc ls (.int x :: .ref (w.2.2 0) :: rest)) := by
  subst hm
  exact r_put S hK hR hS (by decide) inX7 tyX7_ok nmX7 (eM_7 w _) rfl 0 (by decide) (gt_at 906 (by decide +kernel) (by decide +kernel)) rfl rfl rfl (Nat.le_of_ble_eq_true rfl) (eM_7 w _) hdg kk
theorem g7_121 {p : Program} {l : Launch} {e : Env} {R : Room} {s : State} {m : MethodId} {args : Array Value} {below : List Frame} {meth : Method} {c : Code} {H : Heap} {locs : List Loc} {cells slots : Nat} {Q : State → Prop} {cc : ByteArray} {pc nL : Nat} {ls : Array Slot} {rest : List Value} {w : WV} {σ : Mem} (S : CallFix p m c cc nL s args gtbl RX7) (hK : KS LM w s) (hR : Rp EM LM w σ H) (hdg : decode cc pc = .ok (.getfield 121, 3)) (kk : W p l e R s m args below meth c H locs cells slots Q (F0 m (pc + 3) ls (.int (σ 0 24) :: rest))) : W p l e R s m args below meth c H locs cells slots Q (F0 m pc ls (.ref (w.2.2 0) :: rest)) := r_get S hK hR (by decide) inX7 (eM_7 w _) rfl 24 (by decide) (gt_at 930 (by decide +kernel) (by decide +kernel)) rfl hdg kk
theorem u7_121 {p : Program} {l : Launch} {e : Env} {R : Room} {s : State} {m : MethodId} {args : Array Value} {below : List Frame} {meth : Method} {c : Code} {H : Heap} {locs : List Loc} {cells slots : Nat} {Q : State → Prop} {cc : ByteArray} {pc nL : Nat} {ls : Array Slot} {rest : List Value} {w : WV} {σ σ' : Mem} (S : CallFix p m c cc nL s args gtbl RX7) (hK : KS LM w s) (hR : Rp EM LM w σ H) (hS : va_S (AW LM w) s.heap H locs) {x : Int32} (hm : σ' = mu σ 0 24 x) (hdg : decode cc pc = .ok (.putfield 121, 3)) (kk : ∀ (H1 : Heap) (locs1 : List Loc), Rp EM LM w σ' H1 → va_S (AW LM w) s.heap H1 locs1 → W p l e R s m args below meth c H1 locs1 cells slots Q (F0 m (pc + 3) ls rest)) : W p l e R s m args below meth c H locs cells slots Q (F0 m pc ls (.int x :: .ref (w.2.2 0) :: rest)) := by
  subst hm
  exact r_put S hK hR hS (by decide) inX7 tyX7_ok nmX7 (eM_7 w _) rfl 24 (by decide) (gt_at 930 (by decide +kernel) (by decide +kernel)) rfl rfl rfl (Nat.le_of_ble_eq_true rfl) (eM_7 w _) hdg kk
theorem g7_159 {p : Program} {l : Launch} {e : Env} {R : Room} {s : State} {m : MethodId} {args : Array Value} {below : List Frame} {meth : Method} {c : Code} {H : Heap} {locs : List Loc} {cells slots : Nat} {Q : State → Prop} {cc : ByteArray} {pc nL : Nat} {ls : Array Slot} {rest : List Value} {w : WV} {σ : Mem} (S : CallFix p m c cc nL s args gtbl RX7) (hK : KS LM w s) (hR : Rp EM LM w σ H) (hdg : decode cc pc = .ok (.getfield 159, 3)) (kk : W p l e R s m args below meth c H locs cells slots Q (F0 m (pc + 3) ls (.int (σ 0 18) :: rest))) : W p l e R s m args below meth c H locs cells slots Q (F0 m pc ls (.ref (w.2.2 0) :: rest)) := r_get S hK hR (by decide) inX7 (eM_7 w _) rfl 18 (by decide) (gt_at 924 (by decide +kernel) (by decide +kernel)) rfl hdg kk
theorem u7_159 {p : Program} {l : Launch} {e : Env} {R : Room} {s : State} {m : MethodId} {args : Array Value} {below : List Frame} {meth : Method} {c : Code} {H : Heap} {locs : List Loc} {cells slots : Nat} {Q : State → Prop} {cc : ByteArray} {pc nL : Nat} {ls : Array Slot} {rest : List Value} {w : WV} {σ σ' : Mem} (S : CallFix p m c cc nL s args gtbl RX7) (hK : KS LM w s) (hR : Rp EM LM w σ H) (hS : va_S (AW LM w) s.heap H locs) {x : Int32} (hm : σ' = mu σ 0 18 x) (hdg : decode cc pc = .ok (.putfield 159, 3)) (kk : ∀ (H1 : Heap) (locs1 : List Loc), Rp EM LM w σ' H1 → va_S (AW LM w) s.heap H1 locs1 → W p l e R s m args below meth c H1 locs1 cells slots Q (F0 m (pc + 3) ls rest)) : W p l e R s m args below meth c H locs cells slots Q (F0 m pc ls (.int x :: .ref (w.2.2 0) :: rest)) := by
  subst hm
  exact r_put S hK hR hS (by decide) inX7 tyX7_ok nmX7 (eM_7 w _) rfl 18 (by decide) (gt_at 924 (by decide +kernel) (by decide +kernel)) rfl rfl rfl (Nat.le_of_ble_eq_true rfl) (eM_7 w _) hdg kk
theorem g7_162 {p : Program} {l : Launch} {e : Env} {R : Room} {s : State} {m : MethodId} {args : Array Value} {below : List Frame} {meth : Method} {c : Code} {H : Heap} {locs : List Loc} {cells slots : Nat} {Q : State → Prop} {cc : ByteArray} {pc nL : Nat} {ls : Array Slot} {rest : List Value} {w : WV} {σ : Mem} (S : CallFix p m c cc nL s args gtbl RX7) (hK : KS LM w s) (hR : Rp EM LM w σ H) (hdg : decode cc pc = .ok (.getfield 162, 3)) (kk : W p l e R s m args below meth c H locs cells slots Q (F0 m (pc + 3) ls (.int (σ 0 20) :: rest))) : W p l e R s m args below meth c H locs cells slots Q (F0 m pc ls (.ref (w.2.2 0) :: rest)) := r_get S hK hR (by decide) inX7 (eM_7 w _) rfl 20 (by decide) (gt_at 926 (by decide +kernel) (by decide +kernel)) rfl hdg kk
theorem u7_162 {p : Program} {l : Launch} {e : Env} {R : Room} {s : State} {m : MethodId} {args : Array Value} {below : List Frame} {meth : Method} {c : Code} {H : Heap} {locs : List Loc} {cells slots : Nat} {Q : State → Prop} {cc : ByteArray} {pc nL : Nat} {ls : Array Slot} {rest : List Value} {w : WV} {σ σ' : Mem} (S : CallFix p m c cc nL s args gtbl RX7) (hK : KS LM w s) (hR : Rp EM LM w σ H) (hS : va_S (AW LM w) s.heap H locs) {x : Int32} (hm : σ' = mu σ 0 20 x) (hdg : decode cc pc = .ok (.putfield 162, 3)) (kk : ∀ (H1 : Heap) (locs1 : List Loc), Rp EM LM w σ' H1 → va_S (AW LM w) s.heap H1 locs1 → W p l e R s m args below meth c H1 locs1 cells slots Q (F0 m (pc + 3) ls rest)) : W p l e R s m args below meth c H locs cells slots Q (F0 m pc ls (.int x :: .ref (w.2.2 0) :: rest)) := by
  subst hm
  exact r_put S hK hR hS (by decide) inX7 tyX7_ok nmX7 (eM_7 w _) rfl 20 (by decide) (gt_at 926 (by decide +kernel) (by decide +kernel)) rfl rfl rfl (Nat.le_of_ble_eq_true rfl) (eM_7 w _) hdg kk
theorem g7_165 {p : Program} {l : Launch} {e : Env} {R : Room} {s : State} {m : MethodId} {args : Array Value} {below : List Frame} {meth : Method} {c : Code} {H : Heap} {locs : List Loc} {cells slots : Nat} {Q : State → Prop} {cc : ByteArray} {pc nL : Nat} {ls : Array Slot} {rest : List Value} {w : WV} {σ : Mem} (S : CallFix p m c cc nL s args gtbl RX7) (hK : KS LM w s) (hR : Rp EM LM w σ H) (hdg : decode cc pc = .ok (.getfield 165, 3)) (kk : W p l e R s m args below meth c H locs cells slots Q (F0 m (pc + 3) ls (.int (σ 0 21) :: rest))) : W p l e R s m args below meth c H locs cells slots Q (F0 m pc ls (.ref (w.2.2 0) :: rest)) := r_get S hK hR (by decide) inX7 (eM_7 w _) rfl 21 (by decide) (gt_at 927 (by decide +kernel) (by decide +kernel)) rfl hdg kk
theorem u7_165 {p : Program} {l : Launch} {e : Env} {R : Room} {s : State} {m : MethodId} {args : Array Value} {below : List Frame} {meth : Method} {c : Code} {H : Heap} {locs : List Loc} {cells slots : Nat} {Q : State → Prop} {cc : ByteArray} {pc nL : Nat} {ls : Array Slot} {rest : List Value} {w : WV} {σ σ' : Mem} (S : CallFix p m c cc nL s args gtbl RX7) (hK : KS LM w s) (hR : Rp EM LM w σ H) (hS : va_S (AW LM w) s.heap H locs) {x : Int32} (hm : σ' = mu σ 0 21 x) (hdg : decode cc pc = .ok (.putfield 165, 3)) (kk : ∀ (H1 : Heap) (locs1 : List Loc), Rp EM LM w σ' H1 → va_S (AW LM w) s.heap H1 locs1 → W p l e R s m args below meth c H1 locs1 cells slots Q (F0 m (pc + 3) ls rest)) : W p l e R s m args below meth c H locs cells slots Q (F0 m pc ls (.int x :: .ref (w.2.2 0) :: rest)) := by
  subst hm
  exact r_put S hK hR hS (by decide) inX7 tyX7_ok nmX7 (eM_7 w _) rfl 21 (by decide) (gt_at 927 (by decide +kernel) (by decide +kernel)) rfl rfl rfl (Nat.le_of_ble_eq_true rfl) (eM_7 w _) hdg kk
theorem g7_182 {p : Program} {l : Launch} {e : Env} {R : Room} {s : State} {m : MethodId} {args : Array Value} {below : List Frame} {meth : Method} {c : Code} {H : Heap} {locs : List Loc} {cells slots : Nat} {Q : State → Prop} {cc : ByteArray} {pc nL : Nat} {ls : Array Slot} {rest : List Value} {w : WV} {σ : Mem} (S : CallFix p m c cc nL s args gtbl RX7) (hK : KS LM w s) (hR : Rp EM LM w σ H) (hdg : decode cc pc = .ok (.getfield 182, 3)) (kk : W p l e R s m args below meth c H locs cells slots Q (F0 m (pc + 3) ls (.int (σ 0 32) :: rest))) : W p l e R s m args below meth c H locs cells slots Q (F0 m pc ls (.ref (w.2.2 0) :: rest)) := r_get S hK hR (by decide) inX7 (eM_7 w _) rfl 32 (by decide) (gt_at 938 (by decide +kernel) (by decide +kernel)) rfl hdg kk
theorem u7_182 {p : Program} {l : Launch} {e : Env} {R : Room} {s : State} {m : MethodId} {args : Array Value} {below : List Frame} {meth : Method} {c : Code} {H : Heap} {locs : List Loc} {cells slots : Nat} {Q : State → Prop} {cc : ByteArray} {pc nL : Nat} {ls : Array Slot} {rest : List Value} {w : WV} {σ σ' : Mem} (S : CallFix p m c cc nL s args gtbl RX7) (hK : KS LM w s) (hR : Rp EM LM w σ H) (hS : va_S (AW LM w) s.heap H locs) {x : Int32} (hm : σ' = mu σ 0 32 x) (hdg : decode cc pc = .ok (.putfield 182, 3)) (kk : ∀ (H1 : Heap) (locs1 : List Loc), Rp EM LM w σ' H1 → va_S (AW LM w) s.heap H1 locs1 → W p l e R s m args below meth c H1 locs1 cells slots Q (F0 m (pc + 3) ls rest)) : W p l e R s m args below meth c H locs cells slots Q (F0 m pc ls (.int x :: .ref (w.2.2 0) :: rest)) := by
  subst hm
  exact r_put S hK hR hS (by decide) inX7 tyX7_ok nmX7 (eM_7 w _) rfl 32 (by decide) (gt_at 938 (by decide +kernel) (by decide +kernel)) rfl rfl rfl (Nat.le_of_ble_eq_true rfl) (eM_7 w _) hdg kk
theorem g7_185 {p : Program} {l : Launch} {e : Env} {R : Room} {s : State} {m : MethodId} {args : Array Value} {below : List Frame} {meth : Method} {c : Code} {H : Heap} {locs : List Loc} {cells slots : Nat} {Q : State → Prop} {cc : ByteArray} {pc nL : Nat} {ls : Array Slot} {rest : List Value} {w : WV} {σ : Mem} (S : CallFix p m c cc nL s args gtbl RX7) (hK : KS LM w s) (hR : Rp EM LM w σ H) (hdg : decode cc pc = .ok (.getfield 185, 3)) (kk : W p l e R s m args below meth c H locs cells slots Q (F0 m (pc + 3) ls (.int (σ 0 33) :: rest))) : W p l e R s m args below meth c H locs cells slots Q (F0 m pc ls (.ref (w.2.2 0) :: rest)) := r_get S hK hR (by decide) inX7 (eM_7 w _) rfl 33 (by decide) (gt_at 939 (by decide +kernel) (by decide +kernel)) rfl hdg kk
theorem u7_185 {p : Program} {l : Launch} {e : Env} {R : Room} {s : State} {m : MethodId} {args : Array Value} {below : List Frame} {meth : Method} {c : Code} {H : Heap} {locs : List Loc} {cells slots : Nat} {Q : State → Prop} {cc : ByteArray} {pc nL : Nat} {ls : Array Slot} {rest : List Value} {w : WV} {σ σ' : Mem} (S : CallFix p m c cc nL s args gtbl RX7) (hK : KS LM w s) (hR : Rp EM LM w σ H) (hS : va_S (AW LM w) s.heap H locs) {x : Int32} (hm : σ' = mu σ 0 33 x) (hdg : decode cc pc = .ok (.putfield 185, 3)) (kk : ∀ (H1 : Heap) (locs1 : List Loc), Rp EM LM w σ' H1 → va_S (AW LM w) s.heap H1 locs1 → W p l e R s m args below meth c H1 locs1 cells slots Q (F0 m (pc + 3) ls rest)) : W p l e R s m args below meth c H locs cells slots Q (F0 m pc ls (.int x :: .ref (w.2.2 0) :: rest)) := by
  subst hm
  exact r_put S hK hR hS (by decide) inX7 tyX7_ok nmX7 (eM_7 w _) rfl 33 (by decide) (gt_at 939 (by decide +kernel) (by decide +kernel)) rfl rfl rfl (Nat.le_of_ble_eq_true rfl) (eM_7 w _) hdg kk
theorem g7_188 {p : Program} {l : Launch} {e : Env} {R : Room} {s : State} {m : MethodId} {args : Array Value} {below : List Frame} {meth : Method} {c : Code} {H : Heap} {locs : List Loc} {cells slots : Nat} {Q : State → Prop} {cc : ByteArray} {pc nL : Nat} {ls : Array Slot} {rest : List Value} {w : WV} {σ : Mem} (S : CallFix p m c cc nL s args gtbl RX7) (hK : KS LM w s) (hR : Rp EM LM w σ H) (hdg : decode cc pc = .ok (.getfield 188, 3)) (kk : W p l e R s m args below meth c H locs cells slots Q (F0 m (pc + 3) ls (.int (σ 0 35) :: rest))) : W p l e R s m args below meth c H locs cells slots Q (F0 m pc ls (.ref (w.2.2 0) :: rest)) := r_get S hK hR (by decide) inX7 (eM_7 w _) rfl 35 (by decide) (gt_at 941 (by decide +kernel) (by decide +kernel)) rfl hdg kk
theorem u7_188 {p : Program} {l : Launch} {e : Env} {R : Room} {s : State} {m : MethodId} {args : Array Value} {below : List Frame} {meth : Method} {c : Code} {H : Heap} {locs : List Loc} {cells slots : Nat} {Q : State → Prop} {cc : ByteArray} {pc nL : Nat} {ls : Array Slot} {rest : List Value} {w : WV} {σ σ' : Mem} (S : CallFix p m c cc nL s args gtbl RX7) (hK : KS LM w s) (hR : Rp EM LM w σ H) (hS : va_S (AW LM w) s.heap H locs) {x : Int32} (hb : x = 0 ∨ x = 1) (hm : σ' = mu σ 0 35 x) (hdg : decode cc pc = .ok (.putfield 188, 3)) (kk : ∀ (H1 : Heap) (locs1 : List Loc), Rp EM LM w σ' H1 → va_S (AW LM w) s.heap H1 locs1 → W p l e R s m args below meth c H1 locs1 cells slots Q (F0 m (pc + 3) ls rest)) : W p l e R s m args below meth c H locs cells slots Q (F0 m pc ls (.int x :: .ref (w.2.2 0) :: rest)) := by
  subst hm
  exact r_put S hK hR hS (by decide) inX7 tyX7_ok nmX7 (eM_7 w _) rfl 35 (by decide) (gt_at 941 (by decide +kernel) (by decide +kernel)) rfl (nb_n hb) (nb_f hb) (Nat.le_of_ble_eq_true rfl) (eM_7 w _) hdg kk
theorem g7_192 {p : Program} {l : Launch} {e : Env} {R : Room} {s : State} {m : MethodId} {args : Array Value} {below : List Frame} {meth : Method} {c : Code} {H : Heap} {locs : List Loc} {cells slots : Nat} {Q : State → Prop} {cc : ByteArray} {pc nL : Nat} {ls : Array Slot} {rest : List Value} {w : WV} {σ : Mem} (S : CallFix p m c cc nL s args gtbl RX7) (hK : KS LM w s) (hR : Rp EM LM w σ H) (hdg : decode cc pc = .ok (.getfield 192, 3)) (kk : W p l e R s m args below meth c H locs cells slots Q (F0 m (pc + 3) ls (.int (σ 0 36) :: rest))) : W p l e R s m args below meth c H locs cells slots Q (F0 m pc ls (.ref (w.2.2 0) :: rest)) := r_get S hK hR (by decide) inX7 (eM_7 w _) rfl 36 (by decide) (gt_at 942 (by decide +kernel) (by decide +kernel)) rfl hdg kk
theorem u7_192 {p : Program} {l : Launch} {e : Env} {R : Room} {s : State} {m : MethodId} {args : Array Value} {below : List Frame} {meth : Method} {c : Code} {H : Heap} {locs : List Loc} {cells slots : Nat} {Q : State → Prop} {cc : ByteArray} {pc nL : Nat} {ls : Array Slot} {rest : List Value} {w : WV} {σ σ' : Mem} (S : CallFix p m c cc nL s args gtbl RX7) (hK : KS LM w s) (hR : Rp EM LM w σ H) (hS : va_S (AW LM w) s.heap H locs) {x : Int32} (hm : σ' = mu σ 0 36 x) (hdg : decode cc pc = .ok (.putfield 192, 3)) (kk : ∀ (H1 : Heap) (locs1 : List Loc), Rp EM LM w σ' H1 → va_S (AW LM w) s.heap H1 locs1 → W p l e R s m args below meth c H1 locs1 cells slots Q (F0 m (pc + 3) ls rest)) : W p l e R s m args below meth c H locs cells slots Q (F0 m pc ls (.int x :: .ref (w.2.2 0) :: rest)) := by
  subst hm
  exact r_put S hK hR hS (by decide) inX7 tyX7_ok nmX7 (eM_7 w _) rfl 36 (by decide) (gt_at 942 (by decide +kernel) (by decide +kernel)) rfl rfl rfl (Nat.le_of_ble_eq_true rfl) (eM_7 w _) hdg kk
theorem g7_217 {p : Program} {l : Launch} {e : Env} {R : Room} {s : State} {m : MethodId} {args : Array Value} {below : List Frame} {meth : Method} {c : Code} {H : Heap} {locs : List Loc} {cells slots : Nat} {Q : State → Prop} {cc : ByteArray} {pc nL : Nat} {ls : Array Slot} {rest : List Value} {w : WV} {σ : Mem} (S : CallFix p m c cc nL s args gtbl RX7) (hK : KS LM w s) (hR : Rp EM LM w σ H) (hdg : decode cc pc = .ok (.getfield 217, 3)) (kk : W p l e R s m args below meth c H locs cells slots Q (F0 m (pc + 3) ls (.int (σ 0 34) :: rest))) : W p l e R s m args below meth c H locs cells slots Q (F0 m pc ls (.ref (w.2.2 0) :: rest)) := r_get S hK hR (by decide) inX7 (eM_7 w _) rfl 34 (by decide) (gt_at 940 (by decide +kernel) (by decide +kernel)) rfl hdg kk
theorem u7_217 {p : Program} {l : Launch} {e : Env} {R : Room} {s : State} {m : MethodId} {args : Array Value} {below : List Frame} {meth : Method} {c : Code} {H : Heap} {locs : List Loc} {cells slots : Nat} {Q : State → Prop} {cc : ByteArray} {pc nL : Nat} {ls : Array Slot} {rest : List Value} {w : WV} {σ σ' : Mem} (S : CallFix p m c cc nL s args gtbl RX7) (hK : KS LM w s) (hR : Rp EM LM w σ H) (hS : va_S (AW LM w) s.heap H locs) {x : Int32} (hb : x = 0 ∨ x = 1) (hm : σ' = mu σ 0 34 x) (hdg : decode cc pc = .ok (.putfield 217, 3)) (kk : ∀ (H1 : Heap) (locs1 : List Loc), Rp EM LM w σ' H1 → va_S (AW LM w) s.heap H1 locs1 → W p l e R s m args below meth c H1 locs1 cells slots Q (F0 m (pc + 3) ls rest)) : W p l e R s m args below meth c H locs cells slots Q (F0 m pc ls (.int x :: .ref (w.2.2 0) :: rest)) := by
  subst hm
  exact r_put S hK hR hS (by decide) inX7 tyX7_ok nmX7 (eM_7 w _) rfl 34 (by decide) (gt_at 940 (by decide +kernel) (by decide +kernel)) rfl (nb_n hb) (nb_f hb) (Nat.le_of_ble_eq_true rfl) (eM_7 w _) hdg kk
end
section
/-! FourTenGatesModel.noHour(I)V -/
abbrev rm7_noHour : Room := { frames := 0, cells := 0, slots := 0, locals := 0 }
theorem d7_noHour_0 : decode cX7_noHour 0 = .ok (.aload_n 0, 1) := by decide +kernel
theorem d7_noHour_1 : decode cX7_noHour 1 = .ok (.getfield 13, 3) := by decide +kernel
theorem d7_noHour_4 : decode cX7_noHour 4 = .ok (.iload_n 1, 1) := by decide +kernel
theorem d7_noHour_5 : decode cX7_noHour 5 = .ok (.iconst 0, 1) := by decide +kernel
theorem d7_noHour_6 : decode cX7_noHour 6 = .ok (.iastore, 1) := by decide +kernel
theorem d7_noHour_7 : decode cX7_noHour 7 = .ok (.aload_n 0, 1) := by decide +kernel
theorem d7_noHour_8 : decode cX7_noHour 8 = .ok (.getfield 22, 3) := by decide +kernel
theorem d7_noHour_11 : decode cX7_noHour 11 = .ok (.iload_n 1, 1) := by decide +kernel
theorem d7_noHour_12 : decode cX7_noHour 12 = .ok (.iconst 0, 1) := by decide +kernel
theorem d7_noHour_13 : decode cX7_noHour 13 = .ok (.iastore, 1) := by decide +kernel
theorem d7_noHour_14 : decode cX7_noHour 14 = .ok (.aload_n 0, 1) := by decide +kernel
theorem d7_noHour_15 : decode cX7_noHour 15 = .ok (.getfield 37, 3) := by decide +kernel
theorem d7_noHour_18 : decode cX7_noHour 18 = .ok (.iload_n 1, 1) := by decide +kernel
theorem d7_noHour_19 : decode cX7_noHour 19 = .ok (.iconst 0, 1) := by decide +kernel
theorem d7_noHour_20 : decode cX7_noHour 20 = .ok (.iastore, 1) := by decide +kernel
theorem d7_noHour_21 : decode cX7_noHour 21 = .ok (.aload_n 0, 1) := by decide +kernel
theorem d7_noHour_22 : decode cX7_noHour 22 = .ok (.getfield 46, 3) := by decide +kernel
theorem d7_noHour_25 : decode cX7_noHour 25 = .ok (.iload_n 1, 1) := by decide +kernel
theorem d7_noHour_26 : decode cX7_noHour 26 = .ok (.iconst 0, 1) := by decide +kernel
theorem d7_noHour_27 : decode cX7_noHour 27 = .ok (.iastore, 1) := by decide +kernel
theorem d7_noHour_28 : decode cX7_noHour 28 = .ok (.aload_n 0, 1) := by decide +kernel
theorem d7_noHour_29 : decode cX7_noHour 29 = .ok (.getfield 31, 3) := by decide +kernel
theorem d7_noHour_32 : decode cX7_noHour 32 = .ok (.iconst 4, 1) := by decide +kernel
theorem d7_noHour_33 : decode cX7_noHour 33 = .ok (.iload_n 1, 1) := by decide +kernel
theorem d7_noHour_34 : decode cX7_noHour 34 = .ok (.imul, 1) := by decide +kernel
theorem d7_noHour_35 : decode cX7_noHour 35 = .ok (.iconst 4, 1) := by decide +kernel
theorem d7_noHour_36 : decode cX7_noHour 36 = .ok (.iastore, 1) := by decide +kernel
theorem d7_noHour_37 : decode cX7_noHour 37 = .ok (.aload_n 0, 1) := by decide +kernel
theorem d7_noHour_38 : decode cX7_noHour 38 = .ok (.getfield 31, 3) := by decide +kernel
theorem d7_noHour_41 : decode cX7_noHour 41 = .ok (.iconst 4, 1) := by decide +kernel
theorem d7_noHour_42 : decode cX7_noHour 42 = .ok (.iload_n 1, 1) := by decide +kernel
theorem d7_noHour_43 : decode cX7_noHour 43 = .ok (.imul, 1) := by decide +kernel
theorem d7_noHour_44 : decode cX7_noHour 44 = .ok (.iconst 1, 1) := by decide +kernel
theorem d7_noHour_45 : decode cX7_noHour 45 = .ok (.iadd, 1) := by decide +kernel
theorem d7_noHour_46 : decode cX7_noHour 46 = .ok (.bipush 20, 2) := by decide +kernel
theorem d7_noHour_48 : decode cX7_noHour 48 = .ok (.iastore, 1) := by decide +kernel
theorem d7_noHour_49 : decode cX7_noHour 49 = .ok (.aload_n 0, 1) := by decide +kernel
theorem d7_noHour_50 : decode cX7_noHour 50 = .ok (.getfield 31, 3) := by decide +kernel
theorem d7_noHour_53 : decode cX7_noHour 53 = .ok (.iconst 4, 1) := by decide +kernel
theorem d7_noHour_54 : decode cX7_noHour 54 = .ok (.iload_n 1, 1) := by decide +kernel
theorem d7_noHour_55 : decode cX7_noHour 55 = .ok (.imul, 1) := by decide +kernel
theorem d7_noHour_56 : decode cX7_noHour 56 = .ok (.iconst 2, 1) := by decide +kernel
theorem d7_noHour_57 : decode cX7_noHour 57 = .ok (.iadd, 1) := by decide +kernel
theorem d7_noHour_58 : decode cX7_noHour 58 = .ok (.bipush 60, 2) := by decide +kernel
theorem d7_noHour_60 : decode cX7_noHour 60 = .ok (.iastore, 1) := by decide +kernel
theorem d7_noHour_61 : decode cX7_noHour 61 = .ok (.aload_n 0, 1) := by decide +kernel
theorem d7_noHour_62 : decode cX7_noHour 62 = .ok (.getfield 31, 3) := by decide +kernel
theorem d7_noHour_65 : decode cX7_noHour 65 = .ok (.iconst 4, 1) := by decide +kernel
theorem d7_noHour_66 : decode cX7_noHour 66 = .ok (.iload_n 1, 1) := by decide +kernel
theorem d7_noHour_67 : decode cX7_noHour 67 = .ok (.imul, 1) := by decide +kernel
theorem d7_noHour_68 : decode cX7_noHour 68 = .ok (.iconst 3, 1) := by decide +kernel
theorem d7_noHour_69 : decode cX7_noHour 69 = .ok (.iadd, 1) := by decide +kernel
theorem d7_noHour_70 : decode cX7_noHour 70 = .ok (.bipush 30, 2) := by decide +kernel
theorem d7_noHour_72 : decode cX7_noHour 72 = .ok (.iastore, 1) := by decide +kernel
theorem d7_noHour_73 : decode cX7_noHour 73 = .ok (.iconst 0, 1) := by decide +kernel
theorem d7_noHour_74 : decode cX7_noHour 74 = .ok (.istore_n 2, 1) := by decide +kernel
theorem d7_noHour_75 : decode cX7_noHour 75 = .ok (.iload_n 2, 1) := by decide +kernel
theorem d7_noHour_76 : decode cX7_noHour 76 = .ok (.iconst 4, 1) := by decide +kernel
theorem d7_noHour_77 : decode cX7_noHour 77 = .ok (.if_icmp .ge 29, 3) := by decide +kernel
theorem d7_noHour_80 : decode cX7_noHour 80 = .ok (.aload_n 0, 1) := by decide +kernel
theorem d7_noHour_81 : decode cX7_noHour 81 = .ok (.getfield 34, 3) := by decide +kernel
theorem d7_noHour_84 : decode cX7_noHour 84 = .ok (.iconst 4, 1) := by decide +kernel
theorem d7_noHour_85 : decode cX7_noHour 85 = .ok (.iload_n 1, 1) := by decide +kernel
theorem d7_noHour_86 : decode cX7_noHour 86 = .ok (.imul, 1) := by decide +kernel
theorem d7_noHour_87 : decode cX7_noHour 87 = .ok (.iload_n 2, 1) := by decide +kernel
theorem d7_noHour_88 : decode cX7_noHour 88 = .ok (.iadd, 1) := by decide +kernel
theorem d7_noHour_89 : decode cX7_noHour 89 = .ok (.iload_n 2, 1) := by decide +kernel
theorem d7_noHour_90 : decode cX7_noHour 90 = .ok (.iconst 2, 1) := by decide +kernel
theorem d7_noHour_91 : decode cX7_noHour 91 = .ok (.if_icmp .ne 7, 3) := by decide +kernel
theorem d7_noHour_94 : decode cX7_noHour 94 = .ok (.iconst 5, 1) := by decide +kernel
theorem d7_noHour_95 : decode cX7_noHour 95 = .ok (.goto 4, 3) := by decide +kernel
theorem d7_noHour_98 : decode cX7_noHour 98 = .ok (.iconst 1, 1) := by decide +kernel
theorem d7_noHour_99 : decode cX7_noHour 99 = .ok (.iastore, 1) := by decide +kernel
theorem d7_noHour_100 : decode cX7_noHour 100 = .ok (.iinc 2 1, 3) := by decide +kernel
theorem d7_noHour_103 : decode cX7_noHour 103 = .ok (.goto (-28), 3) := by decide +kernel
theorem d7_noHour_106 : decode cX7_noHour 106 = .ok (.return_, 1) := by decide +kernel
def f7_noHour_b99 (k75 : Mem → Int32 → Int32 → Option Mem) (σ : Mem) (x1 : Int32) (x2 : Int32) (s1 : Int32) (s2 : Int32) : Option Mem := if ¬ (s1 < 0 ∨ 8 ≤ s1.toNatClampNeg) then (bm (mu σ 10 s1.toNatClampNeg s2) fun σ2 => k75 σ2 x1 (x2 + 1)) else none
set_option maxHeartbeats 4000000 in
set_option maxRecDepth 100000 in
theorem t7_noHour_b99 {p : Program} {l : Launch} {e : Env} {s : State} {m : MethodId} {args : Array Value} {below : List Frame} {meth : Method} {c : Code} {w : WV} {σ' : Mem} {k75 : Mem → Int32 → Int32 → Option Mem} (S : CallFix p m c cX7_noHour 3 s args gtbl RX7) (hr : meth.sig.returnType = none) (hlk : meth.locks = false) (hK : KS LM w s) (hk75 : ∀ (σ : Mem) (x1 : Int32) (x2 : Int32), k75 σ x1 x2 = some σ' → ∀ (H : Heap) (locs : List Loc), Rp EM LM w σ H → va_S (AW LM w) s.heap H locs → ∀ (ls : Array Slot), lv_has ls 3 [(0, .ref (w.2.2 0)), (1, .int x1), (2, .int x2)] → W p l e rm7_noHour s m args below meth c H locs 0 0 (MQ below (Qw EM LM w σ' none) args s 0 0 (AW LM w)) (F0 m 75 ls [])) : ∀ (σ : Mem) (x1 : Int32) (x2 : Int32) (s1 : Int32) (s2 : Int32), f7_noHour_b99 k75 σ x1 x2 s1 s2 = some σ' → ∀ (H : Heap) (locs : List Loc), Rp EM LM w σ H → va_S (AW LM w) s.heap H locs → ∀ (ls : Array Slot), lv_has ls 3 [(0, .ref (w.2.2 0)), (1, .int x1), (2, .int x2)] → W p l e rm7_noHour s m args below meth c H locs 0 0 (MQ below (Qw EM LM w σ' none) args s 0 0 (AW LM w)) (F0 m 99 ls [.int s2, .int s1, .ref (w.2.2 10)]) := by
  obtain ⟨hx, hb, hml, hown, hts⟩ := id S
  intro σ x1 x2 s1 s2 h0 H locs hR hS ls hl
  unfold f7_noHour_b99 at h0
  obtain ⟨hi1, h0⟩ := og_if h0
  obtain ⟨σ2, hm2, h0⟩ := og_m h0
  refine q_st S hK hR hS (by decide) (eM_109 w) hi1 rfl hm2 d7_noHour_99 (fun H locs hR hS => ?_)
  refine lv_iinc (v := x2 + 1) (lv' := [(2, .int (x2 + 1)), (0, .ref (w.2.2 0)), (1, .int x1)]) hx hb d7_noHour_100 hl (k := 2) rfl (ii1 _) (by decide) rfl (fun ls hl => ?_)
  refine lv_goto (tgt := 75) hx hb d7_noHour_103 (by decide) ?_
  exact hk75 σ2 x1 (x2 + 1) h0 _ _ hR hS _ (lv_sub hl [1, 2, 0] rfl)
def f7_noHour_b75 : Nat → Mem → Int32 → Int32 → Option Mem
  | 0, _, _, _ => none
  | n + 1, σ, x1, x2 => if 4 ≤ x2 then some σ else if x2 = 2 then f7_noHour_b99 (f7_noHour_b75 n) σ x1 x2 ((4 * x1) + x2) 5 else f7_noHour_b99 (f7_noHour_b75 n) σ x1 x2 ((4 * x1) + x2) 1
set_option maxHeartbeats 4000000 in
set_option maxRecDepth 100000 in
theorem t7_noHour_b75 {p : Program} {l : Launch} {e : Env} {s : State} {m : MethodId} {args : Array Value} {below : List Frame} {meth : Method} {c : Code} {w : WV} {σ' : Mem} (S : CallFix p m c cX7_noHour 3 s args gtbl RX7) (hr : meth.sig.returnType = none) (hlk : meth.locks = false) (hK : KS LM w s) : ∀ (n : Nat), ∀ (σ : Mem) (x1 : Int32) (x2 : Int32), f7_noHour_b75  n σ x1 x2 = some σ' → ∀ (H : Heap) (locs : List Loc), Rp EM LM w σ H → va_S (AW LM w) s.heap H locs → ∀ (ls : Array Slot), lv_has ls 3 [(0, .ref (w.2.2 0)), (1, .int x1), (2, .int x2)] → W p l e rm7_noHour s m args below meth c H locs 0 0 (MQ below (Qw EM LM w σ' none) args s 0 0 (AW LM w)) (F0 m 75 ls []) := by
  obtain ⟨hx, hb, hml, hown, hts⟩ := id S
  intro n
  induction n with
  | zero =>
    intro σ x1 x2 h0
    cases (show none = _ from h0)
  | succ n ih =>
    intro σ x1 x2 h0 H locs hR hS ls hl
    rw [f7_noHour_b75] at h0
    refine lv_iload_n hx hb d7_noHour_75 rfl (lv_at hl 2 rfl) ?_
    refine lv_iconst (v := 4) hx hb d7_noHour_76 (by decide) ?_
    refine lv_icmp_ge (tgt := 106) hx hb d7_noHour_77 (by decide) (fun hc1 => ?_) (fun hc1 => ?_)
    · have h0 := og_t hc1 h0
      exact q_vret S hr hlk hR hS h0 d7_noHour_106
    · have h0 := og_f hc1 h0
      refine lv_aload_n hx hb d7_noHour_80 rfl (lv_at hl 0 rfl) ?_
      refine g7_34 S hK hR d7_noHour_81 ?_
      refine lv_iconst (v := 4) hx hb d7_noHour_84 (by decide) ?_
      refine lv_iload_n hx hb d7_noHour_85 rfl (lv_at hl 1 rfl) ?_
      refine lv_imul hx hb d7_noHour_86 ?_
      refine lv_iload_n hx hb d7_noHour_87 rfl (lv_at hl 2 rfl) ?_
      refine lv_iadd hx hb d7_noHour_88 ?_
      refine lv_iload_n hx hb d7_noHour_89 rfl (lv_at hl 2 rfl) ?_
      refine lv_iconst (v := 2) hx hb d7_noHour_90 (by decide) ?_
      refine lv_icmp_ne (tgt := 98) hx hb d7_noHour_91 (by decide) (fun hc2 => ?_) (fun hc2 => ?_)
      · have h0 := og_f hc2 h0
        refine lv_iconst (v := 1) hx hb d7_noHour_98 (by decide) ?_
        exact t7_noHour_b99 S hr hlk hK ih σ x1 x2 ((4 * x1) + x2) 1 h0 _ _ hR hS _ (lv_sub hl [0, 1, 2] rfl)
      · have h0 := og_t hc2 h0
        refine lv_iconst (v := 5) hx hb d7_noHour_94 (by decide) ?_
        refine lv_goto (tgt := 99) hx hb d7_noHour_95 (by decide) ?_
        exact t7_noHour_b99 S hr hlk hK ih σ x1 x2 ((4 * x1) + x2) 5 h0 _ _ hR hS _ (lv_sub hl [0, 1, 2] rfl)
def f7_noHour (σ : Mem) (x1 : Int32) : Option Mem := if ¬ (x1 < 0 ∨ 2 ≤ x1.toNatClampNeg) then (bm (mu σ 3 x1.toNatClampNeg 0) fun σ2 => if ¬ (x1 < 0 ∨ 2 ≤ x1.toNatClampNeg) then (bm (mu σ2 6 x1.toNatClampNeg 0) fun σ4 => if ¬ (x1 < 0 ∨ 2 ≤ x1.toNatClampNeg) then (bm (mu σ4 11 x1.toNatClampNeg 0) fun σ6 => if ¬ (x1 < 0 ∨ 2 ≤ x1.toNatClampNeg) then (bm (mu σ6 14 x1.toNatClampNeg 0) fun σ8 => if ¬ (4 * x1 < 0 ∨ 8 ≤ (4 * x1).toNatClampNeg) then (bm (mu σ8 9 ((4 * x1).toNatClampNeg) 4) fun σ10 => if ¬ ((4 * x1) + 1 < 0 ∨ 8 ≤ ((4 * x1) + 1).toNatClampNeg) then (bm (mu σ10 9 (((4 * x1) + 1).toNatClampNeg) 20) fun σ12 => if ¬ ((4 * x1) + 2 < 0 ∨ 8 ≤ ((4 * x1) + 2).toNatClampNeg) then (bm (mu σ12 9 (((4 * x1) + 2).toNatClampNeg) 60) fun σ14 => if ¬ ((4 * x1) + 3 < 0 ∨ 8 ≤ ((4 * x1) + 3).toNatClampNeg) then (bm (mu σ14 9 (((4 * x1) + 3).toNatClampNeg) 30) fun σ16 => f7_noHour_b75 1000 σ16 x1 0) else none) else none) else none) else none) else none) else none) else none) else none
set_option maxHeartbeats 4000000 in
set_option maxRecDepth 100000 in
theorem c7_noHour (l : Launch) {w : WV} {σ : Mem} {x1 : Int32} {σ' : Mem} (h0 : f7_noHour σ x1 = some σ') : Met l yX7_noHour (wy yX7_noHour cX7_noHour 3 none) rm7_noHour (Pw EM LM w [.ref (w.2.2 0), .int x1] σ) (Qw EM LM w σ' none) 0 0 (AW LM w) := by
  refine mk_met (by decide) (Nat.le_of_ble_eq_true rfl) ?_
  intro p e s m below meth c S hr hlk hK hR ls hl
  obtain ⟨hx, hb, hml, hown, hts⟩ := id S
  have hl : lv_has ls 3 [(0, .ref (w.2.2 0)), (1, .int x1)] := hl
  have hS : va_S (AW LM w) s.heap s.heap [] := va_S.rf
  unfold f7_noHour at h0
  refine lv_aload_n hx hb d7_noHour_0 rfl (lv_at hl 0 rfl) ?_
  refine g7_13 S hK hR d7_noHour_1 ?_
  refine lv_iload_n hx hb d7_noHour_4 rfl (lv_at hl 1 rfl) ?_
  refine lv_iconst (v := 0) hx hb d7_noHour_5 (by decide) ?_
  obtain ⟨hi1, h0⟩ := og_if h0
  obtain ⟨σ2, hm2, h0⟩ := og_m h0
  refine q_st S hK hR hS (by decide) (eM_102 w) hi1 rfl hm2 d7_noHour_6 (fun H locs hR hS => ?_)
  refine lv_aload_n hx hb d7_noHour_7 rfl (lv_at hl 0 rfl) ?_
  refine g7_22 S hK hR d7_noHour_8 ?_
  refine lv_iload_n hx hb d7_noHour_11 rfl (lv_at hl 1 rfl) ?_
  refine lv_iconst (v := 0) hx hb d7_noHour_12 (by decide) ?_
  obtain ⟨hi3, h0⟩ := og_if h0
  obtain ⟨σ4, hm4, h0⟩ := og_m h0
  refine q_st S hK hR hS (by decide) (eM_105 w) hi3 rfl hm4 d7_noHour_13 (fun H locs hR hS => ?_)
  refine lv_aload_n hx hb d7_noHour_14 rfl (lv_at hl 0 rfl) ?_
  refine g7_37 S hK hR d7_noHour_15 ?_
  refine lv_iload_n hx hb d7_noHour_18 rfl (lv_at hl 1 rfl) ?_
  refine lv_iconst (v := 0) hx hb d7_noHour_19 (by decide) ?_
  obtain ⟨hi5, h0⟩ := og_if h0
  obtain ⟨σ6, hm6, h0⟩ := og_m h0
  refine q_st S hK hR hS (by decide) (eM_110 w) hi5 rfl hm6 d7_noHour_20 (fun H locs hR hS => ?_)
  refine lv_aload_n hx hb d7_noHour_21 rfl (lv_at hl 0 rfl) ?_
  refine g7_46 S hK hR d7_noHour_22 ?_
  refine lv_iload_n hx hb d7_noHour_25 rfl (lv_at hl 1 rfl) ?_
  refine lv_iconst (v := 0) hx hb d7_noHour_26 (by decide) ?_
  obtain ⟨hi7, h0⟩ := og_if h0
  obtain ⟨σ8, hm8, h0⟩ := og_m h0
  refine q_st S hK hR hS (by decide) (eM_113 w) hi7 rfl hm8 d7_noHour_27 (fun H locs hR hS => ?_)
  refine lv_aload_n hx hb d7_noHour_28 rfl (lv_at hl 0 rfl) ?_
  refine g7_31 S hK hR d7_noHour_29 ?_
  refine lv_iconst (v := 4) hx hb d7_noHour_32 (by decide) ?_
  refine lv_iload_n hx hb d7_noHour_33 rfl (lv_at hl 1 rfl) ?_
  refine lv_imul hx hb d7_noHour_34 ?_
  refine lv_iconst (v := 4) hx hb d7_noHour_35 (by decide) ?_
  obtain ⟨hi9, h0⟩ := og_if h0
  obtain ⟨σ10, hm10, h0⟩ := og_m h0
  refine q_st S hK hR hS (by decide) (eM_108 w) hi9 rfl hm10 d7_noHour_36 (fun H locs hR hS => ?_)
  refine lv_aload_n hx hb d7_noHour_37 rfl (lv_at hl 0 rfl) ?_
  refine g7_31 S hK hR d7_noHour_38 ?_
  refine lv_iconst (v := 4) hx hb d7_noHour_41 (by decide) ?_
  refine lv_iload_n hx hb d7_noHour_42 rfl (lv_at hl 1 rfl) ?_
  refine lv_imul hx hb d7_noHour_43 ?_
  refine lv_iconst (v := 1) hx hb d7_noHour_44 (by decide) ?_
  refine lv_iadd hx hb d7_noHour_45 ?_
  refine lv_bipush (v := 20) hx hb d7_noHour_46 (by decide) ?_
  obtain ⟨hi11, h0⟩ := og_if h0
  obtain ⟨σ12, hm12, h0⟩ := og_m h0
  refine q_st S hK hR hS (by decide) (eM_108 w) hi11 rfl hm12 d7_noHour_48 (fun H locs hR hS => ?_)
  refine lv_aload_n hx hb d7_noHour_49 rfl (lv_at hl 0 rfl) ?_
  refine g7_31 S hK hR d7_noHour_50 ?_
  refine lv_iconst (v := 4) hx hb d7_noHour_53 (by decide) ?_
  refine lv_iload_n hx hb d7_noHour_54 rfl (lv_at hl 1 rfl) ?_
  refine lv_imul hx hb d7_noHour_55 ?_
  refine lv_iconst (v := 2) hx hb d7_noHour_56 (by decide) ?_
  refine lv_iadd hx hb d7_noHour_57 ?_
  refine lv_bipush (v := 60) hx hb d7_noHour_58 (by decide) ?_
  obtain ⟨hi13, h0⟩ := og_if h0
  obtain ⟨σ14, hm14, h0⟩ := og_m h0
  refine q_st S hK hR hS (by decide) (eM_108 w) hi13 rfl hm14 d7_noHour_60 (fun H locs hR hS => ?_)
  refine lv_aload_n hx hb d7_noHour_61 rfl (lv_at hl 0 rfl) ?_
  refine g7_31 S hK hR d7_noHour_62 ?_
  refine lv_iconst (v := 4) hx hb d7_noHour_65 (by decide) ?_
  refine lv_iload_n hx hb d7_noHour_66 rfl (lv_at hl 1 rfl) ?_
  refine lv_imul hx hb d7_noHour_67 ?_
  refine lv_iconst (v := 3) hx hb d7_noHour_68 (by decide) ?_
  refine lv_iadd hx hb d7_noHour_69 ?_
  refine lv_bipush (v := 30) hx hb d7_noHour_70 (by decide) ?_
  obtain ⟨hi15, h0⟩ := og_if h0
  obtain ⟨σ16, hm16, h0⟩ := og_m h0
  refine q_st S hK hR hS (by decide) (eM_108 w) hi15 rfl hm16 d7_noHour_72 (fun H locs hR hS => ?_)
  refine lv_iconst (v := 0) hx hb d7_noHour_73 (by decide) ?_
  refine lv_istore_n (lv' := [(2, .int 0), (0, .ref (w.2.2 0)), (1, .int x1)]) hx hb d7_noHour_74 rfl hl (by decide) rfl (fun ls hl => ?_)
  exact t7_noHour_b75 S hr hlk hK 1000 σ16 x1 0 h0 _ _ hR hS _ (lv_sub hl [1, 2, 0] rfl)
set_option maxHeartbeats 4000000 in
set_option maxRecDepth 100000 in
theorem k7_95 {p : Program} {l : Launch} {e : Env} {R : Room} {s : State} {m : MethodId} {args : Array Value} {below : List Frame} {meth : Method} {c : Code} {H : Heap} {locs : List Loc} {cells slots : Nat} {Q : State → Prop} {cc : ByteArray} {pc nL : Nat} {ls : Array Slot} {rest : List Value} {w : WV} {σ : Mem} {x1 : Int32} {σ1 : Mem} (S : CallFix p m c cc nL s args gtbl RX7) (hK : KS LM w s) (hR : Rp EM LM w σ H) (hS : va_S (AW LM w) s.heap H locs) (h0 : f7_noHour σ x1 = some σ1) (hf : cells + 0 ≤ R.cells ∧ slots + 0 ≤ R.slots) (hRm : rm7_noHour.frames + 1 ≤ R.frames ∧ 8 + (3 + 11) + rm7_noHour.locals ≤ R.locals) (hl : ls.size = nL) (hW : (rest.map fun v => v.category).sum ≤ 8) (hdg : decode cc pc = .ok (.invokevirtual 95, 3)) (kk : ∀ (H1 : Heap) (locs1 : List Loc), Rp EM LM w σ1 H1 → va_S (AW LM w) s.heap H1 locs1 → W p l e R s m args below meth c H1 locs1 cells slots Q (F0 m (pc + 3) ls (rest))) : W p l e R s m args below meth c H locs cells slots Q (F0 m pc ls (.int x1 :: .ref (w.2.2 0) :: rest)) := r_end hS (run_V (n := 1) (As := [.int x1]) S hK hR (by decide) (eM_7 w _) rfl (gw_V (gt_at 890 (by decide +kernel) (by decide +kernel)) (gt_at 892 (by decide +kernel) (by decide +kernel)) (gt_at 38 (by decide +kernel) (by decide +kernel)) (gt_at 86 (by decide +kernel) (by decide +kernel)) (gt_at 893 (by decide +kernel) (by decide +kernel))) (by decide +kernel) rfl (c7_noHour l h0) ⟨rfl, rfl⟩ hRm hf hl rfl hW hdg) kk
/-! FourTenGatesModel.addTrain(III)V -/
abbrev rm7_addTrain : Room := { frames := 0, cells := 0, slots := 0, locals := 0 }
theorem d7_addTrain_0 : decode cX7_addTrain 0 = .ok (.aload_n 0, 1) := by decide +kernel
theorem d7_addTrain_1 : decode cX7_addTrain 1 = .ok (.getfield 16, 3) := by decide +kernel
theorem d7_addTrain_4 : decode cX7_addTrain 4 = .ok (.bipush 6, 2) := by decide +kernel
theorem d7_addTrain_6 : decode cX7_addTrain 6 = .ok (.iload_n 1, 1) := by decide +kernel
theorem d7_addTrain_7 : decode cX7_addTrain 7 = .ok (.imul, 1) := by decide +kernel
theorem d7_addTrain_8 : decode cX7_addTrain 8 = .ok (.aload_n 0, 1) := by decide +kernel
theorem d7_addTrain_9 : decode cX7_addTrain 9 = .ok (.getfield 13, 3) := by decide +kernel
theorem d7_addTrain_12 : decode cX7_addTrain 12 = .ok (.iload_n 1, 1) := by decide +kernel
theorem d7_addTrain_13 : decode cX7_addTrain 13 = .ok (.iaload, 1) := by decide +kernel
theorem d7_addTrain_14 : decode cX7_addTrain 14 = .ok (.iadd, 1) := by decide +kernel
theorem d7_addTrain_15 : decode cX7_addTrain 15 = .ok (.iload_n 2, 1) := by decide +kernel
theorem d7_addTrain_16 : decode cX7_addTrain 16 = .ok (.iastore, 1) := by decide +kernel
theorem d7_addTrain_17 : decode cX7_addTrain 17 = .ok (.aload_n 0, 1) := by decide +kernel
theorem d7_addTrain_18 : decode cX7_addTrain 18 = .ok (.getfield 19, 3) := by decide +kernel
theorem d7_addTrain_21 : decode cX7_addTrain 21 = .ok (.bipush 6, 2) := by decide +kernel
theorem d7_addTrain_23 : decode cX7_addTrain 23 = .ok (.iload_n 1, 1) := by decide +kernel
theorem d7_addTrain_24 : decode cX7_addTrain 24 = .ok (.imul, 1) := by decide +kernel
theorem d7_addTrain_25 : decode cX7_addTrain 25 = .ok (.aload_n 0, 1) := by decide +kernel
theorem d7_addTrain_26 : decode cX7_addTrain 26 = .ok (.getfield 13, 3) := by decide +kernel
theorem d7_addTrain_29 : decode cX7_addTrain 29 = .ok (.iload_n 1, 1) := by decide +kernel
theorem d7_addTrain_30 : decode cX7_addTrain 30 = .ok (.iaload, 1) := by decide +kernel
theorem d7_addTrain_31 : decode cX7_addTrain 31 = .ok (.iadd, 1) := by decide +kernel
theorem d7_addTrain_32 : decode cX7_addTrain 32 = .ok (.iload_n 3, 1) := by decide +kernel
theorem d7_addTrain_33 : decode cX7_addTrain 33 = .ok (.iastore, 1) := by decide +kernel
theorem d7_addTrain_34 : decode cX7_addTrain 34 = .ok (.aload_n 0, 1) := by decide +kernel
theorem d7_addTrain_35 : decode cX7_addTrain 35 = .ok (.getfield 13, 3) := by decide +kernel
theorem d7_addTrain_38 : decode cX7_addTrain 38 = .ok (.iload_n 1, 1) := by decide +kernel
theorem d7_addTrain_39 : decode cX7_addTrain 39 = .ok (.dup2, 1) := by decide +kernel
theorem d7_addTrain_40 : decode cX7_addTrain 40 = .ok (.iaload, 1) := by decide +kernel
theorem d7_addTrain_41 : decode cX7_addTrain 41 = .ok (.iconst 1, 1) := by decide +kernel
theorem d7_addTrain_42 : decode cX7_addTrain 42 = .ok (.iadd, 1) := by decide +kernel
theorem d7_addTrain_43 : decode cX7_addTrain 43 = .ok (.iastore, 1) := by decide +kernel
theorem d7_addTrain_44 : decode cX7_addTrain 44 = .ok (.return_, 1) := by decide +kernel
def f7_addTrain (σ : Mem) (x1 : Int32) (x2 : Int32) (x3 : Int32) : Option Mem := if ¬ (x1 < 0 ∨ 2 ≤ x1.toNatClampNeg) then if ¬ ((6 * x1) + (σ 3 x1.toNatClampNeg) < 0 ∨ 12 ≤ ((6 * x1) + (σ 3 x1.toNatClampNeg)).toNatClampNeg) then (bm (mu σ 4 (((6 * x1) + (σ 3 x1.toNatClampNeg)).toNatClampNeg) x2) fun σ3 => if ¬ (x1 < 0 ∨ 2 ≤ x1.toNatClampNeg) then if ¬ ((6 * x1) + (σ3 3 x1.toNatClampNeg) < 0 ∨ 12 ≤ ((6 * x1) + (σ3 3 x1.toNatClampNeg)).toNatClampNeg) then (bm (mu σ3 5 (((6 * x1) + (σ3 3 x1.toNatClampNeg)).toNatClampNeg) x3) fun σ6 => if ¬ (x1 < 0 ∨ 2 ≤ x1.toNatClampNeg) then if ¬ (x1 < 0 ∨ 2 ≤ x1.toNatClampNeg) then (bm (mu σ6 3 x1.toNatClampNeg ((σ6 3 x1.toNatClampNeg) + 1)) fun σ9 => some σ9) else none else none) else none else none) else none else none
set_option maxHeartbeats 4000000 in
set_option maxRecDepth 100000 in
theorem c7_addTrain (l : Launch) {w : WV} {σ : Mem} {x1 : Int32} {x2 : Int32} {x3 : Int32} {σ' : Mem} (h0 : f7_addTrain σ x1 x2 x3 = some σ') : Met l yX7_addTrain (wy yX7_addTrain cX7_addTrain 4 none) rm7_addTrain (Pw EM LM w [.ref (w.2.2 0), .int x1, .int x2, .int x3] σ) (Qw EM LM w σ' none) 0 0 (AW LM w) := by
  refine mk_met (by decide) (Nat.le_of_ble_eq_true rfl) ?_
  intro p e s m below meth c S hr hlk hK hR ls hl
  obtain ⟨hx, hb, hml, hown, hts⟩ := id S
  have hl : lv_has ls 4 [(0, .ref (w.2.2 0)), (1, .int x1), (2, .int x2), (3, .int x3)] := hl
  have hS : va_S (AW LM w) s.heap s.heap [] := va_S.rf
  unfold f7_addTrain at h0
  refine lv_aload_n hx hb d7_addTrain_0 rfl (lv_at hl 0 rfl) ?_
  refine g7_16 S hK hR d7_addTrain_1 ?_
  refine lv_bipush (v := 6) hx hb d7_addTrain_4 (by decide) ?_
  refine lv_iload_n hx hb d7_addTrain_6 rfl (lv_at hl 1 rfl) ?_
  refine lv_imul hx hb d7_addTrain_7 ?_
  refine lv_aload_n hx hb d7_addTrain_8 rfl (lv_at hl 0 rfl) ?_
  refine g7_13 S hK hR d7_addTrain_9 ?_
  refine lv_iload_n hx hb d7_addTrain_12 rfl (lv_at hl 1 rfl) ?_
  obtain ⟨hi1, h0⟩ := og_if h0
  refine q_ld (k := x1.toNatClampNeg) S hK hR (by decide) (eM_102 w _) hi1 rfl d7_addTrain_13 ?_
  refine lv_iadd hx hb d7_addTrain_14 ?_
  refine lv_iload_n hx hb d7_addTrain_15 rfl (lv_at hl 2 rfl) ?_
  obtain ⟨hi2, h0⟩ := og_if h0
  obtain ⟨σ3, hm3, h0⟩ := og_m h0
  refine q_st S hK hR hS (by decide) (eM_103 w) hi2 rfl hm3 d7_addTrain_16 (fun H locs hR hS => ?_)
  refine lv_aload_n hx hb d7_addTrain_17 rfl (lv_at hl 0 rfl) ?_
  refine g7_19 S hK hR d7_addTrain_18 ?_
  refine lv_bipush (v := 6) hx hb d7_addTrain_21 (by decide) ?_
  refine lv_iload_n hx hb d7_addTrain_23 rfl (lv_at hl 1 rfl) ?_
  refine lv_imul hx hb d7_addTrain_24 ?_
  refine lv_aload_n hx hb d7_addTrain_25 rfl (lv_at hl 0 rfl) ?_
  refine g7_13 S hK hR d7_addTrain_26 ?_
  refine lv_iload_n hx hb d7_addTrain_29 rfl (lv_at hl 1 rfl) ?_
  obtain ⟨hi4, h0⟩ := og_if h0
  refine q_ld (k := x1.toNatClampNeg) S hK hR (by decide) (eM_102 w _) hi4 rfl d7_addTrain_30 ?_
  refine lv_iadd hx hb d7_addTrain_31 ?_
  refine lv_iload_n hx hb d7_addTrain_32 rfl (lv_at hl 3 rfl) ?_
  obtain ⟨hi5, h0⟩ := og_if h0
  obtain ⟨σ6, hm6, h0⟩ := og_m h0
  refine q_st S hK hR hS (by decide) (eM_104 w) hi5 rfl hm6 d7_addTrain_33 (fun H locs hR hS => ?_)
  refine lv_aload_n hx hb d7_addTrain_34 rfl (lv_at hl 0 rfl) ?_
  refine g7_13 S hK hR d7_addTrain_35 ?_
  refine lv_iload_n hx hb d7_addTrain_38 rfl (lv_at hl 1 rfl) ?_
  refine lv_dup2_11 hx hb d7_addTrain_39 rfl rfl ?_
  obtain ⟨hi7, h0⟩ := og_if h0
  refine q_ld (k := x1.toNatClampNeg) S hK hR (by decide) (eM_102 w _) hi7 rfl d7_addTrain_40 ?_
  refine lv_iconst (v := 1) hx hb d7_addTrain_41 (by decide) ?_
  refine lv_iadd hx hb d7_addTrain_42 ?_
  obtain ⟨hi8, h0⟩ := og_if h0
  obtain ⟨σ9, hm9, h0⟩ := og_m h0
  refine q_st S hK hR hS (by decide) (eM_102 w) hi8 rfl hm9 d7_addTrain_43 (fun H locs hR hS => ?_)
  exact q_vret S hr hlk hR hS h0 d7_addTrain_44
set_option maxHeartbeats 4000000 in
set_option maxRecDepth 100000 in
theorem k7_99 {p : Program} {l : Launch} {e : Env} {R : Room} {s : State} {m : MethodId} {args : Array Value} {below : List Frame} {meth : Method} {c : Code} {H : Heap} {locs : List Loc} {cells slots : Nat} {Q : State → Prop} {cc : ByteArray} {pc nL : Nat} {ls : Array Slot} {rest : List Value} {w : WV} {σ : Mem} {x1 : Int32} {x2 : Int32} {x3 : Int32} {σ1 : Mem} (S : CallFix p m c cc nL s args gtbl RX7) (hK : KS LM w s) (hR : Rp EM LM w σ H) (hS : va_S (AW LM w) s.heap H locs) (h0 : f7_addTrain σ x1 x2 x3 = some σ1) (hf : cells + 0 ≤ R.cells ∧ slots + 0 ≤ R.slots) (hRm : rm7_addTrain.frames + 1 ≤ R.frames ∧ 8 + (4 + 11) + rm7_addTrain.locals ≤ R.locals) (hl : ls.size = nL) (hW : (rest.map fun v => v.category).sum ≤ 8) (hdg : decode cc pc = .ok (.invokevirtual 99, 3)) (kk : ∀ (H1 : Heap) (locs1 : List Loc), Rp EM LM w σ1 H1 → va_S (AW LM w) s.heap H1 locs1 → W p l e R s m args below meth c H1 locs1 cells slots Q (F0 m (pc + 3) ls (rest))) : W p l e R s m args below meth c H locs cells slots Q (F0 m pc ls (.int x3 :: .int x2 :: .int x1 :: .ref (w.2.2 0) :: rest)) := r_end hS (run_V (n := 3) (As := [.int x1, .int x2, .int x3]) S hK hR (by decide) (eM_7 w _) rfl (gw_V (gt_at 894 (by decide +kernel) (by decide +kernel)) (gt_at 896 (by decide +kernel) (by decide +kernel)) (gt_at 39 (by decide +kernel) (by decide +kernel)) (gt_at 86 (by decide +kernel) (by decide +kernel)) (gt_at 897 (by decide +kernel) (by decide +kernel))) (by decide +kernel) rfl (c7_addTrain l h0) ⟨rfl, rfl⟩ hRm hf hl rfl hW hdg) kk
/-! FourTenGatesModel.addUser(III)V -/
abbrev rm7_addUser : Room := { frames := 0, cells := 0, slots := 0, locals := 0 }
theorem d7_addUser_0 : decode cX7_addUser 0 = .ok (.aload_n 0, 1) := by decide +kernel
theorem d7_addUser_1 : decode cX7_addUser 1 = .ok (.getfield 25, 3) := by decide +kernel
theorem d7_addUser_4 : decode cX7_addUser 4 = .ok (.bipush 8, 2) := by decide +kernel
theorem d7_addUser_6 : decode cX7_addUser 6 = .ok (.iload_n 1, 1) := by decide +kernel
theorem d7_addUser_7 : decode cX7_addUser 7 = .ok (.imul, 1) := by decide +kernel
theorem d7_addUser_8 : decode cX7_addUser 8 = .ok (.aload_n 0, 1) := by decide +kernel
theorem d7_addUser_9 : decode cX7_addUser 9 = .ok (.getfield 22, 3) := by decide +kernel
theorem d7_addUser_12 : decode cX7_addUser 12 = .ok (.iload_n 1, 1) := by decide +kernel
theorem d7_addUser_13 : decode cX7_addUser 13 = .ok (.iaload, 1) := by decide +kernel
theorem d7_addUser_14 : decode cX7_addUser 14 = .ok (.iadd, 1) := by decide +kernel
theorem d7_addUser_15 : decode cX7_addUser 15 = .ok (.iload_n 2, 1) := by decide +kernel
theorem d7_addUser_16 : decode cX7_addUser 16 = .ok (.iastore, 1) := by decide +kernel
theorem d7_addUser_17 : decode cX7_addUser 17 = .ok (.aload_n 0, 1) := by decide +kernel
theorem d7_addUser_18 : decode cX7_addUser 18 = .ok (.getfield 28, 3) := by decide +kernel
theorem d7_addUser_21 : decode cX7_addUser 21 = .ok (.bipush 8, 2) := by decide +kernel
theorem d7_addUser_23 : decode cX7_addUser 23 = .ok (.iload_n 1, 1) := by decide +kernel
theorem d7_addUser_24 : decode cX7_addUser 24 = .ok (.imul, 1) := by decide +kernel
theorem d7_addUser_25 : decode cX7_addUser 25 = .ok (.aload_n 0, 1) := by decide +kernel
theorem d7_addUser_26 : decode cX7_addUser 26 = .ok (.getfield 22, 3) := by decide +kernel
theorem d7_addUser_29 : decode cX7_addUser 29 = .ok (.iload_n 1, 1) := by decide +kernel
theorem d7_addUser_30 : decode cX7_addUser 30 = .ok (.iaload, 1) := by decide +kernel
theorem d7_addUser_31 : decode cX7_addUser 31 = .ok (.iadd, 1) := by decide +kernel
theorem d7_addUser_32 : decode cX7_addUser 32 = .ok (.iload_n 3, 1) := by decide +kernel
theorem d7_addUser_33 : decode cX7_addUser 33 = .ok (.iastore, 1) := by decide +kernel
theorem d7_addUser_34 : decode cX7_addUser 34 = .ok (.aload_n 0, 1) := by decide +kernel
theorem d7_addUser_35 : decode cX7_addUser 35 = .ok (.getfield 22, 3) := by decide +kernel
theorem d7_addUser_38 : decode cX7_addUser 38 = .ok (.iload_n 1, 1) := by decide +kernel
theorem d7_addUser_39 : decode cX7_addUser 39 = .ok (.dup2, 1) := by decide +kernel
theorem d7_addUser_40 : decode cX7_addUser 40 = .ok (.iaload, 1) := by decide +kernel
theorem d7_addUser_41 : decode cX7_addUser 41 = .ok (.iconst 1, 1) := by decide +kernel
theorem d7_addUser_42 : decode cX7_addUser 42 = .ok (.iadd, 1) := by decide +kernel
theorem d7_addUser_43 : decode cX7_addUser 43 = .ok (.iastore, 1) := by decide +kernel
theorem d7_addUser_44 : decode cX7_addUser 44 = .ok (.return_, 1) := by decide +kernel
def f7_addUser (σ : Mem) (x1 : Int32) (x2 : Int32) (x3 : Int32) : Option Mem := if ¬ (x1 < 0 ∨ 2 ≤ x1.toNatClampNeg) then if ¬ ((8 * x1) + (σ 6 x1.toNatClampNeg) < 0 ∨ 16 ≤ ((8 * x1) + (σ 6 x1.toNatClampNeg)).toNatClampNeg) then (bm (mu σ 7 (((8 * x1) + (σ 6 x1.toNatClampNeg)).toNatClampNeg) x2) fun σ3 => if ¬ (x1 < 0 ∨ 2 ≤ x1.toNatClampNeg) then if ¬ ((8 * x1) + (σ3 6 x1.toNatClampNeg) < 0 ∨ 16 ≤ ((8 * x1) + (σ3 6 x1.toNatClampNeg)).toNatClampNeg) then (bm (mu σ3 8 (((8 * x1) + (σ3 6 x1.toNatClampNeg)).toNatClampNeg) x3) fun σ6 => if ¬ (x1 < 0 ∨ 2 ≤ x1.toNatClampNeg) then if ¬ (x1 < 0 ∨ 2 ≤ x1.toNatClampNeg) then (bm (mu σ6 6 x1.toNatClampNeg ((σ6 6 x1.toNatClampNeg) + 1)) fun σ9 => some σ9) else none else none) else none else none) else none else none
set_option maxHeartbeats 4000000 in
set_option maxRecDepth 100000 in
theorem c7_addUser (l : Launch) {w : WV} {σ : Mem} {x1 : Int32} {x2 : Int32} {x3 : Int32} {σ' : Mem} (h0 : f7_addUser σ x1 x2 x3 = some σ') : Met l yX7_addUser (wy yX7_addUser cX7_addUser 4 none) rm7_addUser (Pw EM LM w [.ref (w.2.2 0), .int x1, .int x2, .int x3] σ) (Qw EM LM w σ' none) 0 0 (AW LM w) := by
  refine mk_met (by decide) (Nat.le_of_ble_eq_true rfl) ?_
  intro p e s m below meth c S hr hlk hK hR ls hl
  obtain ⟨hx, hb, hml, hown, hts⟩ := id S
  have hl : lv_has ls 4 [(0, .ref (w.2.2 0)), (1, .int x1), (2, .int x2), (3, .int x3)] := hl
  have hS : va_S (AW LM w) s.heap s.heap [] := va_S.rf
  unfold f7_addUser at h0
  refine lv_aload_n hx hb d7_addUser_0 rfl (lv_at hl 0 rfl) ?_
  refine g7_25 S hK hR d7_addUser_1 ?_
  refine lv_bipush (v := 8) hx hb d7_addUser_4 (by decide) ?_
  refine lv_iload_n hx hb d7_addUser_6 rfl (lv_at hl 1 rfl) ?_
  refine lv_imul hx hb d7_addUser_7 ?_
  refine lv_aload_n hx hb d7_addUser_8 rfl (lv_at hl 0 rfl) ?_
  refine g7_22 S hK hR d7_addUser_9 ?_
  refine lv_iload_n hx hb d7_addUser_12 rfl (lv_at hl 1 rfl) ?_
  obtain ⟨hi1, h0⟩ := og_if h0
  refine q_ld (k := x1.toNatClampNeg) S hK hR (by decide) (eM_105 w _) hi1 rfl d7_addUser_13 ?_
  refine lv_iadd hx hb d7_addUser_14 ?_
  refine lv_iload_n hx hb d7_addUser_15 rfl (lv_at hl 2 rfl) ?_
  obtain ⟨hi2, h0⟩ := og_if h0
  obtain ⟨σ3, hm3, h0⟩ := og_m h0
  refine q_st S hK hR hS (by decide) (eM_106 w) hi2 rfl hm3 d7_addUser_16 (fun H locs hR hS => ?_)
  refine lv_aload_n hx hb d7_addUser_17 rfl (lv_at hl 0 rfl) ?_
  refine g7_28 S hK hR d7_addUser_18 ?_
  refine lv_bipush (v := 8) hx hb d7_addUser_21 (by decide) ?_
  refine lv_iload_n hx hb d7_addUser_23 rfl (lv_at hl 1 rfl) ?_
  refine lv_imul hx hb d7_addUser_24 ?_
  refine lv_aload_n hx hb d7_addUser_25 rfl (lv_at hl 0 rfl) ?_
  refine g7_22 S hK hR d7_addUser_26 ?_
  refine lv_iload_n hx hb d7_addUser_29 rfl (lv_at hl 1 rfl) ?_
  obtain ⟨hi4, h0⟩ := og_if h0
  refine q_ld (k := x1.toNatClampNeg) S hK hR (by decide) (eM_105 w _) hi4 rfl d7_addUser_30 ?_
  refine lv_iadd hx hb d7_addUser_31 ?_
  refine lv_iload_n hx hb d7_addUser_32 rfl (lv_at hl 3 rfl) ?_
  obtain ⟨hi5, h0⟩ := og_if h0
  obtain ⟨σ6, hm6, h0⟩ := og_m h0
  refine q_st S hK hR hS (by decide) (eM_107 w) hi5 rfl hm6 d7_addUser_33 (fun H locs hR hS => ?_)
  refine lv_aload_n hx hb d7_addUser_34 rfl (lv_at hl 0 rfl) ?_
  refine g7_22 S hK hR d7_addUser_35 ?_
  refine lv_iload_n hx hb d7_addUser_38 rfl (lv_at hl 1 rfl) ?_
  refine lv_dup2_11 hx hb d7_addUser_39 rfl rfl ?_
  obtain ⟨hi7, h0⟩ := og_if h0
  refine q_ld (k := x1.toNatClampNeg) S hK hR (by decide) (eM_105 w _) hi7 rfl d7_addUser_40 ?_
  refine lv_iconst (v := 1) hx hb d7_addUser_41 (by decide) ?_
  refine lv_iadd hx hb d7_addUser_42 ?_
  obtain ⟨hi8, h0⟩ := og_if h0
  obtain ⟨σ9, hm9, h0⟩ := og_m h0
  refine q_st S hK hR hS (by decide) (eM_105 w) hi8 rfl hm9 d7_addUser_43 (fun H locs hR hS => ?_)
  exact q_vret S hr hlk hR hS h0 d7_addUser_44
set_option maxHeartbeats 4000000 in
set_option maxRecDepth 100000 in
theorem k7_103 {p : Program} {l : Launch} {e : Env} {R : Room} {s : State} {m : MethodId} {args : Array Value} {below : List Frame} {meth : Method} {c : Code} {H : Heap} {locs : List Loc} {cells slots : Nat} {Q : State → Prop} {cc : ByteArray} {pc nL : Nat} {ls : Array Slot} {rest : List Value} {w : WV} {σ : Mem} {x1 : Int32} {x2 : Int32} {x3 : Int32} {σ1 : Mem} (S : CallFix p m c cc nL s args gtbl RX7) (hK : KS LM w s) (hR : Rp EM LM w σ H) (hS : va_S (AW LM w) s.heap H locs) (h0 : f7_addUser σ x1 x2 x3 = some σ1) (hf : cells + 0 ≤ R.cells ∧ slots + 0 ≤ R.slots) (hRm : rm7_addUser.frames + 1 ≤ R.frames ∧ 8 + (4 + 11) + rm7_addUser.locals ≤ R.locals) (hl : ls.size = nL) (hW : (rest.map fun v => v.category).sum ≤ 8) (hdg : decode cc pc = .ok (.invokevirtual 103, 3)) (kk : ∀ (H1 : Heap) (locs1 : List Loc), Rp EM LM w σ1 H1 → va_S (AW LM w) s.heap H1 locs1 → W p l e R s m args below meth c H1 locs1 cells slots Q (F0 m (pc + 3) ls (rest))) : W p l e R s m args below meth c H locs cells slots Q (F0 m pc ls (.int x3 :: .int x2 :: .int x1 :: .ref (w.2.2 0) :: rest)) := r_end hS (run_V (n := 3) (As := [.int x1, .int x2, .int x3]) S hK hR (by decide) (eM_7 w _) rfl (gw_V (gt_at 898 (by decide +kernel) (by decide +kernel)) (gt_at 900 (by decide +kernel) (by decide +kernel)) (gt_at 40 (by decide +kernel) (by decide +kernel)) (gt_at 86 (by decide +kernel) (by decide +kernel)) (gt_at 901 (by decide +kernel) (by decide +kernel))) (by decide +kernel) rfl (c7_addUser l h0) ⟨rfl, rfl⟩ hRm hf hl rfl hW hdg) kk
/-! FourTenGatesModel.begin()V -/
abbrev rm7_begin : Room := { frames := 0, cells := 0, slots := 0, locals := 0 }
theorem d7_begin_0 : decode cX7_begin 0 = .ok (.iconst 0, 1) := by decide +kernel
theorem d7_begin_1 : decode cX7_begin 1 = .ok (.istore_n 1, 1) := by decide +kernel
theorem d7_begin_2 : decode cX7_begin 2 = .ok (.iload_n 1, 1) := by decide +kernel
theorem d7_begin_3 : decode cX7_begin 3 = .ok (.bipush 6, 2) := by decide +kernel
theorem d7_begin_5 : decode cX7_begin 5 = .ok (.if_icmp .ge 46, 3) := by decide +kernel
theorem d7_begin_8 : decode cX7_begin 8 = .ok (.aload_n 0, 1) := by decide +kernel
theorem d7_begin_9 : decode cX7_begin 9 = .ok (.getfield 55, 3) := by decide +kernel
theorem d7_begin_12 : decode cX7_begin 12 = .ok (.iload_n 1, 1) := by decide +kernel
theorem d7_begin_13 : decode cX7_begin 13 = .ok (.iconst 0, 1) := by decide +kernel
theorem d7_begin_14 : decode cX7_begin 14 = .ok (.iastore, 1) := by decide +kernel
theorem d7_begin_15 : decode cX7_begin 15 = .ok (.aload_n 0, 1) := by decide +kernel
theorem d7_begin_16 : decode cX7_begin 16 = .ok (.getfield 55, 3) := by decide +kernel
theorem d7_begin_19 : decode cX7_begin 19 = .ok (.bipush 7, 2) := by decide +kernel
theorem d7_begin_21 : decode cX7_begin 21 = .ok (.iload_n 1, 1) := by decide +kernel
theorem d7_begin_22 : decode cX7_begin 22 = .ok (.iadd, 1) := by decide +kernel
theorem d7_begin_23 : decode cX7_begin 23 = .ok (.aload_n 0, 1) := by decide +kernel
theorem d7_begin_24 : decode cX7_begin 24 = .ok (.getfield 40, 3) := by decide +kernel
theorem d7_begin_27 : decode cX7_begin 27 = .ok (.iload_n 1, 1) := by decide +kernel
theorem d7_begin_28 : decode cX7_begin 28 = .ok (.iaload, 1) := by decide +kernel
theorem d7_begin_29 : decode cX7_begin 29 = .ok (.iastore, 1) := by decide +kernel
theorem d7_begin_30 : decode cX7_begin 30 = .ok (.aload_n 0, 1) := by decide +kernel
theorem d7_begin_31 : decode cX7_begin 31 = .ok (.getfield 55, 3) := by decide +kernel
theorem d7_begin_34 : decode cX7_begin 34 = .ok (.bipush 13, 2) := by decide +kernel
theorem d7_begin_36 : decode cX7_begin 36 = .ok (.iload_n 1, 1) := by decide +kernel
theorem d7_begin_37 : decode cX7_begin 37 = .ok (.iadd, 1) := by decide +kernel
theorem d7_begin_38 : decode cX7_begin 38 = .ok (.aload_n 0, 1) := by decide +kernel
theorem d7_begin_39 : decode cX7_begin 39 = .ok (.getfield 43, 3) := by decide +kernel
theorem d7_begin_42 : decode cX7_begin 42 = .ok (.iload_n 1, 1) := by decide +kernel
theorem d7_begin_43 : decode cX7_begin 43 = .ok (.iaload, 1) := by decide +kernel
theorem d7_begin_44 : decode cX7_begin 44 = .ok (.iastore, 1) := by decide +kernel
theorem d7_begin_45 : decode cX7_begin 45 = .ok (.iinc 1 1, 3) := by decide +kernel
theorem d7_begin_48 : decode cX7_begin 48 = .ok (.goto (-46), 3) := by decide +kernel
theorem d7_begin_51 : decode cX7_begin 51 = .ok (.aload_n 0, 1) := by decide +kernel
theorem d7_begin_52 : decode cX7_begin 52 = .ok (.getfield 55, 3) := by decide +kernel
theorem d7_begin_55 : decode cX7_begin 55 = .ok (.bipush 6, 2) := by decide +kernel
theorem d7_begin_57 : decode cX7_begin 57 = .ok (.aload_n 0, 1) := by decide +kernel
theorem d7_begin_58 : decode cX7_begin 58 = .ok (.getfield 37, 3) := by decide +kernel
theorem d7_begin_61 : decode cX7_begin 61 = .ok (.iconst 0, 1) := by decide +kernel
theorem d7_begin_62 : decode cX7_begin 62 = .ok (.iaload, 1) := by decide +kernel
theorem d7_begin_63 : decode cX7_begin 63 = .ok (.iastore, 1) := by decide +kernel
theorem d7_begin_64 : decode cX7_begin 64 = .ok (.aload_n 0, 1) := by decide +kernel
theorem d7_begin_65 : decode cX7_begin 65 = .ok (.iconst 0, 1) := by decide +kernel
theorem d7_begin_66 : decode cX7_begin 66 = .ok (.putfield 159, 3) := by decide +kernel
theorem d7_begin_69 : decode cX7_begin 69 = .ok (.aload_n 0, 1) := by decide +kernel
theorem d7_begin_70 : decode cX7_begin 70 = .ok (.iconst 0, 1) := by decide +kernel
theorem d7_begin_71 : decode cX7_begin 71 = .ok (.putfield 162, 3) := by decide +kernel
theorem d7_begin_74 : decode cX7_begin 74 = .ok (.aload_n 0, 1) := by decide +kernel
theorem d7_begin_75 : decode cX7_begin 75 = .ok (.iconst 0, 1) := by decide +kernel
theorem d7_begin_76 : decode cX7_begin 76 = .ok (.putfield 165, 3) := by decide +kernel
theorem d7_begin_79 : decode cX7_begin 79 = .ok (.return_, 1) := by decide +kernel
def f7_begin_b2 : Nat → Mem → Int32 → Option Mem
  | 0, _, _ => none
  | n + 1, σ, x1 => if 6 ≤ x1 then bm (mu σ 17 6 (σ 11 0)) fun σ2 => bm (mu σ2 0 18 0) fun σ3 => bm (mu σ3 0 20 0) fun σ4 => bm (mu σ4 0 21 0) fun σ5 => some σ5 else if ¬ (x1 < 0 ∨ 19 ≤ x1.toNatClampNeg) then (bm (mu σ 17 x1.toNatClampNeg 0) fun σ3 => if ¬ (x1 < 0 ∨ 12 ≤ x1.toNatClampNeg) then if ¬ (7 + x1 < 0 ∨ 19 ≤ (7 + x1).toNatClampNeg) then (bm (mu σ3 17 ((7 + x1).toNatClampNeg) (σ3 12 x1.toNatClampNeg)) fun σ6 => if ¬ (x1 < 0 ∨ 12 ≤ x1.toNatClampNeg) then if ¬ (13 + x1 < 0 ∨ 19 ≤ (13 + x1).toNatClampNeg) then (bm (mu σ6 17 ((13 + x1).toNatClampNeg) (σ6 13 x1.toNatClampNeg)) fun σ9 => f7_begin_b2 n σ9 (x1 + 1)) else none else none) else none else none) else none
set_option maxHeartbeats 4000000 in
set_option maxRecDepth 100000 in
theorem t7_begin_b2 {p : Program} {l : Launch} {e : Env} {s : State} {m : MethodId} {args : Array Value} {below : List Frame} {meth : Method} {c : Code} {w : WV} {σ' : Mem} (S : CallFix p m c cX7_begin 2 s args gtbl RX7) (hr : meth.sig.returnType = none) (hlk : meth.locks = false) (hK : KS LM w s) : ∀ (n : Nat), ∀ (σ : Mem) (x1 : Int32), f7_begin_b2  n σ x1 = some σ' → ∀ (H : Heap) (locs : List Loc), Rp EM LM w σ H → va_S (AW LM w) s.heap H locs → ∀ (ls : Array Slot), lv_has ls 2 [(0, .ref (w.2.2 0)), (1, .int x1)] → W p l e rm7_begin s m args below meth c H locs 0 0 (MQ below (Qw EM LM w σ' none) args s 0 0 (AW LM w)) (F0 m 2 ls []) := by
  obtain ⟨hx, hb, hml, hown, hts⟩ := id S
  intro n
  induction n with
  | zero =>
    intro σ x1 h0
    cases (show none = _ from h0)
  | succ n ih =>
    intro σ x1 h0 H locs hR hS ls hl
    rw [f7_begin_b2] at h0
    refine lv_iload_n hx hb d7_begin_2 rfl (lv_at hl 1 rfl) ?_
    refine lv_bipush (v := 6) hx hb d7_begin_3 (by decide) ?_
    refine lv_icmp_ge (tgt := 51) hx hb d7_begin_5 (by decide) (fun hc1 => ?_) (fun hc1 => ?_)
    · have h0 := og_t hc1 h0
      refine lv_aload_n hx hb d7_begin_51 rfl (lv_at hl 0 rfl) ?_
      refine g7_55 S hK hR d7_begin_52 ?_
      refine lv_bipush (v := 6) hx hb d7_begin_55 (by decide) ?_
      refine lv_aload_n hx hb d7_begin_57 rfl (lv_at hl 0 rfl) ?_
      refine g7_37 S hK hR d7_begin_58 ?_
      refine lv_iconst (v := 0) hx hb d7_begin_61 (by decide) ?_
      refine q_ld (k := 0) S hK hR (by decide) (eM_110 w _) (vin (by decide)) (by decide) d7_begin_62 ?_
      obtain ⟨σ2, hm2, h0⟩ := og_m h0
      refine q_st S hK hR hS (by decide) (eM_116 w) (vin (by decide)) (by decide) hm2 d7_begin_63 (fun H locs hR hS => ?_)
      refine lv_aload_n hx hb d7_begin_64 rfl (lv_at hl 0 rfl) ?_
      refine lv_iconst (v := 0) hx hb d7_begin_65 (by decide) ?_
      obtain ⟨σ3, hm3, h0⟩ := og_m h0
      refine u7_159 S hK hR hS hm3 d7_begin_66 (fun H locs hR hS => ?_)
      refine lv_aload_n hx hb d7_begin_69 rfl (lv_at hl 0 rfl) ?_
      refine lv_iconst (v := 0) hx hb d7_begin_70 (by decide) ?_
      obtain ⟨σ4, hm4, h0⟩ := og_m h0
      refine u7_162 S hK hR hS hm4 d7_begin_71 (fun H locs hR hS => ?_)
      refine lv_aload_n hx hb d7_begin_74 rfl (lv_at hl 0 rfl) ?_
      refine lv_iconst (v := 0) hx hb d7_begin_75 (by decide) ?_
      obtain ⟨σ5, hm5, h0⟩ := og_m h0
      refine u7_165 S hK hR hS hm5 d7_begin_76 (fun H locs hR hS => ?_)
      exact q_vret S hr hlk hR hS h0 d7_begin_79
    · have h0 := og_f hc1 h0
      refine lv_aload_n hx hb d7_begin_8 rfl (lv_at hl 0 rfl) ?_
      refine g7_55 S hK hR d7_begin_9 ?_
      refine lv_iload_n hx hb d7_begin_12 rfl (lv_at hl 1 rfl) ?_
      refine lv_iconst (v := 0) hx hb d7_begin_13 (by decide) ?_
      obtain ⟨hi2, h0⟩ := og_if h0
      obtain ⟨σ3, hm3, h0⟩ := og_m h0
      refine q_st S hK hR hS (by decide) (eM_116 w) hi2 rfl hm3 d7_begin_14 (fun H locs hR hS => ?_)
      refine lv_aload_n hx hb d7_begin_15 rfl (lv_at hl 0 rfl) ?_
      refine g7_55 S hK hR d7_begin_16 ?_
      refine lv_bipush (v := 7) hx hb d7_begin_19 (by decide) ?_
      refine lv_iload_n hx hb d7_begin_21 rfl (lv_at hl 1 rfl) ?_
      refine lv_iadd hx hb d7_begin_22 ?_
      refine lv_aload_n hx hb d7_begin_23 rfl (lv_at hl 0 rfl) ?_
      refine g7_40 S hK hR d7_begin_24 ?_
      refine lv_iload_n hx hb d7_begin_27 rfl (lv_at hl 1 rfl) ?_
      obtain ⟨hi4, h0⟩ := og_if h0
      refine q_ld (k := x1.toNatClampNeg) S hK hR (by decide) (eM_111 w _) hi4 rfl d7_begin_28 ?_
      obtain ⟨hi5, h0⟩ := og_if h0
      obtain ⟨σ6, hm6, h0⟩ := og_m h0
      refine q_st S hK hR hS (by decide) (eM_116 w) hi5 rfl hm6 d7_begin_29 (fun H locs hR hS => ?_)
      refine lv_aload_n hx hb d7_begin_30 rfl (lv_at hl 0 rfl) ?_
      refine g7_55 S hK hR d7_begin_31 ?_
      refine lv_bipush (v := 13) hx hb d7_begin_34 (by decide) ?_
      refine lv_iload_n hx hb d7_begin_36 rfl (lv_at hl 1 rfl) ?_
      refine lv_iadd hx hb d7_begin_37 ?_
      refine lv_aload_n hx hb d7_begin_38 rfl (lv_at hl 0 rfl) ?_
      refine g7_43 S hK hR d7_begin_39 ?_
      refine lv_iload_n hx hb d7_begin_42 rfl (lv_at hl 1 rfl) ?_
      obtain ⟨hi7, h0⟩ := og_if h0
      refine q_ld (k := x1.toNatClampNeg) S hK hR (by decide) (eM_112 w _) hi7 rfl d7_begin_43 ?_
      obtain ⟨hi8, h0⟩ := og_if h0
      obtain ⟨σ9, hm9, h0⟩ := og_m h0
      refine q_st S hK hR hS (by decide) (eM_116 w) hi8 rfl hm9 d7_begin_44 (fun H locs hR hS => ?_)
      refine lv_iinc (v := x1 + 1) (lv' := [(1, .int (x1 + 1)), (0, .ref (w.2.2 0))]) hx hb d7_begin_45 hl (k := 1) rfl (ii1 _) (by decide) rfl (fun ls hl => ?_)
      refine lv_goto (tgt := 2) hx hb d7_begin_48 (by decide) ?_
      exact ih σ9 (x1 + 1) h0 _ _ hR hS _ (lv_sub hl [1, 0] rfl)
def f7_begin (σ : Mem) : Option Mem := f7_begin_b2 1000 σ 0
set_option maxHeartbeats 4000000 in
set_option maxRecDepth 100000 in
theorem c7_begin (l : Launch) {w : WV} {σ : Mem} {σ' : Mem} (h0 : f7_begin σ = some σ') : Met l yX7_begin (wy yX7_begin cX7_begin 2 none) rm7_begin (Pw EM LM w [.ref (w.2.2 0)] σ) (Qw EM LM w σ' none) 0 0 (AW LM w) := by
  refine mk_met (by decide) (Nat.le_of_ble_eq_true rfl) ?_
  intro p e s m below meth c S hr hlk hK hR ls hl
  obtain ⟨hx, hb, hml, hown, hts⟩ := id S
  have hl : lv_has ls 2 [(0, .ref (w.2.2 0))] := hl
  have hS : va_S (AW LM w) s.heap s.heap [] := va_S.rf
  unfold f7_begin at h0
  refine lv_iconst (v := 0) hx hb d7_begin_0 (by decide) ?_
  refine lv_istore_n (lv' := [(1, .int 0), (0, .ref (w.2.2 0))]) hx hb d7_begin_1 rfl hl (by decide) rfl (fun ls hl => ?_)
  exact t7_begin_b2 S hr hlk hK 1000 σ 0 h0 _ _ hR hS _ (lv_sub hl [1, 0] rfl)
set_option maxHeartbeats 4000000 in
set_option maxRecDepth 100000 in
theorem k7_106 {p : Program} {l : Launch} {e : Env} {R : Room} {s : State} {m : MethodId} {args : Array Value} {below : List Frame} {meth : Method} {c : Code} {H : Heap} {locs : List Loc} {cells slots : Nat} {Q : State → Prop} {cc : ByteArray} {pc nL : Nat} {ls : Array Slot} {rest : List Value} {w : WV} {σ : Mem} {σ1 : Mem} (S : CallFix p m c cc nL s args gtbl RX7) (hK : KS LM w s) (hR : Rp EM LM w σ H) (hS : va_S (AW LM w) s.heap H locs) (h0 : f7_begin σ = some σ1) (hf : cells + 0 ≤ R.cells ∧ slots + 0 ≤ R.slots) (hRm : rm7_begin.frames + 1 ≤ R.frames ∧ 8 + (2 + 11) + rm7_begin.locals ≤ R.locals) (hl : ls.size = nL) (hW : (rest.map fun v => v.category).sum ≤ 8) (hdg : decode cc pc = .ok (.invokevirtual 106, 3)) (kk : ∀ (H1 : Heap) (locs1 : List Loc), Rp EM LM w σ1 H1 → va_S (AW LM w) s.heap H1 locs1 → W p l e R s m args below meth c H1 locs1 cells slots Q (F0 m (pc + 3) ls (rest))) : W p l e R s m args below meth c H locs cells slots Q (F0 m pc ls (.ref (w.2.2 0) :: rest)) := r_end hS (run_V (n := 0) (As := []) S hK hR (by decide) (eM_7 w _) rfl (gw_V (gt_at 902 (by decide +kernel) (by decide +kernel)) (gt_at 904 (by decide +kernel) (by decide +kernel)) (gt_at 41 (by decide +kernel) (by decide +kernel)) (gt_at 86 (by decide +kernel) (by decide +kernel)) (gt_at 905 (by decide +kernel) (by decide +kernel))) (by decide +kernel) rfl (c7_begin l h0) ⟨rfl, rfl⟩ hRm hf hl rfl hW hdg) kk
/-! FourTenGatesModel.in(JJJ)Z -/
abbrev rm7_in : Room := { frames := 0, cells := 0, slots := 0, locals := 0 }
theorem d7_in_0 : decode cX7_in 0 = .ok (.lload_n 0, 1) := by decide +kernel
theorem d7_in_1 : decode cX7_in 1 = .ok (.lload_n 2, 1) := by decide +kernel
theorem d7_in_2 : decode cX7_in 2 = .ok (.lcmp, 1) := by decide +kernel
theorem d7_in_3 : decode cX7_in 3 = .ok (.ifCond .lt 14, 3) := by decide +kernel
theorem d7_in_6 : decode cX7_in 6 = .ok (.lload_n 0, 1) := by decide +kernel
theorem d7_in_7 : decode cX7_in 7 = .ok (.lload 4, 2) := by decide +kernel
theorem d7_in_9 : decode cX7_in 9 = .ok (.lcmp, 1) := by decide +kernel
theorem d7_in_10 : decode cX7_in 10 = .ok (.ifCond .gt 7, 3) := by decide +kernel
theorem d7_in_13 : decode cX7_in 13 = .ok (.iconst 1, 1) := by decide +kernel
theorem d7_in_14 : decode cX7_in 14 = .ok (.goto 4, 3) := by decide +kernel
theorem d7_in_17 : decode cX7_in 17 = .ok (.iconst 0, 1) := by decide +kernel
theorem d7_in_18 : decode cX7_in 18 = .ok (.ireturn, 1) := by decide +kernel
def f7_in (l0 : Int64) (l2 : Int64) (l4 : Int64) : Option Int32 := if (lg_cmp l0 l2) < 0 then some 0 else if 0 < (lg_cmp l0 l4) then some 0 else some 1
set_option maxHeartbeats 4000000 in
set_option maxRecDepth 100000 in
theorem c7_in (l : Launch) {l0 : Int64} {l2 : Int64} {l4 : Int64} {r : Int32} (h0 : f7_in l0 l2 l4 = some r) : Met l yX7_in (wy yX7_in cX7_in 6 (some .boolean)) rm7_in (Ps [.long l0, .long l2, .long l4]) (Qp (.int r)) 0 0 (fun _ => False) := by
  refine mk_mets (by decide) (Nat.le_of_ble_eq_true rfl) ?_
  intro p e s m below meth c S hr hlk ls hl
  obtain ⟨hx, hb, hml, hown, hts⟩ := id S
  have hl : lv_has ls 6 [(0, .long l0), (2, .long l2), (4, .long l4)] := hl
  unfold f7_in at h0
  refine lv_lload_n hx hb d7_in_0 rfl (lv_at hl 0 rfl) ?_
  refine lv_lload_n hx hb d7_in_1 rfl (lv_at hl 1 rfl) ?_
  refine W.lcmp hx hb d7_in_2 ?_
  refine lv_if_lt (tgt := 17) hx hb d7_in_3 (by decide) (fun hc1 => ?_) (fun hc1 => ?_)
  · have h0 := og_t hc1 h0
    refine lv_iconst (v := 0) hx hb d7_in_17 (by decide) ?_
    exact q_zpure S hr hlk (Or.inl rfl) h0 d7_in_18
  · have h0 := og_f hc1 h0
    refine lv_lload_n hx hb d7_in_6 rfl (lv_at hl 0 rfl) ?_
    refine lv_lload hx hb d7_in_7 (lv_at hl 2 rfl) ?_
    refine W.lcmp hx hb d7_in_9 ?_
    refine lv_if_gt (tgt := 17) hx hb d7_in_10 (by decide) (fun hc2 => ?_) (fun hc2 => ?_)
    · have h0 := og_t hc2 h0
      refine lv_iconst (v := 0) hx hb d7_in_17 (by decide) ?_
      exact q_zpure S hr hlk (Or.inl rfl) h0 d7_in_18
    · have h0 := og_f hc2 h0
      refine lv_iconst (v := 1) hx hb d7_in_13 (by decide) ?_
      refine lv_goto (tgt := 18) hx hb d7_in_14 (by decide) ?_
      exact q_zpure S hr hlk (Or.inr rfl) h0 d7_in_18
set_option maxHeartbeats 4000000 in
set_option maxRecDepth 100000 in
theorem k7_113 {p : Program} {l : Launch} {e : Env} {R : Room} {s : State} {m : MethodId} {args : Array Value} {below : List Frame} {meth : Method} {c : Code} {H : Heap} {locs : List Loc} {cells slots : Nat} {Q : State → Prop} {cc : ByteArray} {pc nL : Nat} {ls : Array Slot} {rest : List Value} {l0 : Int64} {l2 : Int64} {l4 : Int64} {r : Int32} (S : CallFix p m c cc nL s args gtbl RX7) (h0 : f7_in l0 l2 l4 = some r) (hf : cells + 0 ≤ R.cells ∧ slots + 0 ≤ R.slots) (hRm : rm7_in.frames + 1 ≤ R.frames ∧ 8 + (6 + 11) + rm7_in.locals ≤ R.locals) (hl : ls.size = nL) (hW : (rest.map fun v => v.category).sum ≤ 8) (hdg : decode cc pc = .ok (.invokestatic 113, 3)) (kk : W p l e R s m args below meth c H locs cells slots Q (F0 m (pc + 3) ls (.int r :: rest))) : W p l e R s m args below meth c H locs cells slots Q (F0 m pc ls (.long l4 :: .long l2 :: .long l0 :: rest)) := r_endp (run_S (n := 3) (As := [.long l0, .long l2, .long l4]) S (gw_S (gt_at 1028 (by decide +kernel) (by decide +kernel)) (gt_at 1029 (by decide +kernel) (by decide +kernel)) (gt_at 86 (by decide +kernel) (by decide +kernel)) (gt_at 1030 (by decide +kernel) (by decide +kernel))) (by decide +kernel) rfl (c7_in l h0) ⟨rfl, rfl⟩ hRm hf hl rfl hW hdg) kk
/-! FourTenGatesModel.write(I)I -/
abbrev rm7_write : Room := { frames := 1, cells := 0, slots := 0, locals := 25 }
theorem d7_write_0 : decode cX7_write 0 = .ok (.iload_n 1, 1) := by decide +kernel
theorem d7_write_1 : decode cX7_write 1 = .ok (.i2l, 1) := by decide +kernel
theorem d7_write_2 : decode cX7_write 2 = .ok (.ldc2_w 109, 3) := by decide +kernel
theorem d7_write_5 : decode cX7_write 5 = .ok (.ldc2_w 111, 3) := by decide +kernel
theorem d7_write_8 : decode cX7_write 8 = .ok (.invokestatic 113, 3) := by decide +kernel
theorem d7_write_11 : decode cX7_write 11 = .ok (.ifCond .ne 5, 3) := by decide +kernel
theorem d7_write_14 : decode cX7_write 14 = .ok (.iconst (-1), 1) := by decide +kernel
theorem d7_write_15 : decode cX7_write 15 = .ok (.ireturn, 1) := by decide +kernel
theorem d7_write_16 : decode cX7_write 16 = .ok (.aload_n 0, 1) := by decide +kernel
theorem d7_write_17 : decode cX7_write 17 = .ok (.getfield 117, 3) := by decide +kernel
theorem d7_write_20 : decode cX7_write 20 = .ok (.sipush 200, 3) := by decide +kernel
theorem d7_write_23 : decode cX7_write 23 = .ok (.if_icmp .ne 6, 3) := by decide +kernel
theorem d7_write_26 : decode cX7_write 26 = .ok (.bipush (-3), 2) := by decide +kernel
theorem d7_write_28 : decode cX7_write 28 = .ok (.ireturn, 1) := by decide +kernel
theorem d7_write_29 : decode cX7_write 29 = .ok (.aload_n 0, 1) := by decide +kernel
theorem d7_write_30 : decode cX7_write 30 = .ok (.getfield 7, 3) := by decide +kernel
theorem d7_write_33 : decode cX7_write 33 = .ok (.aload_n 0, 1) := by decide +kernel
theorem d7_write_34 : decode cX7_write 34 = .ok (.getfield 117, 3) := by decide +kernel
theorem d7_write_37 : decode cX7_write 37 = .ok (.iload_n 1, 1) := by decide +kernel
theorem d7_write_38 : decode cX7_write 38 = .ok (.iastore, 1) := by decide +kernel
theorem d7_write_39 : decode cX7_write 39 = .ok (.aload_n 0, 1) := by decide +kernel
theorem d7_write_40 : decode cX7_write 40 = .ok (.dup, 1) := by decide +kernel
theorem d7_write_41 : decode cX7_write 41 = .ok (.getfield 117, 3) := by decide +kernel
theorem d7_write_44 : decode cX7_write 44 = .ok (.iconst 1, 1) := by decide +kernel
theorem d7_write_45 : decode cX7_write 45 = .ok (.iadd, 1) := by decide +kernel
theorem d7_write_46 : decode cX7_write 46 = .ok (.putfield 117, 3) := by decide +kernel
theorem d7_write_49 : decode cX7_write 49 = .ok (.aload_n 0, 1) := by decide +kernel
theorem d7_write_50 : decode cX7_write 50 = .ok (.getfield 117, 3) := by decide +kernel
theorem d7_write_53 : decode cX7_write 53 = .ok (.ireturn, 1) := by decide +kernel
def f7_write (σ : Mem) (x1 : Int32) : Option (Mem × Int32) := Option.bind (f7_in x1.toInt64 (32 : Int64) (126 : Int64)) fun r1 => if r1 = 0 then some (σ, (-1)) else if (σ 0 0) = 200 then some (σ, (-3)) else if ¬ (σ 0 0 < 0 ∨ 200 ≤ (σ 0 0).toNatClampNeg) then (bm (mu σ 2 ((σ 0 0).toNatClampNeg) x1) fun σ5 => bm (mu σ5 0 0 ((σ5 0 0) + 1)) fun σ6 => some (σ6, σ6 0 0)) else none
set_option maxHeartbeats 4000000 in
set_option maxRecDepth 100000 in
theorem c7_write (l : Launch) {w : WV} {σ : Mem} {x1 : Int32} {σ' : Mem} {r : Int32} (h0 : f7_write σ x1 = some (σ', r)) : Met l yX7_write (wy yX7_write cX7_write 2 (some .int)) rm7_write (Pw EM LM w [.ref (w.2.2 0), .int x1] σ) (Qw EM LM w σ' (some (.int r))) 0 0 (AW LM w) := by
  refine mk_met (by decide) (Nat.le_of_ble_eq_true rfl) ?_
  intro p e s m below meth c S hr hlk hK hR ls hl
  obtain ⟨hx, hb, hml, hown, hts⟩ := id S
  have hl : lv_has ls 2 [(0, .ref (w.2.2 0)), (1, .int x1)] := hl
  have hS : va_S (AW LM w) s.heap s.heap [] := va_S.rf
  unfold f7_write at h0
  refine lv_iload_n hx hb d7_write_0 rfl (lv_at hl 1 rfl) ?_
  refine lv_i2l hx hb d7_write_1 rfl ?_
  refine lv_ldc2 (v := 32) hx hb hown (hts _ (gt_at 1026 (by decide +kernel) (by decide +kernel))) d7_write_2 ?_
  refine lv_ldc2 (v := 126) hx hb hown (hts _ (gt_at 1027 (by decide +kernel) (by decide +kernel))) d7_write_5 ?_
  obtain ⟨r1, hr1, h0⟩ := og_b h0
  refine k7_113 S  hr1 ⟨Nat.zero_le _, Nat.zero_le _⟩ ⟨Nat.le_of_ble_eq_true rfl, Nat.le_of_ble_eq_true rfl⟩ hl.1 (Nat.le_of_ble_eq_true rfl) d7_write_8 ?_
  refine lv_if_ne (tgt := 16) hx hb d7_write_11 (by decide) (fun hc2 => ?_) (fun hc2 => ?_)
  · have h0 := og_f hc2 h0
    refine lv_aload_n hx hb d7_write_16 rfl (lv_at hl 0 rfl) ?_
    refine g7_117 S hK hR d7_write_17 ?_
    refine lv_sipush (v := 200) hx hb d7_write_20 (by decide) ?_
    refine lv_icmp_ne (tgt := 29) hx hb d7_write_23 (by decide) (fun hc3 => ?_) (fun hc3 => ?_)
    · have h0 := og_f hc3 h0
      refine lv_aload_n hx hb d7_write_29 rfl (lv_at hl 0 rfl) ?_
      refine g7_7 S hK hR d7_write_30 ?_
      refine lv_aload_n hx hb d7_write_33 rfl (lv_at hl 0 rfl) ?_
      refine g7_117 S hK hR d7_write_34 ?_
      refine lv_iload_n hx hb d7_write_37 rfl (lv_at hl 1 rfl) ?_
      obtain ⟨hi4, h0⟩ := og_if h0
      obtain ⟨σ5, hm5, h0⟩ := og_m h0
      refine q_st S hK hR hS (by decide) (eM_101 w) hi4 rfl hm5 d7_write_38 (fun H locs hR hS => ?_)
      refine lv_aload_n hx hb d7_write_39 rfl (lv_at hl 0 rfl) ?_
      refine lv_dup hx hb d7_write_40 rfl ?_
      refine g7_117 S hK hR d7_write_41 ?_
      refine lv_iconst (v := 1) hx hb d7_write_44 (by decide) ?_
      refine lv_iadd hx hb d7_write_45 ?_
      obtain ⟨σ6, hm6, h0⟩ := og_m h0
      refine u7_117 S hK hR hS hm6 d7_write_46 (fun H locs hR hS => ?_)
      refine lv_aload_n hx hb d7_write_49 rfl (lv_at hl 0 rfl) ?_
      refine g7_117 S hK hR d7_write_50 ?_
      exact q_iret S hr hlk hR hS h0 d7_write_53
    · have h0 := og_t hc3 h0
      refine lv_bipush (v := (-3)) hx hb d7_write_26 (by decide) ?_
      exact q_iret S hr hlk hR hS h0 d7_write_28
  · have h0 := og_t hc2 h0
    refine lv_iconst (v := (-1)) hx hb d7_write_14 (by decide) ?_
    exact q_iret S hr hlk hR hS h0 d7_write_15
/-! FourTenGatesModel.wipe()I -/
abbrev rm7_wipe : Room := { frames := 0, cells := 0, slots := 0, locals := 0 }
theorem d7_wipe_0 : decode cX7_wipe 0 = .ok (.aload_n 0, 1) := by decide +kernel
theorem d7_wipe_1 : decode cX7_wipe 1 = .ok (.getfield 117, 3) := by decide +kernel
theorem d7_wipe_4 : decode cX7_wipe 4 = .ok (.istore_n 1, 1) := by decide +kernel
theorem d7_wipe_5 : decode cX7_wipe 5 = .ok (.aload_n 0, 1) := by decide +kernel
theorem d7_wipe_6 : decode cX7_wipe 6 = .ok (.iconst 0, 1) := by decide +kernel
theorem d7_wipe_7 : decode cX7_wipe 7 = .ok (.putfield 117, 3) := by decide +kernel
theorem d7_wipe_10 : decode cX7_wipe 10 = .ok (.iload_n 1, 1) := by decide +kernel
theorem d7_wipe_11 : decode cX7_wipe 11 = .ok (.ireturn, 1) := by decide +kernel
def f7_wipe (σ : Mem) : Option (Mem × Int32) := bm (mu σ 0 0 0) fun σ1 => some (σ1, σ 0 0)
set_option maxHeartbeats 4000000 in
set_option maxRecDepth 100000 in
theorem c7_wipe (l : Launch) {w : WV} {σ : Mem} {σ' : Mem} {r : Int32} (h0 : f7_wipe σ = some (σ', r)) : Met l yX7_wipe (wy yX7_wipe cX7_wipe 2 (some .int)) rm7_wipe (Pw EM LM w [.ref (w.2.2 0)] σ) (Qw EM LM w σ' (some (.int r))) 0 0 (AW LM w) := by
  refine mk_met (by decide) (Nat.le_of_ble_eq_true rfl) ?_
  intro p e s m below meth c S hr hlk hK hR ls hl
  obtain ⟨hx, hb, hml, hown, hts⟩ := id S
  have hl : lv_has ls 2 [(0, .ref (w.2.2 0))] := hl
  have hS : va_S (AW LM w) s.heap s.heap [] := va_S.rf
  unfold f7_wipe at h0
  refine lv_aload_n hx hb d7_wipe_0 rfl (lv_at hl 0 rfl) ?_
  refine g7_117 S hK hR d7_wipe_1 ?_
  refine lv_istore_n (lv' := [(1, .int (σ 0 0)), (0, .ref (w.2.2 0))]) hx hb d7_wipe_4 rfl hl (by decide) rfl (fun ls hl => ?_)
  refine lv_aload_n hx hb d7_wipe_5 rfl (lv_at hl 1 rfl) ?_
  refine lv_iconst (v := 0) hx hb d7_wipe_6 (by decide) ?_
  obtain ⟨σ1, hm1, h0⟩ := og_m h0
  refine u7_117 S hK hR hS hm1 d7_wipe_7 (fun H locs hR hS => ?_)
  refine lv_iload_n hx hb d7_wipe_10 rfl (lv_at hl 0 rfl) ?_
  exact q_iret S hr hlk hR hS h0 d7_wipe_11
/-! FourTenGatesModel.letterAt(I)I -/
abbrev rm7_letterAt : Room := { frames := 0, cells := 0, slots := 0, locals := 0 }
theorem d7_letterAt_0 : decode cX7_letterAt 0 = .ok (.iload_n 1, 1) := by decide +kernel
theorem d7_letterAt_1 : decode cX7_letterAt 1 = .ok (.aload_n 0, 1) := by decide +kernel
theorem d7_letterAt_2 : decode cX7_letterAt 2 = .ok (.getfield 117, 3) := by decide +kernel
theorem d7_letterAt_5 : decode cX7_letterAt 5 = .ok (.if_icmp .ge 12, 3) := by decide +kernel
theorem d7_letterAt_8 : decode cX7_letterAt 8 = .ok (.aload_n 0, 1) := by decide +kernel
theorem d7_letterAt_9 : decode cX7_letterAt 9 = .ok (.getfield 7, 3) := by decide +kernel
theorem d7_letterAt_12 : decode cX7_letterAt 12 = .ok (.iload_n 1, 1) := by decide +kernel
theorem d7_letterAt_13 : decode cX7_letterAt 13 = .ok (.iaload, 1) := by decide +kernel
theorem d7_letterAt_14 : decode cX7_letterAt 14 = .ok (.goto 4, 3) := by decide +kernel
theorem d7_letterAt_17 : decode cX7_letterAt 17 = .ok (.iconst 0, 1) := by decide +kernel
theorem d7_letterAt_18 : decode cX7_letterAt 18 = .ok (.ireturn, 1) := by decide +kernel
def f7_letterAt (σ : Mem) (x1 : Int32) : Option Int32 := if (σ 0 0) ≤ x1 then some 0 else if ¬ (x1 < 0 ∨ 200 ≤ x1.toNatClampNeg) then some (σ 2 x1.toNatClampNeg) else none
set_option maxHeartbeats 4000000 in
set_option maxRecDepth 100000 in
theorem c7_letterAt (l : Launch) {w : WV} {σ : Mem} {x1 : Int32} {r : Int32} (h0 : f7_letterAt σ x1 = some r) : Met l yX7_letterAt (wy yX7_letterAt cX7_letterAt 2 (some .int)) rm7_letterAt (Pw EM LM w [.ref (w.2.2 0), .int x1] σ) (Qp (.int r)) 0 0 (fun _ => False) := by
  refine mk_met (by decide) (Nat.le_of_ble_eq_true rfl) ?_
  intro p e s m below meth c S hr hlk hK hR ls hl
  obtain ⟨hx, hb, hml, hown, hts⟩ := id S
  have hl : lv_has ls 2 [(0, .ref (w.2.2 0)), (1, .int x1)] := hl
  unfold f7_letterAt at h0
  refine lv_iload_n hx hb d7_letterAt_0 rfl (lv_at hl 1 rfl) ?_
  refine lv_aload_n hx hb d7_letterAt_1 rfl (lv_at hl 0 rfl) ?_
  refine g7_117 S hK hR d7_letterAt_2 ?_
  refine lv_icmp_ge (tgt := 17) hx hb d7_letterAt_5 (by decide) (fun hc1 => ?_) (fun hc1 => ?_)
  · have h0 := og_t hc1 h0
    refine lv_iconst (v := 0) hx hb d7_letterAt_17 (by decide) ?_
    exact q_ipure S hr hlk h0 d7_letterAt_18
  · have h0 := og_f hc1 h0
    refine lv_aload_n hx hb d7_letterAt_8 rfl (lv_at hl 0 rfl) ?_
    refine g7_7 S hK hR d7_letterAt_9 ?_
    refine lv_iload_n hx hb d7_letterAt_12 rfl (lv_at hl 1 rfl) ?_
    obtain ⟨hi2, h0⟩ := og_if h0
    refine q_ld (k := x1.toNatClampNeg) S hK hR (by decide) (eM_101 w _) hi2 rfl d7_letterAt_13 ?_
    refine lv_goto (tgt := 18) hx hb d7_letterAt_14 (by decide) ?_
    exact q_ipure S hr hlk h0 d7_letterAt_18
set_option maxHeartbeats 4000000 in
set_option maxRecDepth 100000 in
theorem k7_124 {p : Program} {l : Launch} {e : Env} {R : Room} {s : State} {m : MethodId} {args : Array Value} {below : List Frame} {meth : Method} {c : Code} {H : Heap} {locs : List Loc} {cells slots : Nat} {Q : State → Prop} {cc : ByteArray} {pc nL : Nat} {ls : Array Slot} {rest : List Value} {w : WV} {σ : Mem} {x1 : Int32} {r : Int32} (S : CallFix p m c cc nL s args gtbl RX7) (hK : KS LM w s) (hR : Rp EM LM w σ H) (h0 : f7_letterAt σ x1 = some r) (hf : cells + 0 ≤ R.cells ∧ slots + 0 ≤ R.slots) (hRm : rm7_letterAt.frames + 1 ≤ R.frames ∧ 8 + (2 + 11) + rm7_letterAt.locals ≤ R.locals) (hl : ls.size = nL) (hW : (rest.map fun v => v.category).sum ≤ 8) (hdg : decode cc pc = .ok (.invokevirtual 124, 3)) (kk : W p l e R s m args below meth c H locs cells slots Q (F0 m (pc + 3) ls (.int r :: rest))) : W p l e R s m args below meth c H locs cells slots Q (F0 m pc ls (.int x1 :: .ref (w.2.2 0) :: rest)) := r_endp (run_V (n := 1) (As := [.int x1]) S hK hR (by decide) (eM_7 w _) rfl (gw_V (gt_at 1047 (by decide +kernel) (by decide +kernel)) (gt_at 1049 (by decide +kernel) (by decide +kernel)) (gt_at 44 (by decide +kernel) (by decide +kernel)) (gt_at 86 (by decide +kernel) (by decide +kernel)) (gt_at 1050 (by decide +kernel) (by decide +kernel))) (by decide +kernel) rfl (c7_letterAt l h0) ⟨rfl, rfl⟩ hRm hf hl rfl hW hdg) kk
/-! FourTenGatesModel.figures(I)Z -/
abbrev rm7_figures : Room := { frames := 1, cells := 0, slots := 0, locals := 25 }
theorem d7_figures_0 : decode cX7_figures 0 = .ok (.iconst 0, 1) := by decide +kernel
theorem d7_figures_1 : decode cX7_figures 1 = .ok (.istore_n 2, 1) := by decide +kernel
theorem d7_figures_2 : decode cX7_figures 2 = .ok (.iload_n 2, 1) := by decide +kernel
theorem d7_figures_3 : decode cX7_figures 3 = .ok (.iload_n 1, 1) := by decide +kernel
theorem d7_figures_4 : decode cX7_figures 4 = .ok (.if_icmp .ge 132, 3) := by decide +kernel
theorem d7_figures_7 : decode cX7_figures 7 = .ok (.iconst 0, 1) := by decide +kernel
theorem d7_figures_8 : decode cX7_figures 8 = .ok (.istore_n 3, 1) := by decide +kernel
theorem d7_figures_9 : decode cX7_figures 9 = .ok (.iconst 0, 1) := by decide +kernel
theorem d7_figures_10 : decode cX7_figures 10 = .ok (.istore 4, 2) := by decide +kernel
theorem d7_figures_12 : decode cX7_figures 12 = .ok (.aload_n 0, 1) := by decide +kernel
theorem d7_figures_13 : decode cX7_figures 13 = .ok (.aload_n 0, 1) := by decide +kernel
theorem d7_figures_14 : decode cX7_figures 14 = .ok (.getfield 121, 3) := by decide +kernel
theorem d7_figures_17 : decode cX7_figures 17 = .ok (.invokevirtual 124, 3) := by decide +kernel
theorem d7_figures_20 : decode cX7_figures 20 = .ok (.i2l, 1) := by decide +kernel
theorem d7_figures_21 : decode cX7_figures 21 = .ok (.ldc2_w 128, 3) := by decide +kernel
theorem d7_figures_24 : decode cX7_figures 24 = .ok (.ldc2_w 130, 3) := by decide +kernel
theorem d7_figures_27 : decode cX7_figures 27 = .ok (.invokestatic 113, 3) := by decide +kernel
theorem d7_figures_30 : decode cX7_figures 30 = .ok (.ifCond .eq 43, 3) := by decide +kernel
theorem d7_figures_33 : decode cX7_figures 33 = .ok (.iload_n 3, 1) := by decide +kernel
theorem d7_figures_34 : decode cX7_figures 34 = .ok (.iconst 3, 1) := by decide +kernel
theorem d7_figures_35 : decode cX7_figures 35 = .ok (.if_icmp .ge 38, 3) := by decide +kernel
theorem d7_figures_38 : decode cX7_figures 38 = .ok (.bipush 10, 2) := by decide +kernel
theorem d7_figures_40 : decode cX7_figures 40 = .ok (.iload 4, 2) := by decide +kernel
theorem d7_figures_42 : decode cX7_figures 42 = .ok (.imul, 1) := by decide +kernel
theorem d7_figures_43 : decode cX7_figures 43 = .ok (.aload_n 0, 1) := by decide +kernel
theorem d7_figures_44 : decode cX7_figures 44 = .ok (.aload_n 0, 1) := by decide +kernel
theorem d7_figures_45 : decode cX7_figures 45 = .ok (.getfield 121, 3) := by decide +kernel
theorem d7_figures_48 : decode cX7_figures 48 = .ok (.invokevirtual 124, 3) := by decide +kernel
theorem d7_figures_51 : decode cX7_figures 51 = .ok (.iadd, 1) := by decide +kernel
theorem d7_figures_52 : decode cX7_figures 52 = .ok (.bipush 48, 2) := by decide +kernel
theorem d7_figures_54 : decode cX7_figures 54 = .ok (.isub, 1) := by decide +kernel
theorem d7_figures_55 : decode cX7_figures 55 = .ok (.istore 4, 2) := by decide +kernel
theorem d7_figures_57 : decode cX7_figures 57 = .ok (.iinc 3 1, 3) := by decide +kernel
theorem d7_figures_60 : decode cX7_figures 60 = .ok (.aload_n 0, 1) := by decide +kernel
theorem d7_figures_61 : decode cX7_figures 61 = .ok (.dup, 1) := by decide +kernel
theorem d7_figures_62 : decode cX7_figures 62 = .ok (.getfield 121, 3) := by decide +kernel
theorem d7_figures_65 : decode cX7_figures 65 = .ok (.iconst 1, 1) := by decide +kernel
theorem d7_figures_66 : decode cX7_figures 66 = .ok (.iadd, 1) := by decide +kernel
theorem d7_figures_67 : decode cX7_figures 67 = .ok (.putfield 121, 3) := by decide +kernel
theorem d7_figures_70 : decode cX7_figures 70 = .ok (.goto (-58), 3) := by decide +kernel
theorem d7_figures_73 : decode cX7_figures 73 = .ok (.iload_n 3, 1) := by decide +kernel
theorem d7_figures_74 : decode cX7_figures 74 = .ok (.i2l, 1) := by decide +kernel
theorem d7_figures_75 : decode cX7_figures 75 = .ok (.lconst 1, 1) := by decide +kernel
theorem d7_figures_76 : decode cX7_figures 76 = .ok (.ldc2_w 132, 3) := by decide +kernel
theorem d7_figures_79 : decode cX7_figures 79 = .ok (.invokestatic 113, 3) := by decide +kernel
theorem d7_figures_82 : decode cX7_figures 82 = .ok (.ifCond .eq 28, 3) := by decide +kernel
theorem d7_figures_85 : decode cX7_figures 85 = .ok (.aload_n 0, 1) := by decide +kernel
theorem d7_figures_86 : decode cX7_figures 86 = .ok (.aload_n 0, 1) := by decide +kernel
theorem d7_figures_87 : decode cX7_figures 87 = .ok (.getfield 121, 3) := by decide +kernel
theorem d7_figures_90 : decode cX7_figures 90 = .ok (.invokevirtual 124, 3) := by decide +kernel
theorem d7_figures_93 : decode cX7_figures 93 = .ok (.iload_n 2, 1) := by decide +kernel
theorem d7_figures_94 : decode cX7_figures 94 = .ok (.iload_n 1, 1) := by decide +kernel
theorem d7_figures_95 : decode cX7_figures 95 = .ok (.iconst 1, 1) := by decide +kernel
theorem d7_figures_96 : decode cX7_figures 96 = .ok (.isub, 1) := by decide +kernel
theorem d7_figures_97 : decode cX7_figures 97 = .ok (.if_icmp .ge 8, 3) := by decide +kernel
theorem d7_figures_100 : decode cX7_figures 100 = .ok (.bipush 44, 2) := by decide +kernel
theorem d7_figures_102 : decode cX7_figures 102 = .ok (.goto 5, 3) := by decide +kernel
theorem d7_figures_105 : decode cX7_figures 105 = .ok (.bipush 59, 2) := by decide +kernel
theorem d7_figures_107 : decode cX7_figures 107 = .ok (.if_icmp .eq 5, 3) := by decide +kernel
theorem d7_figures_110 : decode cX7_figures 110 = .ok (.iconst 0, 1) := by decide +kernel
theorem d7_figures_111 : decode cX7_figures 111 = .ok (.ireturn, 1) := by decide +kernel
theorem d7_figures_112 : decode cX7_figures 112 = .ok (.aload_n 0, 1) := by decide +kernel
theorem d7_figures_113 : decode cX7_figures 113 = .ok (.getfield 70, 3) := by decide +kernel
theorem d7_figures_116 : decode cX7_figures 116 = .ok (.iload_n 2, 1) := by decide +kernel
theorem d7_figures_117 : decode cX7_figures 117 = .ok (.iload 4, 2) := by decide +kernel
theorem d7_figures_119 : decode cX7_figures 119 = .ok (.iastore, 1) := by decide +kernel
theorem d7_figures_120 : decode cX7_figures 120 = .ok (.aload_n 0, 1) := by decide +kernel
theorem d7_figures_121 : decode cX7_figures 121 = .ok (.dup, 1) := by decide +kernel
theorem d7_figures_122 : decode cX7_figures 122 = .ok (.getfield 121, 3) := by decide +kernel
theorem d7_figures_125 : decode cX7_figures 125 = .ok (.iconst 1, 1) := by decide +kernel
theorem d7_figures_126 : decode cX7_figures 126 = .ok (.iadd, 1) := by decide +kernel
theorem d7_figures_127 : decode cX7_figures 127 = .ok (.putfield 121, 3) := by decide +kernel
theorem d7_figures_130 : decode cX7_figures 130 = .ok (.iinc 2 1, 3) := by decide +kernel
theorem d7_figures_133 : decode cX7_figures 133 = .ok (.goto (-131), 3) := by decide +kernel
theorem d7_figures_136 : decode cX7_figures 136 = .ok (.iconst 1, 1) := by decide +kernel
theorem d7_figures_137 : decode cX7_figures 137 = .ok (.ireturn, 1) := by decide +kernel
def f7_figures_b107 (k2 : Mem → Int32 → Int32 → Option (Mem × Int32)) (σ : Mem) (x1 : Int32) (x2 : Int32) (x4 : Int32) (s0 : Int32) (s1 : Int32) : Option (Mem × Int32) := if s0 = s1 then if ¬ (x2 < 0 ∨ 2 ≤ x2.toNatClampNeg) then (bm (mu σ 26 x2.toNatClampNeg x4) fun σ3 => bm (mu σ3 0 24 ((σ3 0 24) + 1)) fun σ4 => k2 σ4 x1 (x2 + 1)) else none else some (σ, 0)
set_option maxHeartbeats 4000000 in
set_option maxRecDepth 100000 in
theorem t7_figures_b107 {p : Program} {l : Launch} {e : Env} {s : State} {m : MethodId} {args : Array Value} {below : List Frame} {meth : Method} {c : Code} {w : WV} {σ' : Mem} {r : Int32} {k2 : Mem → Int32 → Int32 → Option (Mem × Int32)} (S : CallFix p m c cX7_figures 5 s args gtbl RX7) (hr : meth.sig.returnType = (some .boolean)) (hlk : meth.locks = false) (hK : KS LM w s) (hk2 : ∀ (σ : Mem) (x1 : Int32) (x2 : Int32), k2 σ x1 x2 = some (σ', r) → ∀ (H : Heap) (locs : List Loc), Rp EM LM w σ H → va_S (AW LM w) s.heap H locs → ∀ (ls : Array Slot), lv_has ls 5 [(0, .ref (w.2.2 0)), (1, .int x1), (2, .int x2)] → W p l e rm7_figures s m args below meth c H locs 0 0 (MQ below (Qw EM LM w σ' (some (.int r))) args s 0 0 (AW LM w)) (F0 m 2 ls [])) : ∀ (σ : Mem) (x1 : Int32) (x2 : Int32) (x4 : Int32) (s0 : Int32) (s1 : Int32), f7_figures_b107 k2 σ x1 x2 x4 s0 s1 = some (σ', r) → ∀ (H : Heap) (locs : List Loc), Rp EM LM w σ H → va_S (AW LM w) s.heap H locs → ∀ (ls : Array Slot), lv_has ls 5 [(0, .ref (w.2.2 0)), (1, .int x1), (2, .int x2), (4, .int x4)] → W p l e rm7_figures s m args below meth c H locs 0 0 (MQ below (Qw EM LM w σ' (some (.int r))) args s 0 0 (AW LM w)) (F0 m 107 ls [.int s1, .int s0]) := by
  obtain ⟨hx, hb, hml, hown, hts⟩ := id S
  intro σ x1 x2 x4 s0 s1 h0 H locs hR hS ls hl
  unfold f7_figures_b107 at h0
  refine lv_icmp_eq (tgt := 112) hx hb d7_figures_107 (by decide) (fun hc1 => ?_) (fun hc1 => ?_)
  · have h0 := og_t hc1 h0
    refine lv_aload_n hx hb d7_figures_112 rfl (lv_at hl 0 rfl) ?_
    refine g7_70 S hK hR d7_figures_113 ?_
    refine lv_iload_n hx hb d7_figures_116 rfl (lv_at hl 2 rfl) ?_
    refine lv_iload hx hb d7_figures_117 (lv_at hl 3 rfl) ?_
    obtain ⟨hi2, h0⟩ := og_if h0
    obtain ⟨σ3, hm3, h0⟩ := og_m h0
    refine q_st S hK hR hS (by decide) (eM_125 w) hi2 rfl hm3 d7_figures_119 (fun H locs hR hS => ?_)
    refine lv_aload_n hx hb d7_figures_120 rfl (lv_at hl 0 rfl) ?_
    refine lv_dup hx hb d7_figures_121 rfl ?_
    refine g7_121 S hK hR d7_figures_122 ?_
    refine lv_iconst (v := 1) hx hb d7_figures_125 (by decide) ?_
    refine lv_iadd hx hb d7_figures_126 ?_
    obtain ⟨σ4, hm4, h0⟩ := og_m h0
    refine u7_121 S hK hR hS hm4 d7_figures_127 (fun H locs hR hS => ?_)
    refine lv_iinc (v := x2 + 1) (lv' := [(2, .int (x2 + 1)), (0, .ref (w.2.2 0)), (1, .int x1), (4, .int x4)]) hx hb d7_figures_130 hl (k := 2) rfl (ii1 _) (by decide) rfl (fun ls hl => ?_)
    refine lv_goto (tgt := 2) hx hb d7_figures_133 (by decide) ?_
    exact hk2 σ4 x1 (x2 + 1) h0 _ _ hR hS _ (lv_sub hl [1, 2, 0] rfl)
  · have h0 := og_f hc1 h0
    refine lv_iconst (v := 0) hx hb d7_figures_110 (by decide) ?_
    exact q_zret S hr hlk hR hS (Or.inl rfl) h0 d7_figures_111
def f7_figures_b73 (k2 : Mem → Int32 → Int32 → Option (Mem × Int32)) (σ : Mem) (x1 : Int32) (x2 : Int32) (x3 : Int32) (x4 : Int32) : Option (Mem × Int32) := Option.bind (f7_in x3.toInt64 (1 : Int64) (2 : Int64)) fun r1 => if r1 = 0 then some (σ, 0) else Option.bind (f7_letterAt σ (σ 0 24)) fun r3 => if (x1 - 1) ≤ x2 then f7_figures_b107 k2 σ x1 x2 x4 r3 59 else f7_figures_b107 k2 σ x1 x2 x4 r3 44
set_option maxHeartbeats 4000000 in
set_option maxRecDepth 100000 in
theorem t7_figures_b73 {p : Program} {l : Launch} {e : Env} {s : State} {m : MethodId} {args : Array Value} {below : List Frame} {meth : Method} {c : Code} {w : WV} {σ' : Mem} {r : Int32} {k2 : Mem → Int32 → Int32 → Option (Mem × Int32)} (S : CallFix p m c cX7_figures 5 s args gtbl RX7) (hr : meth.sig.returnType = (some .boolean)) (hlk : meth.locks = false) (hK : KS LM w s) (hk2 : ∀ (σ : Mem) (x1 : Int32) (x2 : Int32), k2 σ x1 x2 = some (σ', r) → ∀ (H : Heap) (locs : List Loc), Rp EM LM w σ H → va_S (AW LM w) s.heap H locs → ∀ (ls : Array Slot), lv_has ls 5 [(0, .ref (w.2.2 0)), (1, .int x1), (2, .int x2)] → W p l e rm7_figures s m args below meth c H locs 0 0 (MQ below (Qw EM LM w σ' (some (.int r))) args s 0 0 (AW LM w)) (F0 m 2 ls [])) : ∀ (σ : Mem) (x1 : Int32) (x2 : Int32) (x3 : Int32) (x4 : Int32), f7_figures_b73 k2 σ x1 x2 x3 x4 = some (σ', r) → ∀ (H : Heap) (locs : List Loc), Rp EM LM w σ H → va_S (AW LM w) s.heap H locs → ∀ (ls : Array Slot), lv_has ls 5 [(0, .ref (w.2.2 0)), (1, .int x1), (2, .int x2), (3, .int x3), (4, .int x4)] → W p l e rm7_figures s m args below meth c H locs 0 0 (MQ below (Qw EM LM w σ' (some (.int r))) args s 0 0 (AW LM w)) (F0 m 73 ls []) := by
  obtain ⟨hx, hb, hml, hown, hts⟩ := id S
  intro σ x1 x2 x3 x4 h0 H locs hR hS ls hl
  unfold f7_figures_b73 at h0
  refine lv_iload_n hx hb d7_figures_73 rfl (lv_at hl 3 rfl) ?_
  refine lv_i2l hx hb d7_figures_74 rfl ?_
  refine lv_lconst (v := 1) hx hb d7_figures_75 (by decide) ?_
  refine lv_ldc2 (v := 2) hx hb hown (hts _ (gt_at 1057 (by decide +kernel) (by decide +kernel))) d7_figures_76 ?_
  obtain ⟨r1, hr1, h0⟩ := og_b h0
  refine k7_113 S  hr1 ⟨Nat.zero_le _, Nat.zero_le _⟩ ⟨Nat.le_of_ble_eq_true rfl, Nat.le_of_ble_eq_true rfl⟩ hl.1 (Nat.le_of_ble_eq_true rfl) d7_figures_79 ?_
  refine lv_if_eq (tgt := 110) hx hb d7_figures_82 (by decide) (fun hc2 => ?_) (fun hc2 => ?_)
  · have h0 := og_t hc2 h0
    refine lv_iconst (v := 0) hx hb d7_figures_110 (by decide) ?_
    exact q_zret S hr hlk hR hS (Or.inl rfl) h0 d7_figures_111
  · have h0 := og_f hc2 h0
    refine lv_aload_n hx hb d7_figures_85 rfl (lv_at hl 0 rfl) ?_
    refine lv_aload_n hx hb d7_figures_86 rfl (lv_at hl 0 rfl) ?_
    refine g7_121 S hK hR d7_figures_87 ?_
    obtain ⟨r3, hr3, h0⟩ := og_b h0
    refine k7_124 S hK hR  hr3 ⟨Nat.zero_le _, Nat.zero_le _⟩ ⟨Nat.le_of_ble_eq_true rfl, Nat.le_of_ble_eq_true rfl⟩ hl.1 (Nat.le_of_ble_eq_true rfl) d7_figures_90 ?_
    refine lv_iload_n hx hb d7_figures_93 rfl (lv_at hl 2 rfl) ?_
    refine lv_iload_n hx hb d7_figures_94 rfl (lv_at hl 1 rfl) ?_
    refine lv_iconst (v := 1) hx hb d7_figures_95 (by decide) ?_
    refine lv_isub hx hb d7_figures_96 ?_
    refine lv_icmp_ge (tgt := 105) hx hb d7_figures_97 (by decide) (fun hc4 => ?_) (fun hc4 => ?_)
    · have h0 := og_t hc4 h0
      refine lv_bipush (v := 59) hx hb d7_figures_105 (by decide) ?_
      exact t7_figures_b107 S hr hlk hK hk2 σ x1 x2 x4 r3 59 h0 _ _ hR hS _ (lv_sub hl [0, 1, 2, 4] rfl)
    · have h0 := og_f hc4 h0
      refine lv_bipush (v := 44) hx hb d7_figures_100 (by decide) ?_
      refine lv_goto (tgt := 107) hx hb d7_figures_102 (by decide) ?_
      exact t7_figures_b107 S hr hlk hK hk2 σ x1 x2 x4 r3 44 h0 _ _ hR hS _ (lv_sub hl [0, 1, 2, 4] rfl)
def f7_figures_b12 (k2 : Mem → Int32 → Int32 → Option (Mem × Int32)) : Nat → Mem → Int32 → Int32 → Int32 → Int32 → Option (Mem × Int32)
  | 0, _, _, _, _, _ => none
  | n + 1, σ, x1, x2, x3, x4 => Option.bind (f7_letterAt σ (σ 0 24)) fun r1 => Option.bind (f7_in r1.toInt64 (48 : Int64) (57 : Int64)) fun r2 => if r2 = 0 then f7_figures_b73 k2 σ x1 x2 x3 x4 else if 3 ≤ x3 then f7_figures_b73 k2 σ x1 x2 x3 x4 else Option.bind (f7_letterAt σ (σ 0 24)) fun r5 => bm (mu σ 0 24 ((σ 0 24) + 1)) fun σ6 => f7_figures_b12 k2 n σ6 x1 x2 (x3 + 1) (((10 * x4) + r5) - 48)
set_option maxHeartbeats 4000000 in
set_option maxRecDepth 100000 in
theorem t7_figures_b12 {p : Program} {l : Launch} {e : Env} {s : State} {m : MethodId} {args : Array Value} {below : List Frame} {meth : Method} {c : Code} {w : WV} {σ' : Mem} {r : Int32} {k2 : Mem → Int32 → Int32 → Option (Mem × Int32)} (S : CallFix p m c cX7_figures 5 s args gtbl RX7) (hr : meth.sig.returnType = (some .boolean)) (hlk : meth.locks = false) (hK : KS LM w s) (hk2 : ∀ (σ : Mem) (x1 : Int32) (x2 : Int32), k2 σ x1 x2 = some (σ', r) → ∀ (H : Heap) (locs : List Loc), Rp EM LM w σ H → va_S (AW LM w) s.heap H locs → ∀ (ls : Array Slot), lv_has ls 5 [(0, .ref (w.2.2 0)), (1, .int x1), (2, .int x2)] → W p l e rm7_figures s m args below meth c H locs 0 0 (MQ below (Qw EM LM w σ' (some (.int r))) args s 0 0 (AW LM w)) (F0 m 2 ls [])) : ∀ (n : Nat), ∀ (σ : Mem) (x1 : Int32) (x2 : Int32) (x3 : Int32) (x4 : Int32), f7_figures_b12 k2 n σ x1 x2 x3 x4 = some (σ', r) → ∀ (H : Heap) (locs : List Loc), Rp EM LM w σ H → va_S (AW LM w) s.heap H locs → ∀ (ls : Array Slot), lv_has ls 5 [(0, .ref (w.2.2 0)), (1, .int x1), (2, .int x2), (3, .int x3), (4, .int x4)] → W p l e rm7_figures s m args below meth c H locs 0 0 (MQ below (Qw EM LM w σ' (some (.int r))) args s 0 0 (AW LM w)) (F0 m 12 ls []) := by
  obtain ⟨hx, hb, hml, hown, hts⟩ := id S
  intro n
  induction n with
  | zero =>
    intro σ x1 x2 x3 x4 h0
    cases (show none = _ from h0)
  | succ n ih =>
    intro σ x1 x2 x3 x4 h0 H locs hR hS ls hl
    rw [f7_figures_b12] at h0
    refine lv_aload_n hx hb d7_figures_12 rfl (lv_at hl 0 rfl) ?_
    refine lv_aload_n hx hb d7_figures_13 rfl (lv_at hl 0 rfl) ?_
    refine g7_121 S hK hR d7_figures_14 ?_
    obtain ⟨r1, hr1, h0⟩ := og_b h0
    refine k7_124 S hK hR  hr1 ⟨Nat.zero_le _, Nat.zero_le _⟩ ⟨Nat.le_of_ble_eq_true rfl, Nat.le_of_ble_eq_true rfl⟩ hl.1 (Nat.le_of_ble_eq_true rfl) d7_figures_17 ?_
    refine lv_i2l hx hb d7_figures_20 rfl ?_
    refine lv_ldc2 (v := 48) hx hb hown (hts _ (gt_at 1055 (by decide +kernel) (by decide +kernel))) d7_figures_21 ?_
    refine lv_ldc2 (v := 57) hx hb hown (hts _ (gt_at 1056 (by decide +kernel) (by decide +kernel))) d7_figures_24 ?_
    obtain ⟨r2, hr2, h0⟩ := og_b h0
    refine k7_113 S  hr2 ⟨Nat.zero_le _, Nat.zero_le _⟩ ⟨Nat.le_of_ble_eq_true rfl, Nat.le_of_ble_eq_true rfl⟩ hl.1 (Nat.le_of_ble_eq_true rfl) d7_figures_27 ?_
    refine lv_if_eq (tgt := 73) hx hb d7_figures_30 (by decide) (fun hc3 => ?_) (fun hc3 => ?_)
    · have h0 := og_t hc3 h0
      exact t7_figures_b73 S hr hlk hK hk2 σ x1 x2 x3 x4 h0 _ _ hR hS _ (lv_sub hl [0, 1, 2, 3, 4] rfl)
    · have h0 := og_f hc3 h0
      refine lv_iload_n hx hb d7_figures_33 rfl (lv_at hl 3 rfl) ?_
      refine lv_iconst (v := 3) hx hb d7_figures_34 (by decide) ?_
      refine lv_icmp_ge (tgt := 73) hx hb d7_figures_35 (by decide) (fun hc4 => ?_) (fun hc4 => ?_)
      · have h0 := og_t hc4 h0
        exact t7_figures_b73 S hr hlk hK hk2 σ x1 x2 x3 x4 h0 _ _ hR hS _ (lv_sub hl [0, 1, 2, 3, 4] rfl)
      · have h0 := og_f hc4 h0
        refine lv_bipush (v := 10) hx hb d7_figures_38 (by decide) ?_
        refine lv_iload hx hb d7_figures_40 (lv_at hl 4 rfl) ?_
        refine lv_imul hx hb d7_figures_42 ?_
        refine lv_aload_n hx hb d7_figures_43 rfl (lv_at hl 0 rfl) ?_
        refine lv_aload_n hx hb d7_figures_44 rfl (lv_at hl 0 rfl) ?_
        refine g7_121 S hK hR d7_figures_45 ?_
        obtain ⟨r5, hr5, h0⟩ := og_b h0
        refine k7_124 S hK hR  hr5 ⟨Nat.zero_le _, Nat.zero_le _⟩ ⟨Nat.le_of_ble_eq_true rfl, Nat.le_of_ble_eq_true rfl⟩ hl.1 (Nat.le_of_ble_eq_true rfl) d7_figures_48 ?_
        refine lv_iadd hx hb d7_figures_51 ?_
        refine lv_bipush (v := 48) hx hb d7_figures_52 (by decide) ?_
        refine lv_isub hx hb d7_figures_54 ?_
        refine lv_istore (lv' := [(4, .int (((10 * x4) + r5) - 48)), (0, .ref (w.2.2 0)), (1, .int x1), (2, .int x2), (3, .int x3)]) hx hb d7_figures_55 hl (by decide) rfl (fun ls hl => ?_)
        refine lv_iinc (v := x3 + 1) (lv' := [(3, .int (x3 + 1)), (4, .int (((10 * x4) + r5) - 48)), (0, .ref (w.2.2 0)), (1, .int x1), (2, .int x2)]) hx hb d7_figures_57 hl (k := 4) rfl (ii1 _) (by decide) rfl (fun ls hl => ?_)
        refine lv_aload_n hx hb d7_figures_60 rfl (lv_at hl 2 rfl) ?_
        refine lv_dup hx hb d7_figures_61 rfl ?_
        refine g7_121 S hK hR d7_figures_62 ?_
        refine lv_iconst (v := 1) hx hb d7_figures_65 (by decide) ?_
        refine lv_iadd hx hb d7_figures_66 ?_
        obtain ⟨σ6, hm6, h0⟩ := og_m h0
        refine u7_121 S hK hR hS hm6 d7_figures_67 (fun H locs hR hS => ?_)
        refine lv_goto (tgt := 12) hx hb d7_figures_70 (by decide) ?_
        exact ih σ6 x1 x2 (x3 + 1) (((10 * x4) + r5) - 48) h0 _ _ hR hS _ (lv_sub hl [2, 3, 4, 0, 1] rfl)
def f7_figures_b2 : Nat → Mem → Int32 → Int32 → Option (Mem × Int32)
  | 0, _, _, _ => none
  | n + 1, σ, x1, x2 => if x1 ≤ x2 then some (σ, 1) else f7_figures_b12 (f7_figures_b2 n) 1000 σ x1 x2 0 0
set_option maxHeartbeats 4000000 in
set_option maxRecDepth 100000 in
theorem t7_figures_b2 {p : Program} {l : Launch} {e : Env} {s : State} {m : MethodId} {args : Array Value} {below : List Frame} {meth : Method} {c : Code} {w : WV} {σ' : Mem} {r : Int32} (S : CallFix p m c cX7_figures 5 s args gtbl RX7) (hr : meth.sig.returnType = (some .boolean)) (hlk : meth.locks = false) (hK : KS LM w s) : ∀ (n : Nat), ∀ (σ : Mem) (x1 : Int32) (x2 : Int32), f7_figures_b2  n σ x1 x2 = some (σ', r) → ∀ (H : Heap) (locs : List Loc), Rp EM LM w σ H → va_S (AW LM w) s.heap H locs → ∀ (ls : Array Slot), lv_has ls 5 [(0, .ref (w.2.2 0)), (1, .int x1), (2, .int x2)] → W p l e rm7_figures s m args below meth c H locs 0 0 (MQ below (Qw EM LM w σ' (some (.int r))) args s 0 0 (AW LM w)) (F0 m 2 ls []) := by
  obtain ⟨hx, hb, hml, hown, hts⟩ := id S
  intro n
  induction n with
  | zero =>
    intro σ x1 x2 h0
    cases (show none = _ from h0)
  | succ n ih =>
    intro σ x1 x2 h0 H locs hR hS ls hl
    rw [f7_figures_b2] at h0
    refine lv_iload_n hx hb d7_figures_2 rfl (lv_at hl 2 rfl) ?_
    refine lv_iload_n hx hb d7_figures_3 rfl (lv_at hl 1 rfl) ?_
    refine lv_icmp_ge (tgt := 136) hx hb d7_figures_4 (by decide) (fun hc1 => ?_) (fun hc1 => ?_)
    · have h0 := og_t hc1 h0
      refine lv_iconst (v := 1) hx hb d7_figures_136 (by decide) ?_
      exact q_zret S hr hlk hR hS (Or.inr rfl) h0 d7_figures_137
    · have h0 := og_f hc1 h0
      refine lv_iconst (v := 0) hx hb d7_figures_7 (by decide) ?_
      refine lv_istore_n (lv' := [(3, .int 0), (0, .ref (w.2.2 0)), (1, .int x1), (2, .int x2)]) hx hb d7_figures_8 rfl hl (by decide) rfl (fun ls hl => ?_)
      refine lv_iconst (v := 0) hx hb d7_figures_9 (by decide) ?_
      refine lv_istore (lv' := [(4, .int 0), (3, .int 0), (0, .ref (w.2.2 0)), (1, .int x1), (2, .int x2)]) hx hb d7_figures_10 hl (by decide) rfl (fun ls hl => ?_)
      exact t7_figures_b12 S hr hlk hK ih 1000 σ x1 x2 0 0 h0 _ _ hR hS _ (lv_sub hl [2, 3, 4, 1, 0] rfl)
def f7_figures (σ : Mem) (x1 : Int32) : Option (Mem × Int32) := f7_figures_b2 1000 σ x1 0
set_option maxHeartbeats 4000000 in
set_option maxRecDepth 100000 in
theorem c7_figures (l : Launch) {w : WV} {σ : Mem} {x1 : Int32} {σ' : Mem} {r : Int32} (h0 : f7_figures σ x1 = some (σ', r)) : Met l yX7_figures (wy yX7_figures cX7_figures 5 (some .boolean)) rm7_figures (Pw EM LM w [.ref (w.2.2 0), .int x1] σ) (Qw EM LM w σ' (some (.int r))) 0 0 (AW LM w) := by
  refine mk_met (by decide) (Nat.le_of_ble_eq_true rfl) ?_
  intro p e s m below meth c S hr hlk hK hR ls hl
  obtain ⟨hx, hb, hml, hown, hts⟩ := id S
  have hl : lv_has ls 5 [(0, .ref (w.2.2 0)), (1, .int x1)] := hl
  have hS : va_S (AW LM w) s.heap s.heap [] := va_S.rf
  unfold f7_figures at h0
  refine lv_iconst (v := 0) hx hb d7_figures_0 (by decide) ?_
  refine lv_istore_n (lv' := [(2, .int 0), (0, .ref (w.2.2 0)), (1, .int x1)]) hx hb d7_figures_1 rfl hl (by decide) rfl (fun ls hl => ?_)
  exact t7_figures_b2 S hr hlk hK 1000 σ x1 0 h0 _ _ hR hS _ (lv_sub hl [1, 2, 0] rfl)
set_option maxHeartbeats 4000000 in
set_option maxRecDepth 100000 in
theorem k7_134 {p : Program} {l : Launch} {e : Env} {R : Room} {s : State} {m : MethodId} {args : Array Value} {below : List Frame} {meth : Method} {c : Code} {H : Heap} {locs : List Loc} {cells slots : Nat} {Q : State → Prop} {cc : ByteArray} {pc nL : Nat} {ls : Array Slot} {rest : List Value} {w : WV} {σ : Mem} {x1 : Int32} {σ1 : Mem} {r : Int32} (S : CallFix p m c cc nL s args gtbl RX7) (hK : KS LM w s) (hR : Rp EM LM w σ H) (hS : va_S (AW LM w) s.heap H locs) (h0 : f7_figures σ x1 = some (σ1, r)) (hf : cells + 0 ≤ R.cells ∧ slots + 0 ≤ R.slots) (hRm : rm7_figures.frames + 1 ≤ R.frames ∧ 8 + (5 + 11) + rm7_figures.locals ≤ R.locals) (hl : ls.size = nL) (hW : (rest.map fun v => v.category).sum ≤ 8) (hdg : decode cc pc = .ok (.invokevirtual 134, 3)) (kk : ∀ (H1 : Heap) (locs1 : List Loc), Rp EM LM w σ1 H1 → va_S (AW LM w) s.heap H1 locs1 → W p l e R s m args below meth c H1 locs1 cells slots Q (F0 m (pc + 3) ls (.int r :: rest))) : W p l e R s m args below meth c H locs cells slots Q (F0 m pc ls (.int x1 :: .ref (w.2.2 0) :: rest)) := r_end hS (run_V (n := 1) (As := [.int x1]) S hK hR (by decide) (eM_7 w _) rfl (gw_V (gt_at 1051 (by decide +kernel) (by decide +kernel)) (gt_at 1053 (by decide +kernel) (by decide +kernel)) (gt_at 45 (by decide +kernel) (by decide +kernel)) (gt_at 86 (by decide +kernel) (by decide +kernel)) (gt_at 1054 (by decide +kernel) (by decide +kernel))) (by decide +kernel) rfl (c7_figures l h0) ⟨rfl, rfl⟩ hRm hf hl rfl hW hdg) kk
/-! FourTenGatesModel.setTold(IIII)Z -/
abbrev rm7_setTold : Room := { frames := 1, cells := 0, slots := 0, locals := 25 }
theorem d7_setTold_0 : decode cX7_setTold 0 = .ok (.aload_n 0, 1) := by decide +kernel
theorem d7_setTold_1 : decode cX7_setTold 1 = .ok (.getfield 31, 3) := by decide +kernel
theorem d7_setTold_4 : decode cX7_setTold 4 = .ok (.iconst 4, 1) := by decide +kernel
theorem d7_setTold_5 : decode cX7_setTold 5 = .ok (.iload_n 1, 1) := by decide +kernel
theorem d7_setTold_6 : decode cX7_setTold 6 = .ok (.iadd, 1) := by decide +kernel
theorem d7_setTold_7 : decode cX7_setTold 7 = .ok (.iload_n 2, 1) := by decide +kernel
theorem d7_setTold_8 : decode cX7_setTold 8 = .ok (.iastore, 1) := by decide +kernel
theorem d7_setTold_9 : decode cX7_setTold 9 = .ok (.iload_n 2, 1) := by decide +kernel
theorem d7_setTold_10 : decode cX7_setTold 10 = .ok (.i2l, 1) := by decide +kernel
theorem d7_setTold_11 : decode cX7_setTold 11 = .ok (.iload_n 3, 1) := by decide +kernel
theorem d7_setTold_12 : decode cX7_setTold 12 = .ok (.i2l, 1) := by decide +kernel
theorem d7_setTold_13 : decode cX7_setTold 13 = .ok (.iload 4, 2) := by decide +kernel
theorem d7_setTold_15 : decode cX7_setTold 15 = .ok (.i2l, 1) := by decide +kernel
theorem d7_setTold_16 : decode cX7_setTold 16 = .ok (.invokestatic 113, 3) := by decide +kernel
theorem d7_setTold_19 : decode cX7_setTold 19 = .ok (.ireturn, 1) := by decide +kernel
def f7_setTold (σ : Mem) (x1 : Int32) (x2 : Int32) (x3 : Int32) (x4 : Int32) : Option (Mem × Int32) := if ¬ (4 + x1 < 0 ∨ 8 ≤ (4 + x1).toNatClampNeg) then (bm (mu σ 9 ((4 + x1).toNatClampNeg) x2) fun σ2 => Option.bind (f7_in x2.toInt64 x3.toInt64 x4.toInt64) fun r3 => if r3 = 0 ∨ r3 = 1 then some (σ2, r3) else none) else none
set_option maxHeartbeats 4000000 in
set_option maxRecDepth 100000 in
theorem c7_setTold (l : Launch) {w : WV} {σ : Mem} {x1 : Int32} {x2 : Int32} {x3 : Int32} {x4 : Int32} {σ' : Mem} {r : Int32} (h0 : f7_setTold σ x1 x2 x3 x4 = some (σ', r)) : Met l yX7_setTold (wy yX7_setTold cX7_setTold 5 (some .boolean)) rm7_setTold (Pw EM LM w [.ref (w.2.2 0), .int x1, .int x2, .int x3, .int x4] σ) (Qw EM LM w σ' (some (.int r))) 0 0 (AW LM w) := by
  refine mk_met (by decide) (Nat.le_of_ble_eq_true rfl) ?_
  intro p e s m below meth c S hr hlk hK hR ls hl
  obtain ⟨hx, hb, hml, hown, hts⟩ := id S
  have hl : lv_has ls 5 [(0, .ref (w.2.2 0)), (1, .int x1), (2, .int x2), (3, .int x3), (4, .int x4)] := hl
  have hS : va_S (AW LM w) s.heap s.heap [] := va_S.rf
  unfold f7_setTold at h0
  refine lv_aload_n hx hb d7_setTold_0 rfl (lv_at hl 0 rfl) ?_
  refine g7_31 S hK hR d7_setTold_1 ?_
  refine lv_iconst (v := 4) hx hb d7_setTold_4 (by decide) ?_
  refine lv_iload_n hx hb d7_setTold_5 rfl (lv_at hl 1 rfl) ?_
  refine lv_iadd hx hb d7_setTold_6 ?_
  refine lv_iload_n hx hb d7_setTold_7 rfl (lv_at hl 2 rfl) ?_
  obtain ⟨hi1, h0⟩ := og_if h0
  obtain ⟨σ2, hm2, h0⟩ := og_m h0
  refine q_st S hK hR hS (by decide) (eM_108 w) hi1 rfl hm2 d7_setTold_8 (fun H locs hR hS => ?_)
  refine lv_iload_n hx hb d7_setTold_9 rfl (lv_at hl 2 rfl) ?_
  refine lv_i2l hx hb d7_setTold_10 rfl ?_
  refine lv_iload_n hx hb d7_setTold_11 rfl (lv_at hl 3 rfl) ?_
  refine lv_i2l hx hb d7_setTold_12 rfl ?_
  refine lv_iload hx hb d7_setTold_13 (lv_at hl 4 rfl) ?_
  refine lv_i2l hx hb d7_setTold_15 rfl ?_
  obtain ⟨r3, hr3, h0⟩ := og_b h0
  refine k7_113 S  hr3 ⟨Nat.zero_le _, Nat.zero_le _⟩ ⟨Nat.le_of_ble_eq_true rfl, Nat.le_of_ble_eq_true rfl⟩ hl.1 (Nat.le_of_ble_eq_true rfl) d7_setTold_16 ?_
  obtain ⟨hb0, h0⟩ := og_if h0
  exact q_zret S hr hlk hR hS hb0 h0 d7_setTold_19
set_option maxHeartbeats 4000000 in
set_option maxRecDepth 100000 in
theorem k7_138 {p : Program} {l : Launch} {e : Env} {R : Room} {s : State} {m : MethodId} {args : Array Value} {below : List Frame} {meth : Method} {c : Code} {H : Heap} {locs : List Loc} {cells slots : Nat} {Q : State → Prop} {cc : ByteArray} {pc nL : Nat} {ls : Array Slot} {rest : List Value} {w : WV} {σ : Mem} {x1 : Int32} {x2 : Int32} {x3 : Int32} {x4 : Int32} {σ1 : Mem} {r : Int32} (S : CallFix p m c cc nL s args gtbl RX7) (hK : KS LM w s) (hR : Rp EM LM w σ H) (hS : va_S (AW LM w) s.heap H locs) (h0 : f7_setTold σ x1 x2 x3 x4 = some (σ1, r)) (hf : cells + 0 ≤ R.cells ∧ slots + 0 ≤ R.slots) (hRm : rm7_setTold.frames + 1 ≤ R.frames ∧ 8 + (5 + 11) + rm7_setTold.locals ≤ R.locals) (hl : ls.size = nL) (hW : (rest.map fun v => v.category).sum ≤ 8) (hdg : decode cc pc = .ok (.invokevirtual 138, 3)) (kk : ∀ (H1 : Heap) (locs1 : List Loc), Rp EM LM w σ1 H1 → va_S (AW LM w) s.heap H1 locs1 → W p l e R s m args below meth c H1 locs1 cells slots Q (F0 m (pc + 3) ls (.int r :: rest))) : W p l e R s m args below meth c H locs cells slots Q (F0 m pc ls (.int x4 :: .int x3 :: .int x2 :: .int x1 :: .ref (w.2.2 0) :: rest)) := r_end hS (run_V (n := 4) (As := [.int x1, .int x2, .int x3, .int x4]) S hK hR (by decide) (eM_7 w _) rfl (gw_V (gt_at 1058 (by decide +kernel) (by decide +kernel)) (gt_at 1060 (by decide +kernel) (by decide +kernel)) (gt_at 46 (by decide +kernel) (by decide +kernel)) (gt_at 86 (by decide +kernel) (by decide +kernel)) (gt_at 1061 (by decide +kernel) (by decide +kernel))) (by decide +kernel) rfl (c7_setTold l h0) ⟨rfl, rfl⟩ hRm hf hl rfl hW hdg) kk
/-! FourTenGatesModel.closingItem()Z -/
abbrev rm7_closingItem : Room := { frames := 2, cells := 0, slots := 0, locals := 49 }
theorem d7_closingItem_0 : decode cX7_closingItem 0 = .ok (.aload_n 0, 1) := by decide +kernel
theorem d7_closingItem_1 : decode cX7_closingItem 1 = .ok (.iconst 2, 1) := by decide +kernel
theorem d7_closingItem_2 : decode cX7_closingItem 2 = .ok (.invokevirtual 134, 3) := by decide +kernel
theorem d7_closingItem_5 : decode cX7_closingItem 5 = .ok (.ifCond .eq 40, 3) := by decide +kernel
theorem d7_closingItem_8 : decode cX7_closingItem 8 = .ok (.aload_n 0, 1) := by decide +kernel
theorem d7_closingItem_9 : decode cX7_closingItem 9 = .ok (.getfield 37, 3) := by decide +kernel
theorem d7_closingItem_12 : decode cX7_closingItem 12 = .ok (.iconst 1, 1) := by decide +kernel
theorem d7_closingItem_13 : decode cX7_closingItem 13 = .ok (.iaload, 1) := by decide +kernel
theorem d7_closingItem_14 : decode cX7_closingItem 14 = .ok (.bipush 6, 2) := by decide +kernel
theorem d7_closingItem_16 : decode cX7_closingItem 16 = .ok (.if_icmp .eq 29, 3) := by decide +kernel
theorem d7_closingItem_19 : decode cX7_closingItem 19 = .ok (.aload_n 0, 1) := by decide +kernel
theorem d7_closingItem_20 : decode cX7_closingItem 20 = .ok (.getfield 70, 3) := by decide +kernel
theorem d7_closingItem_23 : decode cX7_closingItem 23 = .ok (.iconst 1, 1) := by decide +kernel
theorem d7_closingItem_24 : decode cX7_closingItem 24 = .ok (.iaload, 1) := by decide +kernel
theorem d7_closingItem_25 : decode cX7_closingItem 25 = .ok (.bipush 60, 2) := by decide +kernel
theorem d7_closingItem_27 : decode cX7_closingItem 27 = .ok (.if_icmp .gt 18, 3) := by decide +kernel
theorem d7_closingItem_30 : decode cX7_closingItem 30 = .ok (.aload_n 0, 1) := by decide +kernel
theorem d7_closingItem_31 : decode cX7_closingItem 31 = .ok (.getfield 70, 3) := by decide +kernel
theorem d7_closingItem_34 : decode cX7_closingItem 34 = .ok (.iconst 0, 1) := by decide +kernel
theorem d7_closingItem_35 : decode cX7_closingItem 35 = .ok (.iaload, 1) := by decide +kernel
theorem d7_closingItem_36 : decode cX7_closingItem 36 = .ok (.aload_n 0, 1) := by decide +kernel
theorem d7_closingItem_37 : decode cX7_closingItem 37 = .ok (.getfield 70, 3) := by decide +kernel
theorem d7_closingItem_40 : decode cX7_closingItem 40 = .ok (.iconst 1, 1) := by decide +kernel
theorem d7_closingItem_41 : decode cX7_closingItem 41 = .ok (.iaload, 1) := by decide +kernel
theorem d7_closingItem_42 : decode cX7_closingItem 42 = .ok (.if_icmp .lt 5, 3) := by decide +kernel
theorem d7_closingItem_45 : decode cX7_closingItem 45 = .ok (.iconst 0, 1) := by decide +kernel
theorem d7_closingItem_46 : decode cX7_closingItem 46 = .ok (.ireturn, 1) := by decide +kernel
theorem d7_closingItem_47 : decode cX7_closingItem 47 = .ok (.aload_n 0, 1) := by decide +kernel
theorem d7_closingItem_48 : decode cX7_closingItem 48 = .ok (.getfield 40, 3) := by decide +kernel
theorem d7_closingItem_51 : decode cX7_closingItem 51 = .ok (.bipush 6, 2) := by decide +kernel
theorem d7_closingItem_53 : decode cX7_closingItem 53 = .ok (.aload_n 0, 1) := by decide +kernel
theorem d7_closingItem_54 : decode cX7_closingItem 54 = .ok (.getfield 37, 3) := by decide +kernel
theorem d7_closingItem_57 : decode cX7_closingItem 57 = .ok (.iconst 1, 1) := by decide +kernel
theorem d7_closingItem_58 : decode cX7_closingItem 58 = .ok (.iaload, 1) := by decide +kernel
theorem d7_closingItem_59 : decode cX7_closingItem 59 = .ok (.iadd, 1) := by decide +kernel
theorem d7_closingItem_60 : decode cX7_closingItem 60 = .ok (.aload_n 0, 1) := by decide +kernel
theorem d7_closingItem_61 : decode cX7_closingItem 61 = .ok (.getfield 70, 3) := by decide +kernel
theorem d7_closingItem_64 : decode cX7_closingItem 64 = .ok (.iconst 0, 1) := by decide +kernel
theorem d7_closingItem_65 : decode cX7_closingItem 65 = .ok (.iaload, 1) := by decide +kernel
theorem d7_closingItem_66 : decode cX7_closingItem 66 = .ok (.iastore, 1) := by decide +kernel
theorem d7_closingItem_67 : decode cX7_closingItem 67 = .ok (.aload_n 0, 1) := by decide +kernel
theorem d7_closingItem_68 : decode cX7_closingItem 68 = .ok (.getfield 43, 3) := by decide +kernel
theorem d7_closingItem_71 : decode cX7_closingItem 71 = .ok (.bipush 6, 2) := by decide +kernel
theorem d7_closingItem_73 : decode cX7_closingItem 73 = .ok (.aload_n 0, 1) := by decide +kernel
theorem d7_closingItem_74 : decode cX7_closingItem 74 = .ok (.getfield 37, 3) := by decide +kernel
theorem d7_closingItem_77 : decode cX7_closingItem 77 = .ok (.iconst 1, 1) := by decide +kernel
theorem d7_closingItem_78 : decode cX7_closingItem 78 = .ok (.iaload, 1) := by decide +kernel
theorem d7_closingItem_79 : decode cX7_closingItem 79 = .ok (.iadd, 1) := by decide +kernel
theorem d7_closingItem_80 : decode cX7_closingItem 80 = .ok (.aload_n 0, 1) := by decide +kernel
theorem d7_closingItem_81 : decode cX7_closingItem 81 = .ok (.getfield 70, 3) := by decide +kernel
theorem d7_closingItem_84 : decode cX7_closingItem 84 = .ok (.iconst 1, 1) := by decide +kernel
theorem d7_closingItem_85 : decode cX7_closingItem 85 = .ok (.iaload, 1) := by decide +kernel
theorem d7_closingItem_86 : decode cX7_closingItem 86 = .ok (.iastore, 1) := by decide +kernel
theorem d7_closingItem_87 : decode cX7_closingItem 87 = .ok (.aload_n 0, 1) := by decide +kernel
theorem d7_closingItem_88 : decode cX7_closingItem 88 = .ok (.getfield 37, 3) := by decide +kernel
theorem d7_closingItem_91 : decode cX7_closingItem 91 = .ok (.iconst 1, 1) := by decide +kernel
theorem d7_closingItem_92 : decode cX7_closingItem 92 = .ok (.dup2, 1) := by decide +kernel
theorem d7_closingItem_93 : decode cX7_closingItem 93 = .ok (.iaload, 1) := by decide +kernel
theorem d7_closingItem_94 : decode cX7_closingItem 94 = .ok (.iconst 1, 1) := by decide +kernel
theorem d7_closingItem_95 : decode cX7_closingItem 95 = .ok (.iadd, 1) := by decide +kernel
theorem d7_closingItem_96 : decode cX7_closingItem 96 = .ok (.iastore, 1) := by decide +kernel
theorem d7_closingItem_97 : decode cX7_closingItem 97 = .ok (.iconst 1, 1) := by decide +kernel
theorem d7_closingItem_98 : decode cX7_closingItem 98 = .ok (.ireturn, 1) := by decide +kernel
def f7_closingItem (σ : Mem) : Option (Mem × Int32) := ob (f7_figures σ 2) fun σ1 r1 => if r1 = 0 then some (σ1, 0) else if (σ1 11 1) = 6 then some (σ1, 0) else if 60 < (σ1 26 1) then some (σ1, 0) else if (σ1 26 0) < (σ1 26 1) then if ¬ (6 + (σ1 11 1) < 0 ∨ 12 ≤ (6 + (σ1 11 1)).toNatClampNeg) then (bm (mu σ1 12 ((6 + (σ1 11 1)).toNatClampNeg) (σ1 26 0)) fun σ7 => if ¬ (6 + (σ7 11 1) < 0 ∨ 12 ≤ (6 + (σ7 11 1)).toNatClampNeg) then (bm (mu σ7 13 ((6 + (σ7 11 1)).toNatClampNeg) (σ7 26 1)) fun σ9 => bm (mu σ9 11 1 ((σ9 11 1) + 1)) fun σ10 => some (σ10, 1)) else none) else none else some (σ1, 0)
set_option maxHeartbeats 4000000 in
set_option maxRecDepth 100000 in
theorem c7_closingItem (l : Launch) {w : WV} {σ : Mem} {σ' : Mem} {r : Int32} (h0 : f7_closingItem σ = some (σ', r)) : Met l yX7_closingItem (wy yX7_closingItem cX7_closingItem 1 (some .boolean)) rm7_closingItem (Pw EM LM w [.ref (w.2.2 0)] σ) (Qw EM LM w σ' (some (.int r))) 0 0 (AW LM w) := by
  refine mk_met (by decide) (Nat.le_of_ble_eq_true rfl) ?_
  intro p e s m below meth c S hr hlk hK hR ls hl
  obtain ⟨hx, hb, hml, hown, hts⟩ := id S
  have hl : lv_has ls 1 [(0, .ref (w.2.2 0))] := hl
  have hS : va_S (AW LM w) s.heap s.heap [] := va_S.rf
  unfold f7_closingItem at h0
  refine lv_aload_n hx hb d7_closingItem_0 rfl (lv_at hl 0 rfl) ?_
  refine lv_iconst (v := 2) hx hb d7_closingItem_1 (by decide) ?_
  obtain ⟨σ1, r1, hr1, h0⟩ := og_o h0
  refine k7_134 S hK hR hS  hr1 ⟨Nat.zero_le _, Nat.zero_le _⟩ ⟨Nat.le_of_ble_eq_true rfl, Nat.le_of_ble_eq_true rfl⟩ hl.1 (Nat.le_of_ble_eq_true rfl) d7_closingItem_2 (fun H locs hR hS => ?_)
  refine lv_if_eq (tgt := 45) hx hb d7_closingItem_5 (by decide) (fun hc2 => ?_) (fun hc2 => ?_)
  · have h0 := og_t hc2 h0
    refine lv_iconst (v := 0) hx hb d7_closingItem_45 (by decide) ?_
    exact q_zret S hr hlk hR hS (Or.inl rfl) h0 d7_closingItem_46
  · have h0 := og_f hc2 h0
    refine lv_aload_n hx hb d7_closingItem_8 rfl (lv_at hl 0 rfl) ?_
    refine g7_37 S hK hR d7_closingItem_9 ?_
    refine lv_iconst (v := 1) hx hb d7_closingItem_12 (by decide) ?_
    refine q_ld (k := 1) S hK hR (by decide) (eM_110 w _) (vin (by decide)) (by decide) d7_closingItem_13 ?_
    refine lv_bipush (v := 6) hx hb d7_closingItem_14 (by decide) ?_
    refine lv_icmp_eq (tgt := 45) hx hb d7_closingItem_16 (by decide) (fun hc3 => ?_) (fun hc3 => ?_)
    · have h0 := og_t hc3 h0
      refine lv_iconst (v := 0) hx hb d7_closingItem_45 (by decide) ?_
      exact q_zret S hr hlk hR hS (Or.inl rfl) h0 d7_closingItem_46
    · have h0 := og_f hc3 h0
      refine lv_aload_n hx hb d7_closingItem_19 rfl (lv_at hl 0 rfl) ?_
      refine g7_70 S hK hR d7_closingItem_20 ?_
      refine lv_iconst (v := 1) hx hb d7_closingItem_23 (by decide) ?_
      refine q_ld (k := 1) S hK hR (by decide) (eM_125 w _) (vin (by decide)) (by decide) d7_closingItem_24 ?_
      refine lv_bipush (v := 60) hx hb d7_closingItem_25 (by decide) ?_
      refine lv_icmp_gt (tgt := 45) hx hb d7_closingItem_27 (by decide) (fun hc4 => ?_) (fun hc4 => ?_)
      · have h0 := og_t hc4 h0
        refine lv_iconst (v := 0) hx hb d7_closingItem_45 (by decide) ?_
        exact q_zret S hr hlk hR hS (Or.inl rfl) h0 d7_closingItem_46
      · have h0 := og_f hc4 h0
        refine lv_aload_n hx hb d7_closingItem_30 rfl (lv_at hl 0 rfl) ?_
        refine g7_70 S hK hR d7_closingItem_31 ?_
        refine lv_iconst (v := 0) hx hb d7_closingItem_34 (by decide) ?_
        refine q_ld (k := 0) S hK hR (by decide) (eM_125 w _) (vin (by decide)) (by decide) d7_closingItem_35 ?_
        refine lv_aload_n hx hb d7_closingItem_36 rfl (lv_at hl 0 rfl) ?_
        refine g7_70 S hK hR d7_closingItem_37 ?_
        refine lv_iconst (v := 1) hx hb d7_closingItem_40 (by decide) ?_
        refine q_ld (k := 1) S hK hR (by decide) (eM_125 w _) (vin (by decide)) (by decide) d7_closingItem_41 ?_
        refine lv_icmp_lt (tgt := 47) hx hb d7_closingItem_42 (by decide) (fun hc5 => ?_) (fun hc5 => ?_)
        · have h0 := og_t hc5 h0
          refine lv_aload_n hx hb d7_closingItem_47 rfl (lv_at hl 0 rfl) ?_
          refine g7_40 S hK hR d7_closingItem_48 ?_
          refine lv_bipush (v := 6) hx hb d7_closingItem_51 (by decide) ?_
          refine lv_aload_n hx hb d7_closingItem_53 rfl (lv_at hl 0 rfl) ?_
          refine g7_37 S hK hR d7_closingItem_54 ?_
          refine lv_iconst (v := 1) hx hb d7_closingItem_57 (by decide) ?_
          refine q_ld (k := 1) S hK hR (by decide) (eM_110 w _) (vin (by decide)) (by decide) d7_closingItem_58 ?_
          refine lv_iadd hx hb d7_closingItem_59 ?_
          refine lv_aload_n hx hb d7_closingItem_60 rfl (lv_at hl 0 rfl) ?_
          refine g7_70 S hK hR d7_closingItem_61 ?_
          refine lv_iconst (v := 0) hx hb d7_closingItem_64 (by decide) ?_
          refine q_ld (k := 0) S hK hR (by decide) (eM_125 w _) (vin (by decide)) (by decide) d7_closingItem_65 ?_
          obtain ⟨hi6, h0⟩ := og_if h0
          obtain ⟨σ7, hm7, h0⟩ := og_m h0
          refine q_st S hK hR hS (by decide) (eM_111 w) hi6 rfl hm7 d7_closingItem_66 (fun H locs hR hS => ?_)
          refine lv_aload_n hx hb d7_closingItem_67 rfl (lv_at hl 0 rfl) ?_
          refine g7_43 S hK hR d7_closingItem_68 ?_
          refine lv_bipush (v := 6) hx hb d7_closingItem_71 (by decide) ?_
          refine lv_aload_n hx hb d7_closingItem_73 rfl (lv_at hl 0 rfl) ?_
          refine g7_37 S hK hR d7_closingItem_74 ?_
          refine lv_iconst (v := 1) hx hb d7_closingItem_77 (by decide) ?_
          refine q_ld (k := 1) S hK hR (by decide) (eM_110 w _) (vin (by decide)) (by decide) d7_closingItem_78 ?_
          refine lv_iadd hx hb d7_closingItem_79 ?_
          refine lv_aload_n hx hb d7_closingItem_80 rfl (lv_at hl 0 rfl) ?_
          refine g7_70 S hK hR d7_closingItem_81 ?_
          refine lv_iconst (v := 1) hx hb d7_closingItem_84 (by decide) ?_
          refine q_ld (k := 1) S hK hR (by decide) (eM_125 w _) (vin (by decide)) (by decide) d7_closingItem_85 ?_
          obtain ⟨hi8, h0⟩ := og_if h0
          obtain ⟨σ9, hm9, h0⟩ := og_m h0
          refine q_st S hK hR hS (by decide) (eM_112 w) hi8 rfl hm9 d7_closingItem_86 (fun H locs hR hS => ?_)
          refine lv_aload_n hx hb d7_closingItem_87 rfl (lv_at hl 0 rfl) ?_
          refine g7_37 S hK hR d7_closingItem_88 ?_
          refine lv_iconst (v := 1) hx hb d7_closingItem_91 (by decide) ?_
          refine lv_dup2_11 hx hb d7_closingItem_92 rfl rfl ?_
          refine q_ld (k := 1) S hK hR (by decide) (eM_110 w _) (vin (by decide)) (by decide) d7_closingItem_93 ?_
          refine lv_iconst (v := 1) hx hb d7_closingItem_94 (by decide) ?_
          refine lv_iadd hx hb d7_closingItem_95 ?_
          obtain ⟨σ10, hm10, h0⟩ := og_m h0
          refine q_st S hK hR hS (by decide) (eM_110 w) (vin (by decide)) (by decide) hm10 d7_closingItem_96 (fun H locs hR hS => ?_)
          refine lv_iconst (v := 1) hx hb d7_closingItem_97 (by decide) ?_
          exact q_zret S hr hlk hR hS (Or.inr rfl) h0 d7_closingItem_98
        · have h0 := og_f hc5 h0
          refine lv_iconst (v := 0) hx hb d7_closingItem_45 (by decide) ?_
          exact q_zret S hr hlk hR hS (Or.inl rfl) h0 d7_closingItem_46
set_option maxHeartbeats 4000000 in
set_option maxRecDepth 100000 in
theorem k7_142 {p : Program} {l : Launch} {e : Env} {R : Room} {s : State} {m : MethodId} {args : Array Value} {below : List Frame} {meth : Method} {c : Code} {H : Heap} {locs : List Loc} {cells slots : Nat} {Q : State → Prop} {cc : ByteArray} {pc nL : Nat} {ls : Array Slot} {rest : List Value} {w : WV} {σ : Mem} {σ1 : Mem} {r : Int32} (S : CallFix p m c cc nL s args gtbl RX7) (hK : KS LM w s) (hR : Rp EM LM w σ H) (hS : va_S (AW LM w) s.heap H locs) (h0 : f7_closingItem σ = some (σ1, r)) (hf : cells + 0 ≤ R.cells ∧ slots + 0 ≤ R.slots) (hRm : rm7_closingItem.frames + 1 ≤ R.frames ∧ 8 + (1 + 11) + rm7_closingItem.locals ≤ R.locals) (hl : ls.size = nL) (hW : (rest.map fun v => v.category).sum ≤ 8) (hdg : decode cc pc = .ok (.invokevirtual 142, 3)) (kk : ∀ (H1 : Heap) (locs1 : List Loc), Rp EM LM w σ1 H1 → va_S (AW LM w) s.heap H1 locs1 → W p l e R s m args below meth c H1 locs1 cells slots Q (F0 m (pc + 3) ls (.int r :: rest))) : W p l e R s m args below meth c H locs cells slots Q (F0 m pc ls (.ref (w.2.2 0) :: rest)) := r_end hS (run_V (n := 0) (As := []) S hK hR (by decide) (eM_7 w _) rfl (gw_V (gt_at 1062 (by decide +kernel) (by decide +kernel)) (gt_at 1064 (by decide +kernel) (by decide +kernel)) (gt_at 47 (by decide +kernel) (by decide +kernel)) (gt_at 86 (by decide +kernel) (by decide +kernel)) (gt_at 1065 (by decide +kernel) (by decide +kernel))) (by decide +kernel) rfl (c7_closingItem l h0) ⟨rfl, rfl⟩ hRm hf hl rfl hW hdg) kk
/-! FourTenGatesModel.oddsItem()Z -/
abbrev rm7_oddsItem : Room := { frames := 2, cells := 0, slots := 0, locals := 49 }
theorem d7_oddsItem_0 : decode cX7_oddsItem 0 = .ok (.aload_n 0, 1) := by decide +kernel
theorem d7_oddsItem_1 : decode cX7_oddsItem 1 = .ok (.iconst 2, 1) := by decide +kernel
theorem d7_oddsItem_2 : decode cX7_oddsItem 2 = .ok (.invokevirtual 134, 3) := by decide +kernel
theorem d7_oddsItem_5 : decode cX7_oddsItem 5 = .ok (.ifCond .eq 35, 3) := by decide +kernel
theorem d7_oddsItem_8 : decode cX7_oddsItem 8 = .ok (.aload_n 0, 1) := by decide +kernel
theorem d7_oddsItem_9 : decode cX7_oddsItem 9 = .ok (.getfield 46, 3) := by decide +kernel
theorem d7_oddsItem_12 : decode cX7_oddsItem 12 = .ok (.iconst 1, 1) := by decide +kernel
theorem d7_oddsItem_13 : decode cX7_oddsItem 13 = .ok (.iaload, 1) := by decide +kernel
theorem d7_oddsItem_14 : decode cX7_oddsItem 14 = .ok (.iconst 5, 1) := by decide +kernel
theorem d7_oddsItem_15 : decode cX7_oddsItem 15 = .ok (.if_icmp .eq 25, 3) := by decide +kernel
theorem d7_oddsItem_18 : decode cX7_oddsItem 18 = .ok (.aload_n 0, 1) := by decide +kernel
theorem d7_oddsItem_19 : decode cX7_oddsItem 19 = .ok (.getfield 70, 3) := by decide +kernel
theorem d7_oddsItem_22 : decode cX7_oddsItem 22 = .ok (.iconst 0, 1) := by decide +kernel
theorem d7_oddsItem_23 : decode cX7_oddsItem 23 = .ok (.iaload, 1) := by decide +kernel
theorem d7_oddsItem_24 : decode cX7_oddsItem 24 = .ok (.bipush 9, 2) := by decide +kernel
theorem d7_oddsItem_26 : decode cX7_oddsItem 26 = .ok (.if_icmp .gt 14, 3) := by decide +kernel
theorem d7_oddsItem_29 : decode cX7_oddsItem 29 = .ok (.aload_n 0, 1) := by decide +kernel
theorem d7_oddsItem_30 : decode cX7_oddsItem 30 = .ok (.getfield 70, 3) := by decide +kernel
theorem d7_oddsItem_33 : decode cX7_oddsItem 33 = .ok (.iconst 1, 1) := by decide +kernel
theorem d7_oddsItem_34 : decode cX7_oddsItem 34 = .ok (.iaload, 1) := by decide +kernel
theorem d7_oddsItem_35 : decode cX7_oddsItem 35 = .ok (.bipush 10, 2) := by decide +kernel
theorem d7_oddsItem_37 : decode cX7_oddsItem 37 = .ok (.if_icmp .le 5, 3) := by decide +kernel
theorem d7_oddsItem_40 : decode cX7_oddsItem 40 = .ok (.iconst 0, 1) := by decide +kernel
theorem d7_oddsItem_41 : decode cX7_oddsItem 41 = .ok (.ireturn, 1) := by decide +kernel
theorem d7_oddsItem_42 : decode cX7_oddsItem 42 = .ok (.aload_n 0, 1) := by decide +kernel
theorem d7_oddsItem_43 : decode cX7_oddsItem 43 = .ok (.getfield 49, 3) := by decide +kernel
theorem d7_oddsItem_46 : decode cX7_oddsItem 46 = .ok (.iconst 5, 1) := by decide +kernel
theorem d7_oddsItem_47 : decode cX7_oddsItem 47 = .ok (.aload_n 0, 1) := by decide +kernel
theorem d7_oddsItem_48 : decode cX7_oddsItem 48 = .ok (.getfield 46, 3) := by decide +kernel
theorem d7_oddsItem_51 : decode cX7_oddsItem 51 = .ok (.iconst 1, 1) := by decide +kernel
theorem d7_oddsItem_52 : decode cX7_oddsItem 52 = .ok (.iaload, 1) := by decide +kernel
theorem d7_oddsItem_53 : decode cX7_oddsItem 53 = .ok (.iadd, 1) := by decide +kernel
theorem d7_oddsItem_54 : decode cX7_oddsItem 54 = .ok (.aload_n 0, 1) := by decide +kernel
theorem d7_oddsItem_55 : decode cX7_oddsItem 55 = .ok (.getfield 70, 3) := by decide +kernel
theorem d7_oddsItem_58 : decode cX7_oddsItem 58 = .ok (.iconst 0, 1) := by decide +kernel
theorem d7_oddsItem_59 : decode cX7_oddsItem 59 = .ok (.iaload, 1) := by decide +kernel
theorem d7_oddsItem_60 : decode cX7_oddsItem 60 = .ok (.iastore, 1) := by decide +kernel
theorem d7_oddsItem_61 : decode cX7_oddsItem 61 = .ok (.aload_n 0, 1) := by decide +kernel
theorem d7_oddsItem_62 : decode cX7_oddsItem 62 = .ok (.getfield 52, 3) := by decide +kernel
theorem d7_oddsItem_65 : decode cX7_oddsItem 65 = .ok (.iconst 5, 1) := by decide +kernel
theorem d7_oddsItem_66 : decode cX7_oddsItem 66 = .ok (.aload_n 0, 1) := by decide +kernel
theorem d7_oddsItem_67 : decode cX7_oddsItem 67 = .ok (.getfield 46, 3) := by decide +kernel
theorem d7_oddsItem_70 : decode cX7_oddsItem 70 = .ok (.iconst 1, 1) := by decide +kernel
theorem d7_oddsItem_71 : decode cX7_oddsItem 71 = .ok (.iaload, 1) := by decide +kernel
theorem d7_oddsItem_72 : decode cX7_oddsItem 72 = .ok (.iadd, 1) := by decide +kernel
theorem d7_oddsItem_73 : decode cX7_oddsItem 73 = .ok (.aload_n 0, 1) := by decide +kernel
theorem d7_oddsItem_74 : decode cX7_oddsItem 74 = .ok (.getfield 70, 3) := by decide +kernel
theorem d7_oddsItem_77 : decode cX7_oddsItem 77 = .ok (.iconst 1, 1) := by decide +kernel
theorem d7_oddsItem_78 : decode cX7_oddsItem 78 = .ok (.iaload, 1) := by decide +kernel
theorem d7_oddsItem_79 : decode cX7_oddsItem 79 = .ok (.iastore, 1) := by decide +kernel
theorem d7_oddsItem_80 : decode cX7_oddsItem 80 = .ok (.aload_n 0, 1) := by decide +kernel
theorem d7_oddsItem_81 : decode cX7_oddsItem 81 = .ok (.getfield 46, 3) := by decide +kernel
theorem d7_oddsItem_84 : decode cX7_oddsItem 84 = .ok (.iconst 1, 1) := by decide +kernel
theorem d7_oddsItem_85 : decode cX7_oddsItem 85 = .ok (.dup2, 1) := by decide +kernel
theorem d7_oddsItem_86 : decode cX7_oddsItem 86 = .ok (.iaload, 1) := by decide +kernel
theorem d7_oddsItem_87 : decode cX7_oddsItem 87 = .ok (.iconst 1, 1) := by decide +kernel
theorem d7_oddsItem_88 : decode cX7_oddsItem 88 = .ok (.iadd, 1) := by decide +kernel
theorem d7_oddsItem_89 : decode cX7_oddsItem 89 = .ok (.iastore, 1) := by decide +kernel
theorem d7_oddsItem_90 : decode cX7_oddsItem 90 = .ok (.iconst 1, 1) := by decide +kernel
theorem d7_oddsItem_91 : decode cX7_oddsItem 91 = .ok (.ireturn, 1) := by decide +kernel
def f7_oddsItem (σ : Mem) : Option (Mem × Int32) := ob (f7_figures σ 2) fun σ1 r1 => if r1 = 0 then some (σ1, 0) else if (σ1 14 1) = 5 then some (σ1, 0) else if 9 < (σ1 26 0) then some (σ1, 0) else if (σ1 26 1) ≤ 10 then if ¬ (5 + (σ1 14 1) < 0 ∨ 10 ≤ (5 + (σ1 14 1)).toNatClampNeg) then (bm (mu σ1 15 ((5 + (σ1 14 1)).toNatClampNeg) (σ1 26 0)) fun σ7 => if ¬ (5 + (σ7 14 1) < 0 ∨ 10 ≤ (5 + (σ7 14 1)).toNatClampNeg) then (bm (mu σ7 16 ((5 + (σ7 14 1)).toNatClampNeg) (σ7 26 1)) fun σ9 => bm (mu σ9 14 1 ((σ9 14 1) + 1)) fun σ10 => some (σ10, 1)) else none) else none else some (σ1, 0)
set_option maxHeartbeats 4000000 in
set_option maxRecDepth 100000 in
theorem c7_oddsItem (l : Launch) {w : WV} {σ : Mem} {σ' : Mem} {r : Int32} (h0 : f7_oddsItem σ = some (σ', r)) : Met l yX7_oddsItem (wy yX7_oddsItem cX7_oddsItem 1 (some .boolean)) rm7_oddsItem (Pw EM LM w [.ref (w.2.2 0)] σ) (Qw EM LM w σ' (some (.int r))) 0 0 (AW LM w) := by
  refine mk_met (by decide) (Nat.le_of_ble_eq_true rfl) ?_
  intro p e s m below meth c S hr hlk hK hR ls hl
  obtain ⟨hx, hb, hml, hown, hts⟩ := id S
  have hl : lv_has ls 1 [(0, .ref (w.2.2 0))] := hl
  have hS : va_S (AW LM w) s.heap s.heap [] := va_S.rf
  unfold f7_oddsItem at h0
  refine lv_aload_n hx hb d7_oddsItem_0 rfl (lv_at hl 0 rfl) ?_
  refine lv_iconst (v := 2) hx hb d7_oddsItem_1 (by decide) ?_
  obtain ⟨σ1, r1, hr1, h0⟩ := og_o h0
  refine k7_134 S hK hR hS  hr1 ⟨Nat.zero_le _, Nat.zero_le _⟩ ⟨Nat.le_of_ble_eq_true rfl, Nat.le_of_ble_eq_true rfl⟩ hl.1 (Nat.le_of_ble_eq_true rfl) d7_oddsItem_2 (fun H locs hR hS => ?_)
  refine lv_if_eq (tgt := 40) hx hb d7_oddsItem_5 (by decide) (fun hc2 => ?_) (fun hc2 => ?_)
  · have h0 := og_t hc2 h0
    refine lv_iconst (v := 0) hx hb d7_oddsItem_40 (by decide) ?_
    exact q_zret S hr hlk hR hS (Or.inl rfl) h0 d7_oddsItem_41
  · have h0 := og_f hc2 h0
    refine lv_aload_n hx hb d7_oddsItem_8 rfl (lv_at hl 0 rfl) ?_
    refine g7_46 S hK hR d7_oddsItem_9 ?_
    refine lv_iconst (v := 1) hx hb d7_oddsItem_12 (by decide) ?_
    refine q_ld (k := 1) S hK hR (by decide) (eM_113 w _) (vin (by decide)) (by decide) d7_oddsItem_13 ?_
    refine lv_iconst (v := 5) hx hb d7_oddsItem_14 (by decide) ?_
    refine lv_icmp_eq (tgt := 40) hx hb d7_oddsItem_15 (by decide) (fun hc3 => ?_) (fun hc3 => ?_)
    · have h0 := og_t hc3 h0
      refine lv_iconst (v := 0) hx hb d7_oddsItem_40 (by decide) ?_
      exact q_zret S hr hlk hR hS (Or.inl rfl) h0 d7_oddsItem_41
    · have h0 := og_f hc3 h0
      refine lv_aload_n hx hb d7_oddsItem_18 rfl (lv_at hl 0 rfl) ?_
      refine g7_70 S hK hR d7_oddsItem_19 ?_
      refine lv_iconst (v := 0) hx hb d7_oddsItem_22 (by decide) ?_
      refine q_ld (k := 0) S hK hR (by decide) (eM_125 w _) (vin (by decide)) (by decide) d7_oddsItem_23 ?_
      refine lv_bipush (v := 9) hx hb d7_oddsItem_24 (by decide) ?_
      refine lv_icmp_gt (tgt := 40) hx hb d7_oddsItem_26 (by decide) (fun hc4 => ?_) (fun hc4 => ?_)
      · have h0 := og_t hc4 h0
        refine lv_iconst (v := 0) hx hb d7_oddsItem_40 (by decide) ?_
        exact q_zret S hr hlk hR hS (Or.inl rfl) h0 d7_oddsItem_41
      · have h0 := og_f hc4 h0
        refine lv_aload_n hx hb d7_oddsItem_29 rfl (lv_at hl 0 rfl) ?_
        refine g7_70 S hK hR d7_oddsItem_30 ?_
        refine lv_iconst (v := 1) hx hb d7_oddsItem_33 (by decide) ?_
        refine q_ld (k := 1) S hK hR (by decide) (eM_125 w _) (vin (by decide)) (by decide) d7_oddsItem_34 ?_
        refine lv_bipush (v := 10) hx hb d7_oddsItem_35 (by decide) ?_
        refine lv_icmp_le (tgt := 42) hx hb d7_oddsItem_37 (by decide) (fun hc5 => ?_) (fun hc5 => ?_)
        · have h0 := og_t hc5 h0
          refine lv_aload_n hx hb d7_oddsItem_42 rfl (lv_at hl 0 rfl) ?_
          refine g7_49 S hK hR d7_oddsItem_43 ?_
          refine lv_iconst (v := 5) hx hb d7_oddsItem_46 (by decide) ?_
          refine lv_aload_n hx hb d7_oddsItem_47 rfl (lv_at hl 0 rfl) ?_
          refine g7_46 S hK hR d7_oddsItem_48 ?_
          refine lv_iconst (v := 1) hx hb d7_oddsItem_51 (by decide) ?_
          refine q_ld (k := 1) S hK hR (by decide) (eM_113 w _) (vin (by decide)) (by decide) d7_oddsItem_52 ?_
          refine lv_iadd hx hb d7_oddsItem_53 ?_
          refine lv_aload_n hx hb d7_oddsItem_54 rfl (lv_at hl 0 rfl) ?_
          refine g7_70 S hK hR d7_oddsItem_55 ?_
          refine lv_iconst (v := 0) hx hb d7_oddsItem_58 (by decide) ?_
          refine q_ld (k := 0) S hK hR (by decide) (eM_125 w _) (vin (by decide)) (by decide) d7_oddsItem_59 ?_
          obtain ⟨hi6, h0⟩ := og_if h0
          obtain ⟨σ7, hm7, h0⟩ := og_m h0
          refine q_st S hK hR hS (by decide) (eM_114 w) hi6 rfl hm7 d7_oddsItem_60 (fun H locs hR hS => ?_)
          refine lv_aload_n hx hb d7_oddsItem_61 rfl (lv_at hl 0 rfl) ?_
          refine g7_52 S hK hR d7_oddsItem_62 ?_
          refine lv_iconst (v := 5) hx hb d7_oddsItem_65 (by decide) ?_
          refine lv_aload_n hx hb d7_oddsItem_66 rfl (lv_at hl 0 rfl) ?_
          refine g7_46 S hK hR d7_oddsItem_67 ?_
          refine lv_iconst (v := 1) hx hb d7_oddsItem_70 (by decide) ?_
          refine q_ld (k := 1) S hK hR (by decide) (eM_113 w _) (vin (by decide)) (by decide) d7_oddsItem_71 ?_
          refine lv_iadd hx hb d7_oddsItem_72 ?_
          refine lv_aload_n hx hb d7_oddsItem_73 rfl (lv_at hl 0 rfl) ?_
          refine g7_70 S hK hR d7_oddsItem_74 ?_
          refine lv_iconst (v := 1) hx hb d7_oddsItem_77 (by decide) ?_
          refine q_ld (k := 1) S hK hR (by decide) (eM_125 w _) (vin (by decide)) (by decide) d7_oddsItem_78 ?_
          obtain ⟨hi8, h0⟩ := og_if h0
          obtain ⟨σ9, hm9, h0⟩ := og_m h0
          refine q_st S hK hR hS (by decide) (eM_115 w) hi8 rfl hm9 d7_oddsItem_79 (fun H locs hR hS => ?_)
          refine lv_aload_n hx hb d7_oddsItem_80 rfl (lv_at hl 0 rfl) ?_
          refine g7_46 S hK hR d7_oddsItem_81 ?_
          refine lv_iconst (v := 1) hx hb d7_oddsItem_84 (by decide) ?_
          refine lv_dup2_11 hx hb d7_oddsItem_85 rfl rfl ?_
          refine q_ld (k := 1) S hK hR (by decide) (eM_113 w _) (vin (by decide)) (by decide) d7_oddsItem_86 ?_
          refine lv_iconst (v := 1) hx hb d7_oddsItem_87 (by decide) ?_
          refine lv_iadd hx hb d7_oddsItem_88 ?_
          obtain ⟨σ10, hm10, h0⟩ := og_m h0
          refine q_st S hK hR hS (by decide) (eM_113 w) (vin (by decide)) (by decide) hm10 d7_oddsItem_89 (fun H locs hR hS => ?_)
          refine lv_iconst (v := 1) hx hb d7_oddsItem_90 (by decide) ?_
          exact q_zret S hr hlk hR hS (Or.inr rfl) h0 d7_oddsItem_91
        · have h0 := og_f hc5 h0
          refine lv_iconst (v := 0) hx hb d7_oddsItem_40 (by decide) ?_
          exact q_zret S hr hlk hR hS (Or.inl rfl) h0 d7_oddsItem_41
set_option maxHeartbeats 4000000 in
set_option maxRecDepth 100000 in
theorem k7_146 {p : Program} {l : Launch} {e : Env} {R : Room} {s : State} {m : MethodId} {args : Array Value} {below : List Frame} {meth : Method} {c : Code} {H : Heap} {locs : List Loc} {cells slots : Nat} {Q : State → Prop} {cc : ByteArray} {pc nL : Nat} {ls : Array Slot} {rest : List Value} {w : WV} {σ : Mem} {σ1 : Mem} {r : Int32} (S : CallFix p m c cc nL s args gtbl RX7) (hK : KS LM w s) (hR : Rp EM LM w σ H) (hS : va_S (AW LM w) s.heap H locs) (h0 : f7_oddsItem σ = some (σ1, r)) (hf : cells + 0 ≤ R.cells ∧ slots + 0 ≤ R.slots) (hRm : rm7_oddsItem.frames + 1 ≤ R.frames ∧ 8 + (1 + 11) + rm7_oddsItem.locals ≤ R.locals) (hl : ls.size = nL) (hW : (rest.map fun v => v.category).sum ≤ 8) (hdg : decode cc pc = .ok (.invokevirtual 146, 3)) (kk : ∀ (H1 : Heap) (locs1 : List Loc), Rp EM LM w σ1 H1 → va_S (AW LM w) s.heap H1 locs1 → W p l e R s m args below meth c H1 locs1 cells slots Q (F0 m (pc + 3) ls (.int r :: rest))) : W p l e R s m args below meth c H locs cells slots Q (F0 m pc ls (.ref (w.2.2 0) :: rest)) := r_end hS (run_V (n := 0) (As := []) S hK hR (by decide) (eM_7 w _) rfl (gw_V (gt_at 1066 (by decide +kernel) (by decide +kernel)) (gt_at 1068 (by decide +kernel) (by decide +kernel)) (gt_at 48 (by decide +kernel) (by decide +kernel)) (gt_at 86 (by decide +kernel) (by decide +kernel)) (gt_at 1069 (by decide +kernel) (by decide +kernel))) (by decide +kernel) rfl (c7_oddsItem l h0) ⟨rfl, rfl⟩ hRm hf hl rfl hW hdg) kk
end
section
/-! FourTenGatesModel.item()Z -/
abbrev rm7_item : Room := { frames := 3, cells := 0, slots := 0, locals := 69 }
theorem d7_item_0 : decode cX7_item 0 = .ok (.aload_n 0, 1) := by decide +kernel
theorem d7_item_1 : decode cX7_item 1 = .ok (.aload_n 0, 1) := by decide +kernel
theorem d7_item_2 : decode cX7_item 2 = .ok (.getfield 121, 3) := by decide +kernel
theorem d7_item_5 : decode cX7_item 5 = .ok (.invokevirtual 124, 3) := by decide +kernel
theorem d7_item_8 : decode cX7_item 8 = .ok (.istore_n 1, 1) := by decide +kernel
theorem d7_item_9 : decode cX7_item 9 = .ok (.aload_n 0, 1) := by decide +kernel
theorem d7_item_10 : decode cX7_item 10 = .ok (.dup, 1) := by decide +kernel
theorem d7_item_11 : decode cX7_item 11 = .ok (.getfield 121, 3) := by decide +kernel
theorem d7_item_14 : decode cX7_item 14 = .ok (.iconst 1, 1) := by decide +kernel
theorem d7_item_15 : decode cX7_item 15 = .ok (.iadd, 1) := by decide +kernel
theorem d7_item_16 : decode cX7_item 16 = .ok (.putfield 121, 3) := by decide +kernel
theorem d7_item_19 : decode cX7_item 19 = .ok (.iload_n 1, 1) := by decide +kernel
theorem d7_item_20 : decode cX7_item 20 = .ok (.tableswitch 402 97 119 #[344, 402, 261, 402, 402, 402, 230, 402, 402, 402, 392, 402, 402, 402, 397, 402, 402, 402, 402, 108, 169, 402, 292], 108) := by decide +kernel
theorem d7_item_128 : decode cX7_item 128 = .ok (.aload_n 0, 1) := by decide +kernel
theorem d7_item_129 : decode cX7_item 129 = .ok (.iconst 2, 1) := by decide +kernel
theorem d7_item_130 : decode cX7_item 130 = .ok (.invokevirtual 134, 3) := by decide +kernel
theorem d7_item_133 : decode cX7_item 133 = .ok (.ifCond .eq 35, 3) := by decide +kernel
theorem d7_item_136 : decode cX7_item 136 = .ok (.aload_n 0, 1) := by decide +kernel
theorem d7_item_137 : decode cX7_item 137 = .ok (.getfield 13, 3) := by decide +kernel
theorem d7_item_140 : decode cX7_item 140 = .ok (.iconst 1, 1) := by decide +kernel
theorem d7_item_141 : decode cX7_item 141 = .ok (.iaload, 1) := by decide +kernel
theorem d7_item_142 : decode cX7_item 142 = .ok (.bipush 6, 2) := by decide +kernel
theorem d7_item_144 : decode cX7_item 144 = .ok (.if_icmp .eq 24, 3) := by decide +kernel
theorem d7_item_147 : decode cX7_item 147 = .ok (.aload_n 0, 1) := by decide +kernel
theorem d7_item_148 : decode cX7_item 148 = .ok (.getfield 70, 3) := by decide +kernel
theorem d7_item_151 : decode cX7_item 151 = .ok (.iconst 0, 1) := by decide +kernel
theorem d7_item_152 : decode cX7_item 152 = .ok (.iaload, 1) := by decide +kernel
theorem d7_item_153 : decode cX7_item 153 = .ok (.bipush 59, 2) := by decide +kernel
theorem d7_item_155 : decode cX7_item 155 = .ok (.if_icmp .gt 13, 3) := by decide +kernel
theorem d7_item_158 : decode cX7_item 158 = .ok (.aload_n 0, 1) := by decide +kernel
theorem d7_item_159 : decode cX7_item 159 = .ok (.getfield 70, 3) := by decide +kernel
theorem d7_item_162 : decode cX7_item 162 = .ok (.iconst 1, 1) := by decide +kernel
theorem d7_item_163 : decode cX7_item 163 = .ok (.iaload, 1) := by decide +kernel
theorem d7_item_164 : decode cX7_item 164 = .ok (.iconst 2, 1) := by decide +kernel
theorem d7_item_165 : decode cX7_item 165 = .ok (.if_icmp .le 5, 3) := by decide +kernel
theorem d7_item_168 : decode cX7_item 168 = .ok (.iconst 0, 1) := by decide +kernel
theorem d7_item_169 : decode cX7_item 169 = .ok (.ireturn, 1) := by decide +kernel
theorem d7_item_170 : decode cX7_item 170 = .ok (.aload_n 0, 1) := by decide +kernel
theorem d7_item_171 : decode cX7_item 171 = .ok (.iconst 1, 1) := by decide +kernel
theorem d7_item_172 : decode cX7_item 172 = .ok (.aload_n 0, 1) := by decide +kernel
theorem d7_item_173 : decode cX7_item 173 = .ok (.getfield 70, 3) := by decide +kernel
theorem d7_item_176 : decode cX7_item 176 = .ok (.iconst 0, 1) := by decide +kernel
theorem d7_item_177 : decode cX7_item 177 = .ok (.iaload, 1) := by decide +kernel
theorem d7_item_178 : decode cX7_item 178 = .ok (.aload_n 0, 1) := by decide +kernel
theorem d7_item_179 : decode cX7_item 179 = .ok (.getfield 70, 3) := by decide +kernel
theorem d7_item_182 : decode cX7_item 182 = .ok (.iconst 1, 1) := by decide +kernel
theorem d7_item_183 : decode cX7_item 183 = .ok (.iaload, 1) := by decide +kernel
theorem d7_item_184 : decode cX7_item 184 = .ok (.invokevirtual 99, 3) := by decide +kernel
theorem d7_item_187 : decode cX7_item 187 = .ok (.iconst 1, 1) := by decide +kernel
theorem d7_item_188 : decode cX7_item 188 = .ok (.ireturn, 1) := by decide +kernel
theorem d7_item_189 : decode cX7_item 189 = .ok (.aload_n 0, 1) := by decide +kernel
theorem d7_item_190 : decode cX7_item 190 = .ok (.iconst 2, 1) := by decide +kernel
theorem d7_item_191 : decode cX7_item 191 = .ok (.invokevirtual 134, 3) := by decide +kernel
theorem d7_item_194 : decode cX7_item 194 = .ok (.ifCond .eq 35, 3) := by decide +kernel
theorem d7_item_197 : decode cX7_item 197 = .ok (.aload_n 0, 1) := by decide +kernel
theorem d7_item_198 : decode cX7_item 198 = .ok (.getfield 22, 3) := by decide +kernel
theorem d7_item_201 : decode cX7_item 201 = .ok (.iconst 1, 1) := by decide +kernel
theorem d7_item_202 : decode cX7_item 202 = .ok (.iaload, 1) := by decide +kernel
theorem d7_item_203 : decode cX7_item 203 = .ok (.bipush 8, 2) := by decide +kernel
theorem d7_item_205 : decode cX7_item 205 = .ok (.if_icmp .eq 24, 3) := by decide +kernel
theorem d7_item_208 : decode cX7_item 208 = .ok (.aload_n 0, 1) := by decide +kernel
theorem d7_item_209 : decode cX7_item 209 = .ok (.getfield 70, 3) := by decide +kernel
theorem d7_item_212 : decode cX7_item 212 = .ok (.iconst 0, 1) := by decide +kernel
theorem d7_item_213 : decode cX7_item 213 = .ok (.iaload, 1) := by decide +kernel
theorem d7_item_214 : decode cX7_item 214 = .ok (.bipush 59, 2) := by decide +kernel
theorem d7_item_216 : decode cX7_item 216 = .ok (.if_icmp .gt 13, 3) := by decide +kernel
theorem d7_item_219 : decode cX7_item 219 = .ok (.aload_n 0, 1) := by decide +kernel
theorem d7_item_220 : decode cX7_item 220 = .ok (.getfield 70, 3) := by decide +kernel
theorem d7_item_223 : decode cX7_item 223 = .ok (.iconst 1, 1) := by decide +kernel
theorem d7_item_224 : decode cX7_item 224 = .ok (.iaload, 1) := by decide +kernel
theorem d7_item_225 : decode cX7_item 225 = .ok (.iconst 3, 1) := by decide +kernel
theorem d7_item_226 : decode cX7_item 226 = .ok (.if_icmp .le 5, 3) := by decide +kernel
theorem d7_item_229 : decode cX7_item 229 = .ok (.iconst 0, 1) := by decide +kernel
theorem d7_item_230 : decode cX7_item 230 = .ok (.ireturn, 1) := by decide +kernel
theorem d7_item_231 : decode cX7_item 231 = .ok (.aload_n 0, 1) := by decide +kernel
theorem d7_item_232 : decode cX7_item 232 = .ok (.iconst 1, 1) := by decide +kernel
theorem d7_item_233 : decode cX7_item 233 = .ok (.aload_n 0, 1) := by decide +kernel
theorem d7_item_234 : decode cX7_item 234 = .ok (.getfield 70, 3) := by decide +kernel
theorem d7_item_237 : decode cX7_item 237 = .ok (.iconst 0, 1) := by decide +kernel
theorem d7_item_238 : decode cX7_item 238 = .ok (.iaload, 1) := by decide +kernel
theorem d7_item_239 : decode cX7_item 239 = .ok (.aload_n 0, 1) := by decide +kernel
theorem d7_item_240 : decode cX7_item 240 = .ok (.getfield 70, 3) := by decide +kernel
theorem d7_item_243 : decode cX7_item 243 = .ok (.iconst 1, 1) := by decide +kernel
theorem d7_item_244 : decode cX7_item 244 = .ok (.iaload, 1) := by decide +kernel
theorem d7_item_245 : decode cX7_item 245 = .ok (.invokevirtual 103, 3) := by decide +kernel
theorem d7_item_248 : decode cX7_item 248 = .ok (.iconst 1, 1) := by decide +kernel
theorem d7_item_249 : decode cX7_item 249 = .ok (.ireturn, 1) := by decide +kernel
theorem d7_item_250 : decode cX7_item 250 = .ok (.aload_n 0, 1) := by decide +kernel
theorem d7_item_251 : decode cX7_item 251 = .ok (.iconst 1, 1) := by decide +kernel
theorem d7_item_252 : decode cX7_item 252 = .ok (.invokevirtual 134, 3) := by decide +kernel
theorem d7_item_255 : decode cX7_item 255 = .ok (.ifCond .eq 24, 3) := by decide +kernel
theorem d7_item_258 : decode cX7_item 258 = .ok (.aload_n 0, 1) := by decide +kernel
theorem d7_item_259 : decode cX7_item 259 = .ok (.iconst 0, 1) := by decide +kernel
theorem d7_item_260 : decode cX7_item 260 = .ok (.aload_n 0, 1) := by decide +kernel
theorem d7_item_261 : decode cX7_item 261 = .ok (.getfield 70, 3) := by decide +kernel
theorem d7_item_264 : decode cX7_item 264 = .ok (.iconst 0, 1) := by decide +kernel
theorem d7_item_265 : decode cX7_item 265 = .ok (.iaload, 1) := by decide +kernel
theorem d7_item_266 : decode cX7_item 266 = .ok (.iconst 1, 1) := by decide +kernel
theorem d7_item_267 : decode cX7_item 267 = .ok (.bipush 9, 2) := by decide +kernel
theorem d7_item_269 : decode cX7_item 269 = .ok (.invokevirtual 138, 3) := by decide +kernel
theorem d7_item_272 : decode cX7_item 272 = .ok (.ifCond .eq 7, 3) := by decide +kernel
theorem d7_item_275 : decode cX7_item 275 = .ok (.iconst 1, 1) := by decide +kernel
theorem d7_item_276 : decode cX7_item 276 = .ok (.goto 4, 3) := by decide +kernel
theorem d7_item_279 : decode cX7_item 279 = .ok (.iconst 0, 1) := by decide +kernel
theorem d7_item_280 : decode cX7_item 280 = .ok (.ireturn, 1) := by decide +kernel
theorem d7_item_281 : decode cX7_item 281 = .ok (.aload_n 0, 1) := by decide +kernel
theorem d7_item_282 : decode cX7_item 282 = .ok (.iconst 1, 1) := by decide +kernel
theorem d7_item_283 : decode cX7_item 283 = .ok (.invokevirtual 134, 3) := by decide +kernel
theorem d7_item_286 : decode cX7_item 286 = .ok (.ifCond .eq 24, 3) := by decide +kernel
theorem d7_item_289 : decode cX7_item 289 = .ok (.aload_n 0, 1) := by decide +kernel
theorem d7_item_290 : decode cX7_item 290 = .ok (.iconst 1, 1) := by decide +kernel
theorem d7_item_291 : decode cX7_item 291 = .ok (.aload_n 0, 1) := by decide +kernel
theorem d7_item_292 : decode cX7_item 292 = .ok (.getfield 70, 3) := by decide +kernel
theorem d7_item_295 : decode cX7_item 295 = .ok (.iconst 0, 1) := by decide +kernel
theorem d7_item_296 : decode cX7_item 296 = .ok (.iaload, 1) := by decide +kernel
theorem d7_item_297 : decode cX7_item 297 = .ok (.iconst 0, 1) := by decide +kernel
theorem d7_item_298 : decode cX7_item 298 = .ok (.bipush 99, 2) := by decide +kernel
theorem d7_item_300 : decode cX7_item 300 = .ok (.invokevirtual 138, 3) := by decide +kernel
theorem d7_item_303 : decode cX7_item 303 = .ok (.ifCond .eq 7, 3) := by decide +kernel
theorem d7_item_306 : decode cX7_item 306 = .ok (.iconst 1, 1) := by decide +kernel
theorem d7_item_307 : decode cX7_item 307 = .ok (.goto 4, 3) := by decide +kernel
theorem d7_item_310 : decode cX7_item 310 = .ok (.iconst 0, 1) := by decide +kernel
theorem d7_item_311 : decode cX7_item 311 = .ok (.ireturn, 1) := by decide +kernel
theorem d7_item_312 : decode cX7_item 312 = .ok (.aload_n 0, 1) := by decide +kernel
theorem d7_item_313 : decode cX7_item 313 = .ok (.iconst 2, 1) := by decide +kernel
theorem d7_item_314 : decode cX7_item 314 = .ok (.invokevirtual 134, 3) := by decide +kernel
theorem d7_item_317 : decode cX7_item 317 = .ok (.ifCond .eq 24, 3) := by decide +kernel
theorem d7_item_320 : decode cX7_item 320 = .ok (.aload_n 0, 1) := by decide +kernel
theorem d7_item_321 : decode cX7_item 321 = .ok (.getfield 70, 3) := by decide +kernel
theorem d7_item_324 : decode cX7_item 324 = .ok (.iconst 0, 1) := by decide +kernel
theorem d7_item_325 : decode cX7_item 325 = .ok (.iaload, 1) := by decide +kernel
theorem d7_item_326 : decode cX7_item 326 = .ok (.iconst 3, 1) := by decide +kernel
theorem d7_item_327 : decode cX7_item 327 = .ok (.if_icmp .gt 14, 3) := by decide +kernel
theorem d7_item_330 : decode cX7_item 330 = .ok (.aload_n 0, 1) := by decide +kernel
theorem d7_item_331 : decode cX7_item 331 = .ok (.getfield 70, 3) := by decide +kernel
theorem d7_item_334 : decode cX7_item 334 = .ok (.iconst 1, 1) := by decide +kernel
theorem d7_item_335 : decode cX7_item 335 = .ok (.iaload, 1) := by decide +kernel
theorem d7_item_336 : decode cX7_item 336 = .ok (.bipush 9, 2) := by decide +kernel
theorem d7_item_338 : decode cX7_item 338 = .ok (.if_icmp .le 5, 3) := by decide +kernel
theorem d7_item_341 : decode cX7_item 341 = .ok (.iconst 0, 1) := by decide +kernel
theorem d7_item_342 : decode cX7_item 342 = .ok (.ireturn, 1) := by decide +kernel
theorem d7_item_343 : decode cX7_item 343 = .ok (.aload_n 0, 1) := by decide +kernel
theorem d7_item_344 : decode cX7_item 344 = .ok (.getfield 34, 3) := by decide +kernel
theorem d7_item_347 : decode cX7_item 347 = .ok (.iconst 4, 1) := by decide +kernel
theorem d7_item_348 : decode cX7_item 348 = .ok (.aload_n 0, 1) := by decide +kernel
theorem d7_item_349 : decode cX7_item 349 = .ok (.getfield 70, 3) := by decide +kernel
theorem d7_item_352 : decode cX7_item 352 = .ok (.iconst 0, 1) := by decide +kernel
theorem d7_item_353 : decode cX7_item 353 = .ok (.iaload, 1) := by decide +kernel
theorem d7_item_354 : decode cX7_item 354 = .ok (.iadd, 1) := by decide +kernel
theorem d7_item_355 : decode cX7_item 355 = .ok (.aload_n 0, 1) := by decide +kernel
theorem d7_item_356 : decode cX7_item 356 = .ok (.getfield 70, 3) := by decide +kernel
theorem d7_item_359 : decode cX7_item 359 = .ok (.iconst 1, 1) := by decide +kernel
theorem d7_item_360 : decode cX7_item 360 = .ok (.iaload, 1) := by decide +kernel
theorem d7_item_361 : decode cX7_item 361 = .ok (.iastore, 1) := by decide +kernel
theorem d7_item_362 : decode cX7_item 362 = .ok (.iconst 1, 1) := by decide +kernel
theorem d7_item_363 : decode cX7_item 363 = .ok (.ireturn, 1) := by decide +kernel
theorem d7_item_364 : decode cX7_item 364 = .ok (.aload_n 0, 1) := by decide +kernel
theorem d7_item_365 : decode cX7_item 365 = .ok (.iconst 2, 1) := by decide +kernel
theorem d7_item_366 : decode cX7_item 366 = .ok (.invokevirtual 134, 3) := by decide +kernel
theorem d7_item_369 : decode cX7_item 369 = .ok (.ifCond .eq 41, 3) := by decide +kernel
theorem d7_item_372 : decode cX7_item 372 = .ok (.aload_n 0, 1) := by decide +kernel
theorem d7_item_373 : decode cX7_item 373 = .ok (.iconst 2, 1) := by decide +kernel
theorem d7_item_374 : decode cX7_item 374 = .ok (.aload_n 0, 1) := by decide +kernel
theorem d7_item_375 : decode cX7_item 375 = .ok (.getfield 70, 3) := by decide +kernel
theorem d7_item_378 : decode cX7_item 378 = .ok (.iconst 0, 1) := by decide +kernel
theorem d7_item_379 : decode cX7_item 379 = .ok (.iaload, 1) := by decide +kernel
theorem d7_item_380 : decode cX7_item 380 = .ok (.iconst 1, 1) := by decide +kernel
theorem d7_item_381 : decode cX7_item 381 = .ok (.bipush 99, 2) := by decide +kernel
theorem d7_item_383 : decode cX7_item 383 = .ok (.invokevirtual 138, 3) := by decide +kernel
theorem d7_item_386 : decode cX7_item 386 = .ok (.ifCond .eq 24, 3) := by decide +kernel
theorem d7_item_389 : decode cX7_item 389 = .ok (.aload_n 0, 1) := by decide +kernel
theorem d7_item_390 : decode cX7_item 390 = .ok (.iconst 3, 1) := by decide +kernel
theorem d7_item_391 : decode cX7_item 391 = .ok (.aload_n 0, 1) := by decide +kernel
theorem d7_item_392 : decode cX7_item 392 = .ok (.getfield 70, 3) := by decide +kernel
theorem d7_item_395 : decode cX7_item 395 = .ok (.iconst 1, 1) := by decide +kernel
theorem d7_item_396 : decode cX7_item 396 = .ok (.iaload, 1) := by decide +kernel
theorem d7_item_397 : decode cX7_item 397 = .ok (.iconst 0, 1) := by decide +kernel
theorem d7_item_398 : decode cX7_item 398 = .ok (.bipush 99, 2) := by decide +kernel
theorem d7_item_400 : decode cX7_item 400 = .ok (.invokevirtual 138, 3) := by decide +kernel
theorem d7_item_403 : decode cX7_item 403 = .ok (.ifCond .eq 7, 3) := by decide +kernel
theorem d7_item_406 : decode cX7_item 406 = .ok (.iconst 1, 1) := by decide +kernel
theorem d7_item_407 : decode cX7_item 407 = .ok (.goto 4, 3) := by decide +kernel
theorem d7_item_410 : decode cX7_item 410 = .ok (.iconst 0, 1) := by decide +kernel
theorem d7_item_411 : decode cX7_item 411 = .ok (.ireturn, 1) := by decide +kernel
theorem d7_item_412 : decode cX7_item 412 = .ok (.aload_n 0, 1) := by decide +kernel
theorem d7_item_413 : decode cX7_item 413 = .ok (.invokevirtual 142, 3) := by decide +kernel
theorem d7_item_416 : decode cX7_item 416 = .ok (.ireturn, 1) := by decide +kernel
theorem d7_item_417 : decode cX7_item 417 = .ok (.aload_n 0, 1) := by decide +kernel
theorem d7_item_418 : decode cX7_item 418 = .ok (.invokevirtual 146, 3) := by decide +kernel
theorem d7_item_421 : decode cX7_item 421 = .ok (.ireturn, 1) := by decide +kernel
theorem d7_item_422 : decode cX7_item 422 = .ok (.iconst 0, 1) := by decide +kernel
theorem d7_item_423 : decode cX7_item 423 = .ok (.ireturn, 1) := by decide +kernel
def f7_item (σ : Mem) : Option (Mem × Int32) := Option.bind (f7_letterAt σ (σ 0 24)) fun r1 => bm (mu σ 0 24 ((σ 0 24) + 1)) fun σ2 => if r1 = 97 then ob (f7_figures σ2 2) fun σ4 r4 => if r4 = 0 then some (σ4, 0) else ob (f7_setTold σ4 2 (σ4 26 0) 1 99) fun σ6 r6 => if r6 = 0 then some (σ6, 0) else ob (f7_setTold σ6 3 (σ6 26 1) 0 99) fun σ8 r8 => if r8 = 0 then some (σ8, 0) else some (σ8, 1) else if r1 = 99 then ob (f7_figures σ2 1) fun σ5 r5 => if r5 = 0 then some (σ5, 0) else ob (f7_setTold σ5 1 (σ5 26 0) 0 99) fun σ7 r7 => if r7 = 0 then some (σ7, 0) else some (σ7, 1) else if r1 = 103 then ob (f7_figures σ2 1) fun σ6 r6 => if r6 = 0 then some (σ6, 0) else ob (f7_setTold σ6 0 (σ6 26 0) 1 9) fun σ8 r8 => if r8 = 0 then some (σ8, 0) else some (σ8, 1) else if r1 = 107 then ob (f7_closingItem σ2) fun σ7 r7 => if r7 = 0 ∨ r7 = 1 then some (σ7, r7) else none else if r1 = 111 then ob (f7_oddsItem σ2) fun σ8 r8 => if r8 = 0 ∨ r8 = 1 then some (σ8, r8) else none else if r1 = 116 then ob (f7_figures σ2 2) fun σ9 r9 => if r9 = 0 then some (σ9, 0) else if (σ9 3 1) = 6 then some (σ9, 0) else if 59 < (σ9 26 0) then some (σ9, 0) else if (σ9 26 1) ≤ 2 then Option.bind (f7_addTrain σ9 1 (σ9 26 0) (σ9 26 1)) fun σ14 => some (σ14, 1) else some (σ9, 0) else if r1 = 117 then ob (f7_figures σ2 2) fun σ10 r10 => if r10 = 0 then some (σ10, 0) else if (σ10 6 1) = 8 then some (σ10, 0) else if 59 < (σ10 26 0) then some (σ10, 0) else if (σ10 26 1) ≤ 3 then Option.bind (f7_addUser σ10 1 (σ10 26 0) (σ10 26 1)) fun σ15 => some (σ15, 1) else some (σ10, 0) else if r1 = 119 then ob (f7_figures σ2 2) fun σ11 r11 => if r11 = 0 then some (σ11, 0) else if 3 < (σ11 26 0) then some (σ11, 0) else if (σ11 26 1) ≤ 9 then if ¬ (4 + (σ11 26 0) < 0 ∨ 8 ≤ (4 + (σ11 26 0)).toNatClampNeg) then (bm (mu σ11 10 ((4 + (σ11 26 0)).toNatClampNeg) (σ11 26 1)) fun σ16 => some (σ16, 1)) else none else some (σ11, 0) else some (σ2, 0)
set_option maxHeartbeats 4000000 in
set_option maxRecDepth 100000 in
theorem c7_item (l : Launch) {w : WV} {σ : Mem} {σ' : Mem} {r : Int32} (h0 : f7_item σ = some (σ', r)) : Met l yX7_item (wy yX7_item cX7_item 2 (some .boolean)) rm7_item (Pw EM LM w [.ref (w.2.2 0)] σ) (Qw EM LM w σ' (some (.int r))) 0 0 (AW LM w) := by
  refine mk_met (by decide) (Nat.le_of_ble_eq_true rfl) ?_
  intro p e s m below meth c S hr hlk hK hR ls hl
  obtain ⟨hx, hb, hml, hown, hts⟩ := id S
  have hl : lv_has ls 2 [(0, .ref (w.2.2 0))] := hl
  have hS : va_S (AW LM w) s.heap s.heap [] := va_S.rf
  unfold f7_item at h0
  refine lv_aload_n hx hb d7_item_0 rfl (lv_at hl 0 rfl) ?_
  refine lv_aload_n hx hb d7_item_1 rfl (lv_at hl 0 rfl) ?_
  refine g7_121 S hK hR d7_item_2 ?_
  obtain ⟨r1, hr1, h0⟩ := og_b h0
  refine k7_124 S hK hR  hr1 ⟨Nat.zero_le _, Nat.zero_le _⟩ ⟨Nat.le_of_ble_eq_true rfl, Nat.le_of_ble_eq_true rfl⟩ hl.1 (Nat.le_of_ble_eq_true rfl) d7_item_5 ?_
  refine lv_istore_n (lv' := [(1, .int r1), (0, .ref (w.2.2 0))]) hx hb d7_item_8 rfl hl (by decide) rfl (fun ls hl => ?_)
  refine lv_aload_n hx hb d7_item_9 rfl (lv_at hl 1 rfl) ?_
  refine lv_dup hx hb d7_item_10 rfl ?_
  refine g7_121 S hK hR d7_item_11 ?_
  refine lv_iconst (v := 1) hx hb d7_item_14 (by decide) ?_
  refine lv_iadd hx hb d7_item_15 ?_
  obtain ⟨σ2, hm2, h0⟩ := og_m h0
  refine u7_121 S hK hR hS hm2 d7_item_16 (fun H locs hR hS => ?_)
  refine lv_iload_n hx hb d7_item_19 rfl (lv_at hl 0 rfl) ?_
  by_cases hc3 : r1 = 97
  · have h0 := og_t hc3 h0
    refine q_tabI (off := 344) (tgt := 364) S d7_item_20 hc3 (by decide) (by decide) (by decide) (by decide) ?_
    refine lv_aload_n hx hb d7_item_364 rfl (lv_at hl 1 rfl) ?_
    refine lv_iconst (v := 2) hx hb d7_item_365 (by decide) ?_
    obtain ⟨σ4, r4, hr4, h0⟩ := og_o h0
    refine k7_134 S hK hR hS  hr4 ⟨Nat.zero_le _, Nat.zero_le _⟩ ⟨Nat.le_of_ble_eq_true rfl, Nat.le_of_ble_eq_true rfl⟩ hl.1 (Nat.le_of_ble_eq_true rfl) d7_item_366 (fun H locs hR hS => ?_)
    refine lv_if_eq (tgt := 410) hx hb d7_item_369 (by decide) (fun hc5 => ?_) (fun hc5 => ?_)
    · have h0 := og_t hc5 h0
      refine lv_iconst (v := 0) hx hb d7_item_410 (by decide) ?_
      exact q_zret S hr hlk hR hS (Or.inl rfl) h0 d7_item_411
    · have h0 := og_f hc5 h0
      refine lv_aload_n hx hb d7_item_372 rfl (lv_at hl 1 rfl) ?_
      refine lv_iconst (v := 2) hx hb d7_item_373 (by decide) ?_
      refine lv_aload_n hx hb d7_item_374 rfl (lv_at hl 1 rfl) ?_
      refine g7_70 S hK hR d7_item_375 ?_
      refine lv_iconst (v := 0) hx hb d7_item_378 (by decide) ?_
      refine q_ld (k := 0) S hK hR (by decide) (eM_125 w _) (vin (by decide)) (by decide) d7_item_379 ?_
      refine lv_iconst (v := 1) hx hb d7_item_380 (by decide) ?_
      refine lv_bipush (v := 99) hx hb d7_item_381 (by decide) ?_
      obtain ⟨σ6, r6, hr6, h0⟩ := og_o h0
      refine k7_138 S hK hR hS  hr6 ⟨Nat.zero_le _, Nat.zero_le _⟩ ⟨Nat.le_of_ble_eq_true rfl, Nat.le_of_ble_eq_true rfl⟩ hl.1 (Nat.le_of_ble_eq_true rfl) d7_item_383 (fun H locs hR hS => ?_)
      refine lv_if_eq (tgt := 410) hx hb d7_item_386 (by decide) (fun hc7 => ?_) (fun hc7 => ?_)
      · have h0 := og_t hc7 h0
        refine lv_iconst (v := 0) hx hb d7_item_410 (by decide) ?_
        exact q_zret S hr hlk hR hS (Or.inl rfl) h0 d7_item_411
      · have h0 := og_f hc7 h0
        refine lv_aload_n hx hb d7_item_389 rfl (lv_at hl 1 rfl) ?_
        refine lv_iconst (v := 3) hx hb d7_item_390 (by decide) ?_
        refine lv_aload_n hx hb d7_item_391 rfl (lv_at hl 1 rfl) ?_
        refine g7_70 S hK hR d7_item_392 ?_
        refine lv_iconst (v := 1) hx hb d7_item_395 (by decide) ?_
        refine q_ld (k := 1) S hK hR (by decide) (eM_125 w _) (vin (by decide)) (by decide) d7_item_396 ?_
        refine lv_iconst (v := 0) hx hb d7_item_397 (by decide) ?_
        refine lv_bipush (v := 99) hx hb d7_item_398 (by decide) ?_
        obtain ⟨σ8, r8, hr8, h0⟩ := og_o h0
        refine k7_138 S hK hR hS  hr8 ⟨Nat.zero_le _, Nat.zero_le _⟩ ⟨Nat.le_of_ble_eq_true rfl, Nat.le_of_ble_eq_true rfl⟩ hl.1 (Nat.le_of_ble_eq_true rfl) d7_item_400 (fun H locs hR hS => ?_)
        refine lv_if_eq (tgt := 410) hx hb d7_item_403 (by decide) (fun hc9 => ?_) (fun hc9 => ?_)
        · have h0 := og_t hc9 h0
          refine lv_iconst (v := 0) hx hb d7_item_410 (by decide) ?_
          exact q_zret S hr hlk hR hS (Or.inl rfl) h0 d7_item_411
        · have h0 := og_f hc9 h0
          refine lv_iconst (v := 1) hx hb d7_item_406 (by decide) ?_
          refine lv_goto (tgt := 411) hx hb d7_item_407 (by decide) ?_
          exact q_zret S hr hlk hR hS (Or.inr rfl) h0 d7_item_411
  · have h0 := og_f hc3 h0
    by_cases hc4 : r1 = 99
    · have h0 := og_t hc4 h0
      refine q_tabI (off := 261) (tgt := 281) S d7_item_20 hc4 (by decide) (by decide) (by decide) (by decide) ?_
      refine lv_aload_n hx hb d7_item_281 rfl (lv_at hl 1 rfl) ?_
      refine lv_iconst (v := 1) hx hb d7_item_282 (by decide) ?_
      obtain ⟨σ5, r5, hr5, h0⟩ := og_o h0
      refine k7_134 S hK hR hS  hr5 ⟨Nat.zero_le _, Nat.zero_le _⟩ ⟨Nat.le_of_ble_eq_true rfl, Nat.le_of_ble_eq_true rfl⟩ hl.1 (Nat.le_of_ble_eq_true rfl) d7_item_283 (fun H locs hR hS => ?_)
      refine lv_if_eq (tgt := 310) hx hb d7_item_286 (by decide) (fun hc6 => ?_) (fun hc6 => ?_)
      · have h0 := og_t hc6 h0
        refine lv_iconst (v := 0) hx hb d7_item_310 (by decide) ?_
        exact q_zret S hr hlk hR hS (Or.inl rfl) h0 d7_item_311
      · have h0 := og_f hc6 h0
        refine lv_aload_n hx hb d7_item_289 rfl (lv_at hl 1 rfl) ?_
        refine lv_iconst (v := 1) hx hb d7_item_290 (by decide) ?_
        refine lv_aload_n hx hb d7_item_291 rfl (lv_at hl 1 rfl) ?_
        refine g7_70 S hK hR d7_item_292 ?_
        refine lv_iconst (v := 0) hx hb d7_item_295 (by decide) ?_
        refine q_ld (k := 0) S hK hR (by decide) (eM_125 w _) (vin (by decide)) (by decide) d7_item_296 ?_
        refine lv_iconst (v := 0) hx hb d7_item_297 (by decide) ?_
        refine lv_bipush (v := 99) hx hb d7_item_298 (by decide) ?_
        obtain ⟨σ7, r7, hr7, h0⟩ := og_o h0
        refine k7_138 S hK hR hS  hr7 ⟨Nat.zero_le _, Nat.zero_le _⟩ ⟨Nat.le_of_ble_eq_true rfl, Nat.le_of_ble_eq_true rfl⟩ hl.1 (Nat.le_of_ble_eq_true rfl) d7_item_300 (fun H locs hR hS => ?_)
        refine lv_if_eq (tgt := 310) hx hb d7_item_303 (by decide) (fun hc8 => ?_) (fun hc8 => ?_)
        · have h0 := og_t hc8 h0
          refine lv_iconst (v := 0) hx hb d7_item_310 (by decide) ?_
          exact q_zret S hr hlk hR hS (Or.inl rfl) h0 d7_item_311
        · have h0 := og_f hc8 h0
          refine lv_iconst (v := 1) hx hb d7_item_306 (by decide) ?_
          refine lv_goto (tgt := 311) hx hb d7_item_307 (by decide) ?_
          exact q_zret S hr hlk hR hS (Or.inr rfl) h0 d7_item_311
    · have h0 := og_f hc4 h0
      by_cases hc5 : r1 = 103
      · have h0 := og_t hc5 h0
        refine q_tabI (off := 230) (tgt := 250) S d7_item_20 hc5 (by decide) (by decide) (by decide) (by decide) ?_
        refine lv_aload_n hx hb d7_item_250 rfl (lv_at hl 1 rfl) ?_
        refine lv_iconst (v := 1) hx hb d7_item_251 (by decide) ?_
        obtain ⟨σ6, r6, hr6, h0⟩ := og_o h0
        refine k7_134 S hK hR hS  hr6 ⟨Nat.zero_le _, Nat.zero_le _⟩ ⟨Nat.le_of_ble_eq_true rfl, Nat.le_of_ble_eq_true rfl⟩ hl.1 (Nat.le_of_ble_eq_true rfl) d7_item_252 (fun H locs hR hS => ?_)
        refine lv_if_eq (tgt := 279) hx hb d7_item_255 (by decide) (fun hc7 => ?_) (fun hc7 => ?_)
        · have h0 := og_t hc7 h0
          refine lv_iconst (v := 0) hx hb d7_item_279 (by decide) ?_
          exact q_zret S hr hlk hR hS (Or.inl rfl) h0 d7_item_280
        · have h0 := og_f hc7 h0
          refine lv_aload_n hx hb d7_item_258 rfl (lv_at hl 1 rfl) ?_
          refine lv_iconst (v := 0) hx hb d7_item_259 (by decide) ?_
          refine lv_aload_n hx hb d7_item_260 rfl (lv_at hl 1 rfl) ?_
          refine g7_70 S hK hR d7_item_261 ?_
          refine lv_iconst (v := 0) hx hb d7_item_264 (by decide) ?_
          refine q_ld (k := 0) S hK hR (by decide) (eM_125 w _) (vin (by decide)) (by decide) d7_item_265 ?_
          refine lv_iconst (v := 1) hx hb d7_item_266 (by decide) ?_
          refine lv_bipush (v := 9) hx hb d7_item_267 (by decide) ?_
          obtain ⟨σ8, r8, hr8, h0⟩ := og_o h0
          refine k7_138 S hK hR hS  hr8 ⟨Nat.zero_le _, Nat.zero_le _⟩ ⟨Nat.le_of_ble_eq_true rfl, Nat.le_of_ble_eq_true rfl⟩ hl.1 (Nat.le_of_ble_eq_true rfl) d7_item_269 (fun H locs hR hS => ?_)
          refine lv_if_eq (tgt := 279) hx hb d7_item_272 (by decide) (fun hc9 => ?_) (fun hc9 => ?_)
          · have h0 := og_t hc9 h0
            refine lv_iconst (v := 0) hx hb d7_item_279 (by decide) ?_
            exact q_zret S hr hlk hR hS (Or.inl rfl) h0 d7_item_280
          · have h0 := og_f hc9 h0
            refine lv_iconst (v := 1) hx hb d7_item_275 (by decide) ?_
            refine lv_goto (tgt := 280) hx hb d7_item_276 (by decide) ?_
            exact q_zret S hr hlk hR hS (Or.inr rfl) h0 d7_item_280
      · have h0 := og_f hc5 h0
        by_cases hc6 : r1 = 107
        · have h0 := og_t hc6 h0
          refine q_tabI (off := 392) (tgt := 412) S d7_item_20 hc6 (by decide) (by decide) (by decide) (by decide) ?_
          refine lv_aload_n hx hb d7_item_412 rfl (lv_at hl 1 rfl) ?_
          obtain ⟨σ7, r7, hr7, h0⟩ := og_o h0
          refine k7_142 S hK hR hS  hr7 ⟨Nat.zero_le _, Nat.zero_le _⟩ ⟨Nat.le_of_ble_eq_true rfl, Nat.le_of_ble_eq_true rfl⟩ hl.1 (Nat.le_of_ble_eq_true rfl) d7_item_413 (fun H locs hR hS => ?_)
          obtain ⟨hb0, h0⟩ := og_if h0
          exact q_zret S hr hlk hR hS hb0 h0 d7_item_416
        · have h0 := og_f hc6 h0
          by_cases hc7 : r1 = 111
          · have h0 := og_t hc7 h0
            refine q_tabI (off := 397) (tgt := 417) S d7_item_20 hc7 (by decide) (by decide) (by decide) (by decide) ?_
            refine lv_aload_n hx hb d7_item_417 rfl (lv_at hl 1 rfl) ?_
            obtain ⟨σ8, r8, hr8, h0⟩ := og_o h0
            refine k7_146 S hK hR hS  hr8 ⟨Nat.zero_le _, Nat.zero_le _⟩ ⟨Nat.le_of_ble_eq_true rfl, Nat.le_of_ble_eq_true rfl⟩ hl.1 (Nat.le_of_ble_eq_true rfl) d7_item_418 (fun H locs hR hS => ?_)
            obtain ⟨hb0, h0⟩ := og_if h0
            exact q_zret S hr hlk hR hS hb0 h0 d7_item_421
          · have h0 := og_f hc7 h0
            by_cases hc8 : r1 = 116
            · have h0 := og_t hc8 h0
              refine q_tabI (off := 108) (tgt := 128) S d7_item_20 hc8 (by decide) (by decide) (by decide) (by decide) ?_
              refine lv_aload_n hx hb d7_item_128 rfl (lv_at hl 1 rfl) ?_
              refine lv_iconst (v := 2) hx hb d7_item_129 (by decide) ?_
              obtain ⟨σ9, r9, hr9, h0⟩ := og_o h0
              refine k7_134 S hK hR hS  hr9 ⟨Nat.zero_le _, Nat.zero_le _⟩ ⟨Nat.le_of_ble_eq_true rfl, Nat.le_of_ble_eq_true rfl⟩ hl.1 (Nat.le_of_ble_eq_true rfl) d7_item_130 (fun H locs hR hS => ?_)
              refine lv_if_eq (tgt := 168) hx hb d7_item_133 (by decide) (fun hc10 => ?_) (fun hc10 => ?_)
              · have h0 := og_t hc10 h0
                refine lv_iconst (v := 0) hx hb d7_item_168 (by decide) ?_
                exact q_zret S hr hlk hR hS (Or.inl rfl) h0 d7_item_169
              · have h0 := og_f hc10 h0
                refine lv_aload_n hx hb d7_item_136 rfl (lv_at hl 1 rfl) ?_
                refine g7_13 S hK hR d7_item_137 ?_
                refine lv_iconst (v := 1) hx hb d7_item_140 (by decide) ?_
                refine q_ld (k := 1) S hK hR (by decide) (eM_102 w _) (vin (by decide)) (by decide) d7_item_141 ?_
                refine lv_bipush (v := 6) hx hb d7_item_142 (by decide) ?_
                refine lv_icmp_eq (tgt := 168) hx hb d7_item_144 (by decide) (fun hc11 => ?_) (fun hc11 => ?_)
                · have h0 := og_t hc11 h0
                  refine lv_iconst (v := 0) hx hb d7_item_168 (by decide) ?_
                  exact q_zret S hr hlk hR hS (Or.inl rfl) h0 d7_item_169
                · have h0 := og_f hc11 h0
                  refine lv_aload_n hx hb d7_item_147 rfl (lv_at hl 1 rfl) ?_
                  refine g7_70 S hK hR d7_item_148 ?_
                  refine lv_iconst (v := 0) hx hb d7_item_151 (by decide) ?_
                  refine q_ld (k := 0) S hK hR (by decide) (eM_125 w _) (vin (by decide)) (by decide) d7_item_152 ?_
                  refine lv_bipush (v := 59) hx hb d7_item_153 (by decide) ?_
                  refine lv_icmp_gt (tgt := 168) hx hb d7_item_155 (by decide) (fun hc12 => ?_) (fun hc12 => ?_)
                  · have h0 := og_t hc12 h0
                    refine lv_iconst (v := 0) hx hb d7_item_168 (by decide) ?_
                    exact q_zret S hr hlk hR hS (Or.inl rfl) h0 d7_item_169
                  · have h0 := og_f hc12 h0
                    refine lv_aload_n hx hb d7_item_158 rfl (lv_at hl 1 rfl) ?_
                    refine g7_70 S hK hR d7_item_159 ?_
                    refine lv_iconst (v := 1) hx hb d7_item_162 (by decide) ?_
                    refine q_ld (k := 1) S hK hR (by decide) (eM_125 w _) (vin (by decide)) (by decide) d7_item_163 ?_
                    refine lv_iconst (v := 2) hx hb d7_item_164 (by decide) ?_
                    refine lv_icmp_le (tgt := 170) hx hb d7_item_165 (by decide) (fun hc13 => ?_) (fun hc13 => ?_)
                    · have h0 := og_t hc13 h0
                      refine lv_aload_n hx hb d7_item_170 rfl (lv_at hl 1 rfl) ?_
                      refine lv_iconst (v := 1) hx hb d7_item_171 (by decide) ?_
                      refine lv_aload_n hx hb d7_item_172 rfl (lv_at hl 1 rfl) ?_
                      refine g7_70 S hK hR d7_item_173 ?_
                      refine lv_iconst (v := 0) hx hb d7_item_176 (by decide) ?_
                      refine q_ld (k := 0) S hK hR (by decide) (eM_125 w _) (vin (by decide)) (by decide) d7_item_177 ?_
                      refine lv_aload_n hx hb d7_item_178 rfl (lv_at hl 1 rfl) ?_
                      refine g7_70 S hK hR d7_item_179 ?_
                      refine lv_iconst (v := 1) hx hb d7_item_182 (by decide) ?_
                      refine q_ld (k := 1) S hK hR (by decide) (eM_125 w _) (vin (by decide)) (by decide) d7_item_183 ?_
                      obtain ⟨σ14, hr14, h0⟩ := og_b h0
                      refine k7_99 S hK hR hS  hr14 ⟨Nat.zero_le _, Nat.zero_le _⟩ ⟨Nat.le_of_ble_eq_true rfl, Nat.le_of_ble_eq_true rfl⟩ hl.1 (Nat.le_of_ble_eq_true rfl) d7_item_184 (fun H locs hR hS => ?_)
                      refine lv_iconst (v := 1) hx hb d7_item_187 (by decide) ?_
                      exact q_zret S hr hlk hR hS (Or.inr rfl) h0 d7_item_188
                    · have h0 := og_f hc13 h0
                      refine lv_iconst (v := 0) hx hb d7_item_168 (by decide) ?_
                      exact q_zret S hr hlk hR hS (Or.inl rfl) h0 d7_item_169
            · have h0 := og_f hc8 h0
              by_cases hc9 : r1 = 117
              · have h0 := og_t hc9 h0
                refine q_tabI (off := 169) (tgt := 189) S d7_item_20 hc9 (by decide) (by decide) (by decide) (by decide) ?_
                refine lv_aload_n hx hb d7_item_189 rfl (lv_at hl 1 rfl) ?_
                refine lv_iconst (v := 2) hx hb d7_item_190 (by decide) ?_
                obtain ⟨σ10, r10, hr10, h0⟩ := og_o h0
                refine k7_134 S hK hR hS  hr10 ⟨Nat.zero_le _, Nat.zero_le _⟩ ⟨Nat.le_of_ble_eq_true rfl, Nat.le_of_ble_eq_true rfl⟩ hl.1 (Nat.le_of_ble_eq_true rfl) d7_item_191 (fun H locs hR hS => ?_)
                refine lv_if_eq (tgt := 229) hx hb d7_item_194 (by decide) (fun hc11 => ?_) (fun hc11 => ?_)
                · have h0 := og_t hc11 h0
                  refine lv_iconst (v := 0) hx hb d7_item_229 (by decide) ?_
                  exact q_zret S hr hlk hR hS (Or.inl rfl) h0 d7_item_230
                · have h0 := og_f hc11 h0
                  refine lv_aload_n hx hb d7_item_197 rfl (lv_at hl 1 rfl) ?_
                  refine g7_22 S hK hR d7_item_198 ?_
                  refine lv_iconst (v := 1) hx hb d7_item_201 (by decide) ?_
                  refine q_ld (k := 1) S hK hR (by decide) (eM_105 w _) (vin (by decide)) (by decide) d7_item_202 ?_
                  refine lv_bipush (v := 8) hx hb d7_item_203 (by decide) ?_
                  refine lv_icmp_eq (tgt := 229) hx hb d7_item_205 (by decide) (fun hc12 => ?_) (fun hc12 => ?_)
                  · have h0 := og_t hc12 h0
                    refine lv_iconst (v := 0) hx hb d7_item_229 (by decide) ?_
                    exact q_zret S hr hlk hR hS (Or.inl rfl) h0 d7_item_230
                  · have h0 := og_f hc12 h0
                    refine lv_aload_n hx hb d7_item_208 rfl (lv_at hl 1 rfl) ?_
                    refine g7_70 S hK hR d7_item_209 ?_
                    refine lv_iconst (v := 0) hx hb d7_item_212 (by decide) ?_
                    refine q_ld (k := 0) S hK hR (by decide) (eM_125 w _) (vin (by decide)) (by decide) d7_item_213 ?_
                    refine lv_bipush (v := 59) hx hb d7_item_214 (by decide) ?_
                    refine lv_icmp_gt (tgt := 229) hx hb d7_item_216 (by decide) (fun hc13 => ?_) (fun hc13 => ?_)
                    · have h0 := og_t hc13 h0
                      refine lv_iconst (v := 0) hx hb d7_item_229 (by decide) ?_
                      exact q_zret S hr hlk hR hS (Or.inl rfl) h0 d7_item_230
                    · have h0 := og_f hc13 h0
                      refine lv_aload_n hx hb d7_item_219 rfl (lv_at hl 1 rfl) ?_
                      refine g7_70 S hK hR d7_item_220 ?_
                      refine lv_iconst (v := 1) hx hb d7_item_223 (by decide) ?_
                      refine q_ld (k := 1) S hK hR (by decide) (eM_125 w _) (vin (by decide)) (by decide) d7_item_224 ?_
                      refine lv_iconst (v := 3) hx hb d7_item_225 (by decide) ?_
                      refine lv_icmp_le (tgt := 231) hx hb d7_item_226 (by decide) (fun hc14 => ?_) (fun hc14 => ?_)
                      · have h0 := og_t hc14 h0
                        refine lv_aload_n hx hb d7_item_231 rfl (lv_at hl 1 rfl) ?_
                        refine lv_iconst (v := 1) hx hb d7_item_232 (by decide) ?_
                        refine lv_aload_n hx hb d7_item_233 rfl (lv_at hl 1 rfl) ?_
                        refine g7_70 S hK hR d7_item_234 ?_
                        refine lv_iconst (v := 0) hx hb d7_item_237 (by decide) ?_
                        refine q_ld (k := 0) S hK hR (by decide) (eM_125 w _) (vin (by decide)) (by decide) d7_item_238 ?_
                        refine lv_aload_n hx hb d7_item_239 rfl (lv_at hl 1 rfl) ?_
                        refine g7_70 S hK hR d7_item_240 ?_
                        refine lv_iconst (v := 1) hx hb d7_item_243 (by decide) ?_
                        refine q_ld (k := 1) S hK hR (by decide) (eM_125 w _) (vin (by decide)) (by decide) d7_item_244 ?_
                        obtain ⟨σ15, hr15, h0⟩ := og_b h0
                        refine k7_103 S hK hR hS  hr15 ⟨Nat.zero_le _, Nat.zero_le _⟩ ⟨Nat.le_of_ble_eq_true rfl, Nat.le_of_ble_eq_true rfl⟩ hl.1 (Nat.le_of_ble_eq_true rfl) d7_item_245 (fun H locs hR hS => ?_)
                        refine lv_iconst (v := 1) hx hb d7_item_248 (by decide) ?_
                        exact q_zret S hr hlk hR hS (Or.inr rfl) h0 d7_item_249
                      · have h0 := og_f hc14 h0
                        refine lv_iconst (v := 0) hx hb d7_item_229 (by decide) ?_
                        exact q_zret S hr hlk hR hS (Or.inl rfl) h0 d7_item_230
              · have h0 := og_f hc9 h0
                by_cases hc10 : r1 = 119
                · have h0 := og_t hc10 h0
                  refine q_tabI (off := 292) (tgt := 312) S d7_item_20 hc10 (by decide) (by decide) (by decide) (by decide) ?_
                  refine lv_aload_n hx hb d7_item_312 rfl (lv_at hl 1 rfl) ?_
                  refine lv_iconst (v := 2) hx hb d7_item_313 (by decide) ?_
                  obtain ⟨σ11, r11, hr11, h0⟩ := og_o h0
                  refine k7_134 S hK hR hS  hr11 ⟨Nat.zero_le _, Nat.zero_le _⟩ ⟨Nat.le_of_ble_eq_true rfl, Nat.le_of_ble_eq_true rfl⟩ hl.1 (Nat.le_of_ble_eq_true rfl) d7_item_314 (fun H locs hR hS => ?_)
                  refine lv_if_eq (tgt := 341) hx hb d7_item_317 (by decide) (fun hc12 => ?_) (fun hc12 => ?_)
                  · have h0 := og_t hc12 h0
                    refine lv_iconst (v := 0) hx hb d7_item_341 (by decide) ?_
                    exact q_zret S hr hlk hR hS (Or.inl rfl) h0 d7_item_342
                  · have h0 := og_f hc12 h0
                    refine lv_aload_n hx hb d7_item_320 rfl (lv_at hl 1 rfl) ?_
                    refine g7_70 S hK hR d7_item_321 ?_
                    refine lv_iconst (v := 0) hx hb d7_item_324 (by decide) ?_
                    refine q_ld (k := 0) S hK hR (by decide) (eM_125 w _) (vin (by decide)) (by decide) d7_item_325 ?_
                    refine lv_iconst (v := 3) hx hb d7_item_326 (by decide) ?_
                    refine lv_icmp_gt (tgt := 341) hx hb d7_item_327 (by decide) (fun hc13 => ?_) (fun hc13 => ?_)
                    · have h0 := og_t hc13 h0
                      refine lv_iconst (v := 0) hx hb d7_item_341 (by decide) ?_
                      exact q_zret S hr hlk hR hS (Or.inl rfl) h0 d7_item_342
                    · have h0 := og_f hc13 h0
                      refine lv_aload_n hx hb d7_item_330 rfl (lv_at hl 1 rfl) ?_
                      refine g7_70 S hK hR d7_item_331 ?_
                      refine lv_iconst (v := 1) hx hb d7_item_334 (by decide) ?_
                      refine q_ld (k := 1) S hK hR (by decide) (eM_125 w _) (vin (by decide)) (by decide) d7_item_335 ?_
                      refine lv_bipush (v := 9) hx hb d7_item_336 (by decide) ?_
                      refine lv_icmp_le (tgt := 343) hx hb d7_item_338 (by decide) (fun hc14 => ?_) (fun hc14 => ?_)
                      · have h0 := og_t hc14 h0
                        refine lv_aload_n hx hb d7_item_343 rfl (lv_at hl 1 rfl) ?_
                        refine g7_34 S hK hR d7_item_344 ?_
                        refine lv_iconst (v := 4) hx hb d7_item_347 (by decide) ?_
                        refine lv_aload_n hx hb d7_item_348 rfl (lv_at hl 1 rfl) ?_
                        refine g7_70 S hK hR d7_item_349 ?_
                        refine lv_iconst (v := 0) hx hb d7_item_352 (by decide) ?_
                        refine q_ld (k := 0) S hK hR (by decide) (eM_125 w _) (vin (by decide)) (by decide) d7_item_353 ?_
                        refine lv_iadd hx hb d7_item_354 ?_
                        refine lv_aload_n hx hb d7_item_355 rfl (lv_at hl 1 rfl) ?_
                        refine g7_70 S hK hR d7_item_356 ?_
                        refine lv_iconst (v := 1) hx hb d7_item_359 (by decide) ?_
                        refine q_ld (k := 1) S hK hR (by decide) (eM_125 w _) (vin (by decide)) (by decide) d7_item_360 ?_
                        obtain ⟨hi15, h0⟩ := og_if h0
                        obtain ⟨σ16, hm16, h0⟩ := og_m h0
                        refine q_st S hK hR hS (by decide) (eM_109 w) hi15 rfl hm16 d7_item_361 (fun H locs hR hS => ?_)
                        refine lv_iconst (v := 1) hx hb d7_item_362 (by decide) ?_
                        exact q_zret S hr hlk hR hS (Or.inr rfl) h0 d7_item_363
                      · have h0 := og_f hc14 h0
                        refine lv_iconst (v := 0) hx hb d7_item_341 (by decide) ?_
                        exact q_zret S hr hlk hR hS (Or.inl rfl) h0 d7_item_342
                · have h0 := og_f hc10 h0
                  refine q_tabD (tgt := 422) S d7_item_20 [97, 99, 103, 107, 111, 116, 117, 119] (by decide) (by decide) (List.forall_mem_cons.mpr ⟨ne_toInt hc3 (by decide), List.forall_mem_cons.mpr ⟨ne_toInt hc4 (by decide), List.forall_mem_cons.mpr ⟨ne_toInt hc5 (by decide), List.forall_mem_cons.mpr ⟨ne_toInt hc6 (by decide), List.forall_mem_cons.mpr ⟨ne_toInt hc7 (by decide), List.forall_mem_cons.mpr ⟨ne_toInt hc8 (by decide), List.forall_mem_cons.mpr ⟨ne_toInt hc9 (by decide), List.forall_mem_cons.mpr ⟨ne_toInt hc10 (by decide), fun _ hq => absurd hq List.not_mem_nil⟩⟩⟩⟩⟩⟩⟩⟩) (by decide) ?_
                  refine lv_iconst (v := 0) hx hb d7_item_422 (by decide) ?_
                  exact q_zret S hr hlk hR hS (Or.inl rfl) h0 d7_item_423
set_option maxHeartbeats 4000000 in
set_option maxRecDepth 100000 in
theorem k7_149 {p : Program} {l : Launch} {e : Env} {R : Room} {s : State} {m : MethodId} {args : Array Value} {below : List Frame} {meth : Method} {c : Code} {H : Heap} {locs : List Loc} {cells slots : Nat} {Q : State → Prop} {cc : ByteArray} {pc nL : Nat} {ls : Array Slot} {rest : List Value} {w : WV} {σ : Mem} {σ1 : Mem} {r : Int32} (S : CallFix p m c cc nL s args gtbl RX7) (hK : KS LM w s) (hR : Rp EM LM w σ H) (hS : va_S (AW LM w) s.heap H locs) (h0 : f7_item σ = some (σ1, r)) (hf : cells + 0 ≤ R.cells ∧ slots + 0 ≤ R.slots) (hRm : rm7_item.frames + 1 ≤ R.frames ∧ 8 + (2 + 11) + rm7_item.locals ≤ R.locals) (hl : ls.size = nL) (hW : (rest.map fun v => v.category).sum ≤ 8) (hdg : decode cc pc = .ok (.invokevirtual 149, 3)) (kk : ∀ (H1 : Heap) (locs1 : List Loc), Rp EM LM w σ1 H1 → va_S (AW LM w) s.heap H1 locs1 → W p l e R s m args below meth c H1 locs1 cells slots Q (F0 m (pc + 3) ls (.int r :: rest))) : W p l e R s m args below meth c H locs cells slots Q (F0 m pc ls (.ref (w.2.2 0) :: rest)) := r_end hS (run_V (n := 0) (As := []) S hK hR (by decide) (eM_7 w _) rfl (gw_V (gt_at 1043 (by decide +kernel) (by decide +kernel)) (gt_at 1045 (by decide +kernel) (by decide +kernel)) (gt_at 43 (by decide +kernel) (by decide +kernel)) (gt_at 86 (by decide +kernel) (by decide +kernel)) (gt_at 1046 (by decide +kernel) (by decide +kernel))) (by decide +kernel) rfl (c7_item l h0) ⟨rfl, rfl⟩ hRm hf hl rfl hW hdg) kk
/-! FourTenGatesModel.readAll()I -/
abbrev rm7_readAll : Room := { frames := 4, cells := 0, slots := 0, locals := 90 }
theorem d7_readAll_0 : decode cX7_readAll 0 = .ok (.aload_n 0, 1) := by decide +kernel
theorem d7_readAll_1 : decode cX7_readAll 1 = .ok (.iconst 1, 1) := by decide +kernel
theorem d7_readAll_2 : decode cX7_readAll 2 = .ok (.invokevirtual 95, 3) := by decide +kernel
theorem d7_readAll_5 : decode cX7_readAll 5 = .ok (.aload_n 0, 1) := by decide +kernel
theorem d7_readAll_6 : decode cX7_readAll 6 = .ok (.iconst 0, 1) := by decide +kernel
theorem d7_readAll_7 : decode cX7_readAll 7 = .ok (.putfield 121, 3) := by decide +kernel
theorem d7_readAll_10 : decode cX7_readAll 10 = .ok (.aload_n 0, 1) := by decide +kernel
theorem d7_readAll_11 : decode cX7_readAll 11 = .ok (.getfield 121, 3) := by decide +kernel
theorem d7_readAll_14 : decode cX7_readAll 14 = .ok (.aload_n 0, 1) := by decide +kernel
theorem d7_readAll_15 : decode cX7_readAll 15 = .ok (.getfield 117, 3) := by decide +kernel
theorem d7_readAll_18 : decode cX7_readAll 18 = .ok (.if_icmp .ge 20, 3) := by decide +kernel
theorem d7_readAll_21 : decode cX7_readAll 21 = .ok (.aload_n 0, 1) := by decide +kernel
theorem d7_readAll_22 : decode cX7_readAll 22 = .ok (.getfield 121, 3) := by decide +kernel
theorem d7_readAll_25 : decode cX7_readAll 25 = .ok (.istore_n 1, 1) := by decide +kernel
theorem d7_readAll_26 : decode cX7_readAll 26 = .ok (.aload_n 0, 1) := by decide +kernel
theorem d7_readAll_27 : decode cX7_readAll 27 = .ok (.invokevirtual 149, 3) := by decide +kernel
theorem d7_readAll_30 : decode cX7_readAll 30 = .ok (.ifCond .ne 5, 3) := by decide +kernel
theorem d7_readAll_33 : decode cX7_readAll 33 = .ok (.iload_n 1, 1) := by decide +kernel
theorem d7_readAll_34 : decode cX7_readAll 34 = .ok (.ireturn, 1) := by decide +kernel
theorem d7_readAll_35 : decode cX7_readAll 35 = .ok (.goto (-25), 3) := by decide +kernel
theorem d7_readAll_38 : decode cX7_readAll 38 = .ok (.bipush (-4), 2) := by decide +kernel
theorem d7_readAll_40 : decode cX7_readAll 40 = .ok (.ireturn, 1) := by decide +kernel
def f7_readAll_b10 : Nat → Mem → Option (Mem × Int32)
  | 0, _ => none
  | n + 1, σ => if (σ 0 0) ≤ (σ 0 24) then some (σ, (-4)) else ob (f7_item σ) fun σ2 r2 => if r2 = 0 then some (σ2, σ 0 24) else f7_readAll_b10 n σ2
set_option maxHeartbeats 4000000 in
set_option maxRecDepth 100000 in
theorem t7_readAll_b10 {p : Program} {l : Launch} {e : Env} {s : State} {m : MethodId} {args : Array Value} {below : List Frame} {meth : Method} {c : Code} {w : WV} {σ' : Mem} {r : Int32} (S : CallFix p m c cX7_readAll 2 s args gtbl RX7) (hr : meth.sig.returnType = (some .int)) (hlk : meth.locks = false) (hK : KS LM w s) : ∀ (n : Nat), ∀ (σ : Mem), f7_readAll_b10  n σ = some (σ', r) → ∀ (H : Heap) (locs : List Loc), Rp EM LM w σ H → va_S (AW LM w) s.heap H locs → ∀ (ls : Array Slot), lv_has ls 2 [(0, .ref (w.2.2 0))] → W p l e rm7_readAll s m args below meth c H locs 0 0 (MQ below (Qw EM LM w σ' (some (.int r))) args s 0 0 (AW LM w)) (F0 m 10 ls []) := by
  obtain ⟨hx, hb, hml, hown, hts⟩ := id S
  intro n
  induction n with
  | zero =>
    intro σ h0
    cases (show none = _ from h0)
  | succ n ih =>
    intro σ h0 H locs hR hS ls hl
    rw [f7_readAll_b10] at h0
    refine lv_aload_n hx hb d7_readAll_10 rfl (lv_at hl 0 rfl) ?_
    refine g7_121 S hK hR d7_readAll_11 ?_
    refine lv_aload_n hx hb d7_readAll_14 rfl (lv_at hl 0 rfl) ?_
    refine g7_117 S hK hR d7_readAll_15 ?_
    refine lv_icmp_ge (tgt := 38) hx hb d7_readAll_18 (by decide) (fun hc1 => ?_) (fun hc1 => ?_)
    · have h0 := og_t hc1 h0
      refine lv_bipush (v := (-4)) hx hb d7_readAll_38 (by decide) ?_
      exact q_iret S hr hlk hR hS h0 d7_readAll_40
    · have h0 := og_f hc1 h0
      refine lv_aload_n hx hb d7_readAll_21 rfl (lv_at hl 0 rfl) ?_
      refine g7_121 S hK hR d7_readAll_22 ?_
      refine lv_istore_n (lv' := [(1, .int (σ 0 24)), (0, .ref (w.2.2 0))]) hx hb d7_readAll_25 rfl hl (by decide) rfl (fun ls hl => ?_)
      refine lv_aload_n hx hb d7_readAll_26 rfl (lv_at hl 1 rfl) ?_
      obtain ⟨σ2, r2, hr2, h0⟩ := og_o h0
      refine k7_149 S hK hR hS  hr2 ⟨Nat.zero_le _, Nat.zero_le _⟩ ⟨Nat.le_of_ble_eq_true rfl, Nat.le_of_ble_eq_true rfl⟩ hl.1 (Nat.le_of_ble_eq_true rfl) d7_readAll_27 (fun H locs hR hS => ?_)
      refine lv_if_ne (tgt := 35) hx hb d7_readAll_30 (by decide) (fun hc3 => ?_) (fun hc3 => ?_)
      · have h0 := og_f hc3 h0
        refine lv_goto (tgt := 10) hx hb d7_readAll_35 (by decide) ?_
        exact ih σ2 h0 _ _ hR hS _ (lv_sub hl [1] rfl)
      · have h0 := og_t hc3 h0
        refine lv_iload_n hx hb d7_readAll_33 rfl (lv_at hl 0 rfl) ?_
        exact q_iret S hr hlk hR hS h0 d7_readAll_34
def f7_readAll (σ : Mem) : Option (Mem × Int32) := Option.bind (f7_noHour σ 1) fun σ1 => bm (mu σ1 0 24 0) fun σ2 => f7_readAll_b10 1000 σ2
set_option maxHeartbeats 4000000 in
set_option maxRecDepth 100000 in
theorem c7_readAll (l : Launch) {w : WV} {σ : Mem} {σ' : Mem} {r : Int32} (h0 : f7_readAll σ = some (σ', r)) : Met l yX7_readAll (wy yX7_readAll cX7_readAll 2 (some .int)) rm7_readAll (Pw EM LM w [.ref (w.2.2 0)] σ) (Qw EM LM w σ' (some (.int r))) 0 0 (AW LM w) := by
  refine mk_met (by decide) (Nat.le_of_ble_eq_true rfl) ?_
  intro p e s m below meth c S hr hlk hK hR ls hl
  obtain ⟨hx, hb, hml, hown, hts⟩ := id S
  have hl : lv_has ls 2 [(0, .ref (w.2.2 0))] := hl
  have hS : va_S (AW LM w) s.heap s.heap [] := va_S.rf
  unfold f7_readAll at h0
  refine lv_aload_n hx hb d7_readAll_0 rfl (lv_at hl 0 rfl) ?_
  refine lv_iconst (v := 1) hx hb d7_readAll_1 (by decide) ?_
  obtain ⟨σ1, hr1, h0⟩ := og_b h0
  refine k7_95 S hK hR hS  hr1 ⟨Nat.zero_le _, Nat.zero_le _⟩ ⟨Nat.le_of_ble_eq_true rfl, Nat.le_of_ble_eq_true rfl⟩ hl.1 (Nat.le_of_ble_eq_true rfl) d7_readAll_2 (fun H locs hR hS => ?_)
  refine lv_aload_n hx hb d7_readAll_5 rfl (lv_at hl 0 rfl) ?_
  refine lv_iconst (v := 0) hx hb d7_readAll_6 (by decide) ?_
  obtain ⟨σ2, hm2, h0⟩ := og_m h0
  refine u7_121 S hK hR hS hm2 d7_readAll_7 (fun H locs hR hS => ?_)
  exact t7_readAll_b10 S hr hlk hK 1000 σ2 h0 _ _ hR hS _ (lv_sub hl [0] rfl)
set_option maxHeartbeats 4000000 in
set_option maxRecDepth 100000 in
theorem k7_152 {p : Program} {l : Launch} {e : Env} {R : Room} {s : State} {m : MethodId} {args : Array Value} {below : List Frame} {meth : Method} {c : Code} {H : Heap} {locs : List Loc} {cells slots : Nat} {Q : State → Prop} {cc : ByteArray} {pc nL : Nat} {ls : Array Slot} {rest : List Value} {w : WV} {σ : Mem} {σ1 : Mem} {r : Int32} (S : CallFix p m c cc nL s args gtbl RX7) (hK : KS LM w s) (hR : Rp EM LM w σ H) (hS : va_S (AW LM w) s.heap H locs) (h0 : f7_readAll σ = some (σ1, r)) (hf : cells + 0 ≤ R.cells ∧ slots + 0 ≤ R.slots) (hRm : rm7_readAll.frames + 1 ≤ R.frames ∧ 8 + (2 + 11) + rm7_readAll.locals ≤ R.locals) (hl : ls.size = nL) (hW : (rest.map fun v => v.category).sum ≤ 8) (hdg : decode cc pc = .ok (.invokevirtual 152, 3)) (kk : ∀ (H1 : Heap) (locs1 : List Loc), Rp EM LM w σ1 H1 → va_S (AW LM w) s.heap H1 locs1 → W p l e R s m args below meth c H1 locs1 cells slots Q (F0 m (pc + 3) ls (.int r :: rest))) : W p l e R s m args below meth c H locs cells slots Q (F0 m pc ls (.ref (w.2.2 0) :: rest)) := r_end hS (run_V (n := 0) (As := []) S hK hR (by decide) (eM_7 w _) rfl (gw_V (gt_at 1039 (by decide +kernel) (by decide +kernel)) (gt_at 1041 (by decide +kernel) (by decide +kernel)) (gt_at 42 (by decide +kernel) (by decide +kernel)) (gt_at 86 (by decide +kernel) (by decide +kernel)) (gt_at 1042 (by decide +kernel) (by decide +kernel))) (by decide +kernel) rfl (c7_readAll l h0) ⟨rfl, rfl⟩ hRm hf hl rfl hW hdg) kk
/-! FourTenGatesModel.fault()I -/
abbrev rm7_fault : Room := { frames := 5, cells := 0, slots := 0, locals := 111 }
theorem d7_fault_0 : decode cX7_fault 0 = .ok (.aload_n 0, 1) := by decide +kernel
theorem d7_fault_1 : decode cX7_fault 1 = .ok (.invokevirtual 152, 3) := by decide +kernel
theorem d7_fault_4 : decode cX7_fault 4 = .ok (.ireturn, 1) := by decide +kernel
def f7_fault (σ : Mem) : Option (Mem × Int32) := ob (f7_readAll σ) fun σ1 r1 => some (σ1, r1)
set_option maxHeartbeats 4000000 in
set_option maxRecDepth 100000 in
theorem c7_fault (l : Launch) {w : WV} {σ : Mem} {σ' : Mem} {r : Int32} (h0 : f7_fault σ = some (σ', r)) : Met l yX7_fault (wy yX7_fault cX7_fault 1 (some .int)) rm7_fault (Pw EM LM w [.ref (w.2.2 0)] σ) (Qw EM LM w σ' (some (.int r))) 0 0 (AW LM w) := by
  refine mk_met (by decide) (Nat.le_of_ble_eq_true rfl) ?_
  intro p e s m below meth c S hr hlk hK hR ls hl
  obtain ⟨hx, hb, hml, hown, hts⟩ := id S
  have hl : lv_has ls 1 [(0, .ref (w.2.2 0))] := hl
  have hS : va_S (AW LM w) s.heap s.heap [] := va_S.rf
  unfold f7_fault at h0
  refine lv_aload_n hx hb d7_fault_0 rfl (lv_at hl 0 rfl) ?_
  obtain ⟨σ1, r1, hr1, h0⟩ := og_o h0
  refine k7_152 S hK hR hS  hr1 ⟨Nat.zero_le _, Nat.zero_le _⟩ ⟨Nat.le_of_ble_eq_true rfl, Nat.le_of_ble_eq_true rfl⟩ hl.1 (Nat.le_of_ble_eq_true rfl) d7_fault_1 (fun H locs hR hS => ?_)
  exact q_iret S hr hlk hR hS h0 d7_fault_4
/-! FourTenGatesModel.allOdds(I)I -/
abbrev rm7_allOdds : Room := { frames := 0, cells := 0, slots := 0, locals := 0 }
theorem d7_allOdds_0 : decode cX7_allOdds 0 = .ok (.iconst 0, 1) := by decide +kernel
theorem d7_allOdds_1 : decode cX7_allOdds 1 = .ok (.istore_n 2, 1) := by decide +kernel
theorem d7_allOdds_2 : decode cX7_allOdds 2 = .ok (.iconst 0, 1) := by decide +kernel
theorem d7_allOdds_3 : decode cX7_allOdds 3 = .ok (.istore_n 3, 1) := by decide +kernel
theorem d7_allOdds_4 : decode cX7_allOdds 4 = .ok (.iload_n 3, 1) := by decide +kernel
theorem d7_allOdds_5 : decode cX7_allOdds 5 = .ok (.aload_n 0, 1) := by decide +kernel
theorem d7_allOdds_6 : decode cX7_allOdds 6 = .ok (.getfield 46, 3) := by decide +kernel
theorem d7_allOdds_9 : decode cX7_allOdds 9 = .ok (.iload_n 1, 1) := by decide +kernel
theorem d7_allOdds_10 : decode cX7_allOdds 10 = .ok (.iaload, 1) := by decide +kernel
theorem d7_allOdds_11 : decode cX7_allOdds 11 = .ok (.if_icmp .ge 22, 3) := by decide +kernel
theorem d7_allOdds_14 : decode cX7_allOdds 14 = .ok (.iload_n 2, 1) := by decide +kernel
theorem d7_allOdds_15 : decode cX7_allOdds 15 = .ok (.aload_n 0, 1) := by decide +kernel
theorem d7_allOdds_16 : decode cX7_allOdds 16 = .ok (.getfield 52, 3) := by decide +kernel
theorem d7_allOdds_19 : decode cX7_allOdds 19 = .ok (.iconst 5, 1) := by decide +kernel
theorem d7_allOdds_20 : decode cX7_allOdds 20 = .ok (.iload_n 1, 1) := by decide +kernel
theorem d7_allOdds_21 : decode cX7_allOdds 21 = .ok (.imul, 1) := by decide +kernel
theorem d7_allOdds_22 : decode cX7_allOdds 22 = .ok (.iload_n 3, 1) := by decide +kernel
theorem d7_allOdds_23 : decode cX7_allOdds 23 = .ok (.iadd, 1) := by decide +kernel
theorem d7_allOdds_24 : decode cX7_allOdds 24 = .ok (.iaload, 1) := by decide +kernel
theorem d7_allOdds_25 : decode cX7_allOdds 25 = .ok (.iadd, 1) := by decide +kernel
theorem d7_allOdds_26 : decode cX7_allOdds 26 = .ok (.istore_n 2, 1) := by decide +kernel
theorem d7_allOdds_27 : decode cX7_allOdds 27 = .ok (.iinc 3 1, 3) := by decide +kernel
theorem d7_allOdds_30 : decode cX7_allOdds 30 = .ok (.goto (-26), 3) := by decide +kernel
theorem d7_allOdds_33 : decode cX7_allOdds 33 = .ok (.iload_n 2, 1) := by decide +kernel
theorem d7_allOdds_34 : decode cX7_allOdds 34 = .ok (.ireturn, 1) := by decide +kernel
def f7_allOdds_b4 (σ : Mem) : Nat → Int32 → Int32 → Int32 → Option Int32
  | 0, _, _, _ => none
  | n + 1, x1, x2, x3 => if ¬ (x1 < 0 ∨ 2 ≤ x1.toNatClampNeg) then if (σ 14 x1.toNatClampNeg) ≤ x3 then some x2 else if ¬ ((5 * x1) + x3 < 0 ∨ 10 ≤ ((5 * x1) + x3).toNatClampNeg) then f7_allOdds_b4 σ n x1 (x2 + (σ 16 (((5 * x1) + x3).toNatClampNeg))) (x3 + 1) else none else none
set_option maxHeartbeats 4000000 in
set_option maxRecDepth 100000 in
theorem t7_allOdds_b4 {p : Program} {l : Launch} {e : Env} {s : State} {m : MethodId} {args : Array Value} {below : List Frame} {meth : Method} {c : Code} {w : WV} {σ : Mem} {r : Int32} (S : CallFix p m c cX7_allOdds 4 s args gtbl RX7) (hr : meth.sig.returnType = (some .int)) (hlk : meth.locks = false) (hK : KS LM w s) (hR : Rp EM LM w σ s.heap) : ∀ (n : Nat), ∀ (x1 : Int32) (x2 : Int32) (x3 : Int32), f7_allOdds_b4 σ n x1 x2 x3 = some r → ∀ (ls : Array Slot), lv_has ls 4 [(0, .ref (w.2.2 0)), (1, .int x1), (2, .int x2), (3, .int x3)] → W p l e rm7_allOdds s m args below meth c s.heap [] 0 0 (MQ below (Qp (.int r)) args s 0 0 (fun _ => False)) (F0 m 4 ls []) := by
  obtain ⟨hx, hb, hml, hown, hts⟩ := id S
  intro n
  induction n with
  | zero =>
    intro x1 x2 x3 h0
    cases (show none = _ from h0)
  | succ n ih =>
    intro x1 x2 x3 h0 ls hl
    rw [f7_allOdds_b4] at h0
    refine lv_iload_n hx hb d7_allOdds_4 rfl (lv_at hl 3 rfl) ?_
    refine lv_aload_n hx hb d7_allOdds_5 rfl (lv_at hl 0 rfl) ?_
    refine g7_46 S hK hR d7_allOdds_6 ?_
    refine lv_iload_n hx hb d7_allOdds_9 rfl (lv_at hl 1 rfl) ?_
    obtain ⟨hi1, h0⟩ := og_if h0
    refine q_ld (k := x1.toNatClampNeg) S hK hR (by decide) (eM_113 w _) hi1 rfl d7_allOdds_10 ?_
    refine lv_icmp_ge (tgt := 33) hx hb d7_allOdds_11 (by decide) (fun hc2 => ?_) (fun hc2 => ?_)
    · have h0 := og_t hc2 h0
      refine lv_iload_n hx hb d7_allOdds_33 rfl (lv_at hl 2 rfl) ?_
      exact q_ipure S hr hlk h0 d7_allOdds_34
    · have h0 := og_f hc2 h0
      refine lv_iload_n hx hb d7_allOdds_14 rfl (lv_at hl 2 rfl) ?_
      refine lv_aload_n hx hb d7_allOdds_15 rfl (lv_at hl 0 rfl) ?_
      refine g7_52 S hK hR d7_allOdds_16 ?_
      refine lv_iconst (v := 5) hx hb d7_allOdds_19 (by decide) ?_
      refine lv_iload_n hx hb d7_allOdds_20 rfl (lv_at hl 1 rfl) ?_
      refine lv_imul hx hb d7_allOdds_21 ?_
      refine lv_iload_n hx hb d7_allOdds_22 rfl (lv_at hl 3 rfl) ?_
      refine lv_iadd hx hb d7_allOdds_23 ?_
      obtain ⟨hi3, h0⟩ := og_if h0
      refine q_ld (k := (((5 * x1) + x3).toNatClampNeg)) S hK hR (by decide) (eM_115 w _) hi3 rfl d7_allOdds_24 ?_
      refine lv_iadd hx hb d7_allOdds_25 ?_
      refine lv_istore_n (lv' := [(2, .int (x2 + (σ 16 (((5 * x1) + x3).toNatClampNeg)))), (0, .ref (w.2.2 0)), (1, .int x1), (3, .int x3)]) hx hb d7_allOdds_26 rfl hl (by decide) rfl (fun ls hl => ?_)
      refine lv_iinc (v := x3 + 1) (lv' := [(3, .int (x3 + 1)), (2, .int (x2 + (σ 16 (((5 * x1) + x3).toNatClampNeg)))), (0, .ref (w.2.2 0)), (1, .int x1)]) hx hb d7_allOdds_27 hl (k := 3) rfl (ii1 _) (by decide) rfl (fun ls hl => ?_)
      refine lv_goto (tgt := 4) hx hb d7_allOdds_30 (by decide) ?_
      exact ih x1 (x2 + (σ 16 (((5 * x1) + x3).toNatClampNeg))) (x3 + 1) h0 _ (lv_sub hl [2, 3, 1, 0] rfl)
def f7_allOdds (σ : Mem) (x1 : Int32) : Option Int32 := f7_allOdds_b4 σ 1000 x1 0 0
set_option maxHeartbeats 4000000 in
set_option maxRecDepth 100000 in
theorem c7_allOdds (l : Launch) {w : WV} {σ : Mem} {x1 : Int32} {r : Int32} (h0 : f7_allOdds σ x1 = some r) : Met l yX7_allOdds (wy yX7_allOdds cX7_allOdds 4 (some .int)) rm7_allOdds (Pw EM LM w [.ref (w.2.2 0), .int x1] σ) (Qp (.int r)) 0 0 (fun _ => False) := by
  refine mk_met (by decide) (Nat.le_of_ble_eq_true rfl) ?_
  intro p e s m below meth c S hr hlk hK hR ls hl
  obtain ⟨hx, hb, hml, hown, hts⟩ := id S
  have hl : lv_has ls 4 [(0, .ref (w.2.2 0)), (1, .int x1)] := hl
  unfold f7_allOdds at h0
  refine lv_iconst (v := 0) hx hb d7_allOdds_0 (by decide) ?_
  refine lv_istore_n (lv' := [(2, .int 0), (0, .ref (w.2.2 0)), (1, .int x1)]) hx hb d7_allOdds_1 rfl hl (by decide) rfl (fun ls hl => ?_)
  refine lv_iconst (v := 0) hx hb d7_allOdds_2 (by decide) ?_
  refine lv_istore_n (lv' := [(3, .int 0), (2, .int 0), (0, .ref (w.2.2 0)), (1, .int x1)]) hx hb d7_allOdds_3 rfl hl (by decide) rfl (fun ls hl => ?_)
  exact t7_allOdds_b4 S hr hlk hK hR 1000 x1 0 0 h0 _ (lv_sub hl [2, 3, 1, 0] rfl)
set_option maxHeartbeats 4000000 in
set_option maxRecDepth 100000 in
theorem k7_156 {p : Program} {l : Launch} {e : Env} {R : Room} {s : State} {m : MethodId} {args : Array Value} {below : List Frame} {meth : Method} {c : Code} {H : Heap} {locs : List Loc} {cells slots : Nat} {Q : State → Prop} {cc : ByteArray} {pc nL : Nat} {ls : Array Slot} {rest : List Value} {w : WV} {σ : Mem} {x1 : Int32} {r : Int32} (S : CallFix p m c cc nL s args gtbl RX7) (hK : KS LM w s) (hR : Rp EM LM w σ H) (h0 : f7_allOdds σ x1 = some r) (hf : cells + 0 ≤ R.cells ∧ slots + 0 ≤ R.slots) (hRm : rm7_allOdds.frames + 1 ≤ R.frames ∧ 8 + (4 + 11) + rm7_allOdds.locals ≤ R.locals) (hl : ls.size = nL) (hW : (rest.map fun v => v.category).sum ≤ 8) (hdg : decode cc pc = .ok (.invokevirtual 156, 3)) (kk : W p l e R s m args below meth c H locs cells slots Q (F0 m (pc + 3) ls (.int r :: rest))) : W p l e R s m args below meth c H locs cells slots Q (F0 m pc ls (.int x1 :: .ref (w.2.2 0) :: rest)) := r_endp (run_V (n := 1) (As := [.int x1]) S hK hR (by decide) (eM_7 w _) rfl (gw_V (gt_at 1074 (by decide +kernel) (by decide +kernel)) (gt_at 1076 (by decide +kernel) (by decide +kernel)) (gt_at 49 (by decide +kernel) (by decide +kernel)) (gt_at 86 (by decide +kernel) (by decide +kernel)) (gt_at 1077 (by decide +kernel) (by decide +kernel))) (by decide +kernel) rfl (c7_allOdds l h0) ⟨rfl, rfl⟩ hRm hf hl rfl hW hdg) kk
/-! FourTenGatesModel.lay()I -/
abbrev rm7_lay : Room := { frames := 5, cells := 0, slots := 0, locals := 111 }
theorem d7_lay_0 : decode cX7_lay 0 = .ok (.aload_n 0, 1) := by decide +kernel
theorem d7_lay_1 : decode cX7_lay 1 = .ok (.invokevirtual 152, 3) := by decide +kernel
theorem d7_lay_4 : decode cX7_lay 4 = .ok (.bipush (-4), 2) := by decide +kernel
theorem d7_lay_6 : decode cX7_lay 6 = .ok (.if_icmp .ne 31, 3) := by decide +kernel
theorem d7_lay_9 : decode cX7_lay 9 = .ok (.aload_n 0, 1) := by decide +kernel
theorem d7_lay_10 : decode cX7_lay 10 = .ok (.getfield 13, 3) := by decide +kernel
theorem d7_lay_13 : decode cX7_lay 13 = .ok (.iconst 1, 1) := by decide +kernel
theorem d7_lay_14 : decode cX7_lay 14 = .ok (.iaload, 1) := by decide +kernel
theorem d7_lay_15 : decode cX7_lay 15 = .ok (.ifCond .eq 22, 3) := by decide +kernel
theorem d7_lay_18 : decode cX7_lay 18 = .ok (.aload_n 0, 1) := by decide +kernel
theorem d7_lay_19 : decode cX7_lay 19 = .ok (.getfield 46, 3) := by decide +kernel
theorem d7_lay_22 : decode cX7_lay 22 = .ok (.iconst 1, 1) := by decide +kernel
theorem d7_lay_23 : decode cX7_lay 23 = .ok (.iaload, 1) := by decide +kernel
theorem d7_lay_24 : decode cX7_lay 24 = .ok (.ifCond .le 16, 3) := by decide +kernel
theorem d7_lay_27 : decode cX7_lay 27 = .ok (.aload_n 0, 1) := by decide +kernel
theorem d7_lay_28 : decode cX7_lay 28 = .ok (.iconst 1, 1) := by decide +kernel
theorem d7_lay_29 : decode cX7_lay 29 = .ok (.invokevirtual 156, 3) := by decide +kernel
theorem d7_lay_32 : decode cX7_lay 32 = .ok (.bipush 10, 2) := by decide +kernel
theorem d7_lay_34 : decode cX7_lay 34 = .ok (.if_icmp .eq 6, 3) := by decide +kernel
theorem d7_lay_37 : decode cX7_lay 37 = .ok (.bipush (-2), 2) := by decide +kernel
theorem d7_lay_39 : decode cX7_lay 39 = .ok (.ireturn, 1) := by decide +kernel
theorem d7_lay_40 : decode cX7_lay 40 = .ok (.aload_n 0, 1) := by decide +kernel
theorem d7_lay_41 : decode cX7_lay 41 = .ok (.getfield 13, 3) := by decide +kernel
theorem d7_lay_44 : decode cX7_lay 44 = .ok (.iconst 0, 1) := by decide +kernel
theorem d7_lay_45 : decode cX7_lay 45 = .ok (.aload_n 0, 1) := by decide +kernel
theorem d7_lay_46 : decode cX7_lay 46 = .ok (.getfield 13, 3) := by decide +kernel
theorem d7_lay_49 : decode cX7_lay 49 = .ok (.iconst 1, 1) := by decide +kernel
theorem d7_lay_50 : decode cX7_lay 50 = .ok (.iaload, 1) := by decide +kernel
theorem d7_lay_51 : decode cX7_lay 51 = .ok (.iastore, 1) := by decide +kernel
theorem d7_lay_52 : decode cX7_lay 52 = .ok (.aload_n 0, 1) := by decide +kernel
theorem d7_lay_53 : decode cX7_lay 53 = .ok (.getfield 22, 3) := by decide +kernel
theorem d7_lay_56 : decode cX7_lay 56 = .ok (.iconst 0, 1) := by decide +kernel
theorem d7_lay_57 : decode cX7_lay 57 = .ok (.aload_n 0, 1) := by decide +kernel
theorem d7_lay_58 : decode cX7_lay 58 = .ok (.getfield 22, 3) := by decide +kernel
theorem d7_lay_61 : decode cX7_lay 61 = .ok (.iconst 1, 1) := by decide +kernel
theorem d7_lay_62 : decode cX7_lay 62 = .ok (.iaload, 1) := by decide +kernel
theorem d7_lay_63 : decode cX7_lay 63 = .ok (.iastore, 1) := by decide +kernel
theorem d7_lay_64 : decode cX7_lay 64 = .ok (.aload_n 0, 1) := by decide +kernel
theorem d7_lay_65 : decode cX7_lay 65 = .ok (.getfield 37, 3) := by decide +kernel
theorem d7_lay_68 : decode cX7_lay 68 = .ok (.iconst 0, 1) := by decide +kernel
theorem d7_lay_69 : decode cX7_lay 69 = .ok (.aload_n 0, 1) := by decide +kernel
theorem d7_lay_70 : decode cX7_lay 70 = .ok (.getfield 37, 3) := by decide +kernel
theorem d7_lay_73 : decode cX7_lay 73 = .ok (.iconst 1, 1) := by decide +kernel
theorem d7_lay_74 : decode cX7_lay 74 = .ok (.iaload, 1) := by decide +kernel
theorem d7_lay_75 : decode cX7_lay 75 = .ok (.iastore, 1) := by decide +kernel
theorem d7_lay_76 : decode cX7_lay 76 = .ok (.aload_n 0, 1) := by decide +kernel
theorem d7_lay_77 : decode cX7_lay 77 = .ok (.getfield 46, 3) := by decide +kernel
theorem d7_lay_80 : decode cX7_lay 80 = .ok (.iconst 0, 1) := by decide +kernel
theorem d7_lay_81 : decode cX7_lay 81 = .ok (.aload_n 0, 1) := by decide +kernel
theorem d7_lay_82 : decode cX7_lay 82 = .ok (.getfield 46, 3) := by decide +kernel
theorem d7_lay_85 : decode cX7_lay 85 = .ok (.iconst 1, 1) := by decide +kernel
theorem d7_lay_86 : decode cX7_lay 86 = .ok (.iaload, 1) := by decide +kernel
theorem d7_lay_87 : decode cX7_lay 87 = .ok (.iastore, 1) := by decide +kernel
theorem d7_lay_88 : decode cX7_lay 88 = .ok (.iconst 0, 1) := by decide +kernel
theorem d7_lay_89 : decode cX7_lay 89 = .ok (.istore_n 1, 1) := by decide +kernel
theorem d7_lay_90 : decode cX7_lay 90 = .ok (.iload_n 1, 1) := by decide +kernel
theorem d7_lay_91 : decode cX7_lay 91 = .ok (.bipush 6, 2) := by decide +kernel
theorem d7_lay_93 : decode cX7_lay 93 = .ok (.if_icmp .ge 69, 3) := by decide +kernel
theorem d7_lay_96 : decode cX7_lay 96 = .ok (.aload_n 0, 1) := by decide +kernel
theorem d7_lay_97 : decode cX7_lay 97 = .ok (.getfield 16, 3) := by decide +kernel
theorem d7_lay_100 : decode cX7_lay 100 = .ok (.iload_n 1, 1) := by decide +kernel
theorem d7_lay_101 : decode cX7_lay 101 = .ok (.aload_n 0, 1) := by decide +kernel
theorem d7_lay_102 : decode cX7_lay 102 = .ok (.getfield 16, 3) := by decide +kernel
theorem d7_lay_105 : decode cX7_lay 105 = .ok (.bipush 6, 2) := by decide +kernel
theorem d7_lay_107 : decode cX7_lay 107 = .ok (.iload_n 1, 1) := by decide +kernel
theorem d7_lay_108 : decode cX7_lay 108 = .ok (.iadd, 1) := by decide +kernel
theorem d7_lay_109 : decode cX7_lay 109 = .ok (.iaload, 1) := by decide +kernel
theorem d7_lay_110 : decode cX7_lay 110 = .ok (.iastore, 1) := by decide +kernel
theorem d7_lay_111 : decode cX7_lay 111 = .ok (.aload_n 0, 1) := by decide +kernel
theorem d7_lay_112 : decode cX7_lay 112 = .ok (.getfield 19, 3) := by decide +kernel
theorem d7_lay_115 : decode cX7_lay 115 = .ok (.iload_n 1, 1) := by decide +kernel
theorem d7_lay_116 : decode cX7_lay 116 = .ok (.aload_n 0, 1) := by decide +kernel
theorem d7_lay_117 : decode cX7_lay 117 = .ok (.getfield 19, 3) := by decide +kernel
theorem d7_lay_120 : decode cX7_lay 120 = .ok (.bipush 6, 2) := by decide +kernel
theorem d7_lay_122 : decode cX7_lay 122 = .ok (.iload_n 1, 1) := by decide +kernel
theorem d7_lay_123 : decode cX7_lay 123 = .ok (.iadd, 1) := by decide +kernel
theorem d7_lay_124 : decode cX7_lay 124 = .ok (.iaload, 1) := by decide +kernel
theorem d7_lay_125 : decode cX7_lay 125 = .ok (.iastore, 1) := by decide +kernel
theorem d7_lay_126 : decode cX7_lay 126 = .ok (.aload_n 0, 1) := by decide +kernel
theorem d7_lay_127 : decode cX7_lay 127 = .ok (.getfield 40, 3) := by decide +kernel
theorem d7_lay_130 : decode cX7_lay 130 = .ok (.iload_n 1, 1) := by decide +kernel
theorem d7_lay_131 : decode cX7_lay 131 = .ok (.aload_n 0, 1) := by decide +kernel
theorem d7_lay_132 : decode cX7_lay 132 = .ok (.getfield 40, 3) := by decide +kernel
theorem d7_lay_135 : decode cX7_lay 135 = .ok (.bipush 6, 2) := by decide +kernel
theorem d7_lay_137 : decode cX7_lay 137 = .ok (.iload_n 1, 1) := by decide +kernel
theorem d7_lay_138 : decode cX7_lay 138 = .ok (.iadd, 1) := by decide +kernel
theorem d7_lay_139 : decode cX7_lay 139 = .ok (.iaload, 1) := by decide +kernel
theorem d7_lay_140 : decode cX7_lay 140 = .ok (.iastore, 1) := by decide +kernel
theorem d7_lay_141 : decode cX7_lay 141 = .ok (.aload_n 0, 1) := by decide +kernel
theorem d7_lay_142 : decode cX7_lay 142 = .ok (.getfield 43, 3) := by decide +kernel
theorem d7_lay_145 : decode cX7_lay 145 = .ok (.iload_n 1, 1) := by decide +kernel
theorem d7_lay_146 : decode cX7_lay 146 = .ok (.aload_n 0, 1) := by decide +kernel
theorem d7_lay_147 : decode cX7_lay 147 = .ok (.getfield 43, 3) := by decide +kernel
theorem d7_lay_150 : decode cX7_lay 150 = .ok (.bipush 6, 2) := by decide +kernel
theorem d7_lay_152 : decode cX7_lay 152 = .ok (.iload_n 1, 1) := by decide +kernel
theorem d7_lay_153 : decode cX7_lay 153 = .ok (.iadd, 1) := by decide +kernel
theorem d7_lay_154 : decode cX7_lay 154 = .ok (.iaload, 1) := by decide +kernel
theorem d7_lay_155 : decode cX7_lay 155 = .ok (.iastore, 1) := by decide +kernel
theorem d7_lay_156 : decode cX7_lay 156 = .ok (.iinc 1 1, 3) := by decide +kernel
theorem d7_lay_159 : decode cX7_lay 159 = .ok (.goto (-69), 3) := by decide +kernel
theorem d7_lay_162 : decode cX7_lay 162 = .ok (.iconst 0, 1) := by decide +kernel
theorem d7_lay_163 : decode cX7_lay 163 = .ok (.istore_n 1, 1) := by decide +kernel
theorem d7_lay_164 : decode cX7_lay 164 = .ok (.iload_n 1, 1) := by decide +kernel
theorem d7_lay_165 : decode cX7_lay 165 = .ok (.bipush 8, 2) := by decide +kernel
theorem d7_lay_167 : decode cX7_lay 167 = .ok (.if_icmp .ge 39, 3) := by decide +kernel
theorem d7_lay_170 : decode cX7_lay 170 = .ok (.aload_n 0, 1) := by decide +kernel
theorem d7_lay_171 : decode cX7_lay 171 = .ok (.getfield 25, 3) := by decide +kernel
theorem d7_lay_174 : decode cX7_lay 174 = .ok (.iload_n 1, 1) := by decide +kernel
theorem d7_lay_175 : decode cX7_lay 175 = .ok (.aload_n 0, 1) := by decide +kernel
theorem d7_lay_176 : decode cX7_lay 176 = .ok (.getfield 25, 3) := by decide +kernel
theorem d7_lay_179 : decode cX7_lay 179 = .ok (.bipush 8, 2) := by decide +kernel
theorem d7_lay_181 : decode cX7_lay 181 = .ok (.iload_n 1, 1) := by decide +kernel
theorem d7_lay_182 : decode cX7_lay 182 = .ok (.iadd, 1) := by decide +kernel
theorem d7_lay_183 : decode cX7_lay 183 = .ok (.iaload, 1) := by decide +kernel
theorem d7_lay_184 : decode cX7_lay 184 = .ok (.iastore, 1) := by decide +kernel
theorem d7_lay_185 : decode cX7_lay 185 = .ok (.aload_n 0, 1) := by decide +kernel
theorem d7_lay_186 : decode cX7_lay 186 = .ok (.getfield 28, 3) := by decide +kernel
theorem d7_lay_189 : decode cX7_lay 189 = .ok (.iload_n 1, 1) := by decide +kernel
theorem d7_lay_190 : decode cX7_lay 190 = .ok (.aload_n 0, 1) := by decide +kernel
theorem d7_lay_191 : decode cX7_lay 191 = .ok (.getfield 28, 3) := by decide +kernel
theorem d7_lay_194 : decode cX7_lay 194 = .ok (.bipush 8, 2) := by decide +kernel
theorem d7_lay_196 : decode cX7_lay 196 = .ok (.iload_n 1, 1) := by decide +kernel
theorem d7_lay_197 : decode cX7_lay 197 = .ok (.iadd, 1) := by decide +kernel
theorem d7_lay_198 : decode cX7_lay 198 = .ok (.iaload, 1) := by decide +kernel
theorem d7_lay_199 : decode cX7_lay 199 = .ok (.iastore, 1) := by decide +kernel
theorem d7_lay_200 : decode cX7_lay 200 = .ok (.iinc 1 1, 3) := by decide +kernel
theorem d7_lay_203 : decode cX7_lay 203 = .ok (.goto (-39), 3) := by decide +kernel
theorem d7_lay_206 : decode cX7_lay 206 = .ok (.iconst 0, 1) := by decide +kernel
theorem d7_lay_207 : decode cX7_lay 207 = .ok (.istore_n 1, 1) := by decide +kernel
theorem d7_lay_208 : decode cX7_lay 208 = .ok (.iload_n 1, 1) := by decide +kernel
theorem d7_lay_209 : decode cX7_lay 209 = .ok (.iconst 4, 1) := by decide +kernel
theorem d7_lay_210 : decode cX7_lay 210 = .ok (.if_icmp .ge 37, 3) := by decide +kernel
theorem d7_lay_213 : decode cX7_lay 213 = .ok (.aload_n 0, 1) := by decide +kernel
theorem d7_lay_214 : decode cX7_lay 214 = .ok (.getfield 31, 3) := by decide +kernel
theorem d7_lay_217 : decode cX7_lay 217 = .ok (.iload_n 1, 1) := by decide +kernel
theorem d7_lay_218 : decode cX7_lay 218 = .ok (.aload_n 0, 1) := by decide +kernel
theorem d7_lay_219 : decode cX7_lay 219 = .ok (.getfield 31, 3) := by decide +kernel
theorem d7_lay_222 : decode cX7_lay 222 = .ok (.iconst 4, 1) := by decide +kernel
theorem d7_lay_223 : decode cX7_lay 223 = .ok (.iload_n 1, 1) := by decide +kernel
theorem d7_lay_224 : decode cX7_lay 224 = .ok (.iadd, 1) := by decide +kernel
theorem d7_lay_225 : decode cX7_lay 225 = .ok (.iaload, 1) := by decide +kernel
theorem d7_lay_226 : decode cX7_lay 226 = .ok (.iastore, 1) := by decide +kernel
theorem d7_lay_227 : decode cX7_lay 227 = .ok (.aload_n 0, 1) := by decide +kernel
theorem d7_lay_228 : decode cX7_lay 228 = .ok (.getfield 34, 3) := by decide +kernel
theorem d7_lay_231 : decode cX7_lay 231 = .ok (.iload_n 1, 1) := by decide +kernel
theorem d7_lay_232 : decode cX7_lay 232 = .ok (.aload_n 0, 1) := by decide +kernel
theorem d7_lay_233 : decode cX7_lay 233 = .ok (.getfield 34, 3) := by decide +kernel
theorem d7_lay_236 : decode cX7_lay 236 = .ok (.iconst 4, 1) := by decide +kernel
theorem d7_lay_237 : decode cX7_lay 237 = .ok (.iload_n 1, 1) := by decide +kernel
theorem d7_lay_238 : decode cX7_lay 238 = .ok (.iadd, 1) := by decide +kernel
theorem d7_lay_239 : decode cX7_lay 239 = .ok (.iaload, 1) := by decide +kernel
theorem d7_lay_240 : decode cX7_lay 240 = .ok (.iastore, 1) := by decide +kernel
theorem d7_lay_241 : decode cX7_lay 241 = .ok (.iinc 1 1, 3) := by decide +kernel
theorem d7_lay_244 : decode cX7_lay 244 = .ok (.goto (-36), 3) := by decide +kernel
theorem d7_lay_247 : decode cX7_lay 247 = .ok (.iconst 0, 1) := by decide +kernel
theorem d7_lay_248 : decode cX7_lay 248 = .ok (.istore_n 1, 1) := by decide +kernel
theorem d7_lay_249 : decode cX7_lay 249 = .ok (.iload_n 1, 1) := by decide +kernel
theorem d7_lay_250 : decode cX7_lay 250 = .ok (.iconst 5, 1) := by decide +kernel
theorem d7_lay_251 : decode cX7_lay 251 = .ok (.if_icmp .ge 37, 3) := by decide +kernel
theorem d7_lay_254 : decode cX7_lay 254 = .ok (.aload_n 0, 1) := by decide +kernel
theorem d7_lay_255 : decode cX7_lay 255 = .ok (.getfield 49, 3) := by decide +kernel
theorem d7_lay_258 : decode cX7_lay 258 = .ok (.iload_n 1, 1) := by decide +kernel
theorem d7_lay_259 : decode cX7_lay 259 = .ok (.aload_n 0, 1) := by decide +kernel
theorem d7_lay_260 : decode cX7_lay 260 = .ok (.getfield 49, 3) := by decide +kernel
theorem d7_lay_263 : decode cX7_lay 263 = .ok (.iconst 5, 1) := by decide +kernel
theorem d7_lay_264 : decode cX7_lay 264 = .ok (.iload_n 1, 1) := by decide +kernel
theorem d7_lay_265 : decode cX7_lay 265 = .ok (.iadd, 1) := by decide +kernel
theorem d7_lay_266 : decode cX7_lay 266 = .ok (.iaload, 1) := by decide +kernel
theorem d7_lay_267 : decode cX7_lay 267 = .ok (.iastore, 1) := by decide +kernel
theorem d7_lay_268 : decode cX7_lay 268 = .ok (.aload_n 0, 1) := by decide +kernel
theorem d7_lay_269 : decode cX7_lay 269 = .ok (.getfield 52, 3) := by decide +kernel
theorem d7_lay_272 : decode cX7_lay 272 = .ok (.iload_n 1, 1) := by decide +kernel
theorem d7_lay_273 : decode cX7_lay 273 = .ok (.aload_n 0, 1) := by decide +kernel
theorem d7_lay_274 : decode cX7_lay 274 = .ok (.getfield 52, 3) := by decide +kernel
theorem d7_lay_277 : decode cX7_lay 277 = .ok (.iconst 5, 1) := by decide +kernel
theorem d7_lay_278 : decode cX7_lay 278 = .ok (.iload_n 1, 1) := by decide +kernel
theorem d7_lay_279 : decode cX7_lay 279 = .ok (.iadd, 1) := by decide +kernel
theorem d7_lay_280 : decode cX7_lay 280 = .ok (.iaload, 1) := by decide +kernel
theorem d7_lay_281 : decode cX7_lay 281 = .ok (.iastore, 1) := by decide +kernel
theorem d7_lay_282 : decode cX7_lay 282 = .ok (.iinc 1 1, 3) := by decide +kernel
theorem d7_lay_285 : decode cX7_lay 285 = .ok (.goto (-36), 3) := by decide +kernel
theorem d7_lay_288 : decode cX7_lay 288 = .ok (.aload_n 0, 1) := by decide +kernel
theorem d7_lay_289 : decode cX7_lay 289 = .ok (.invokevirtual 106, 3) := by decide +kernel
theorem d7_lay_292 : decode cX7_lay 292 = .ok (.aload_n 0, 1) := by decide +kernel
theorem d7_lay_293 : decode cX7_lay 293 = .ok (.getfield 13, 3) := by decide +kernel
theorem d7_lay_296 : decode cX7_lay 296 = .ok (.iconst 0, 1) := by decide +kernel
theorem d7_lay_297 : decode cX7_lay 297 = .ok (.iaload, 1) := by decide +kernel
theorem d7_lay_298 : decode cX7_lay 298 = .ok (.ireturn, 1) := by decide +kernel
def f7_lay_b249 : Nat → Mem → Int32 → Option (Mem × Int32)
  | 0, _, _ => none
  | n + 1, σ, x1 => if 5 ≤ x1 then Option.bind (f7_begin σ) fun σ2 => some (σ2, σ2 3 0) else if ¬ (5 + x1 < 0 ∨ 10 ≤ (5 + x1).toNatClampNeg) then if ¬ (x1 < 0 ∨ 10 ≤ x1.toNatClampNeg) then (bm (mu σ 15 x1.toNatClampNeg (σ 15 ((5 + x1).toNatClampNeg))) fun σ4 => if ¬ (5 + x1 < 0 ∨ 10 ≤ (5 + x1).toNatClampNeg) then if ¬ (x1 < 0 ∨ 10 ≤ x1.toNatClampNeg) then (bm (mu σ4 16 x1.toNatClampNeg (σ4 16 ((5 + x1).toNatClampNeg))) fun σ7 => f7_lay_b249 n σ7 (x1 + 1)) else none else none) else none else none
set_option maxHeartbeats 4000000 in
set_option maxRecDepth 100000 in
theorem t7_lay_b249 {p : Program} {l : Launch} {e : Env} {s : State} {m : MethodId} {args : Array Value} {below : List Frame} {meth : Method} {c : Code} {w : WV} {σ' : Mem} {r : Int32} (S : CallFix p m c cX7_lay 2 s args gtbl RX7) (hr : meth.sig.returnType = (some .int)) (hlk : meth.locks = false) (hK : KS LM w s) : ∀ (n : Nat), ∀ (σ : Mem) (x1 : Int32), f7_lay_b249  n σ x1 = some (σ', r) → ∀ (H : Heap) (locs : List Loc), Rp EM LM w σ H → va_S (AW LM w) s.heap H locs → ∀ (ls : Array Slot), lv_has ls 2 [(0, .ref (w.2.2 0)), (1, .int x1)] → W p l e rm7_lay s m args below meth c H locs 0 0 (MQ below (Qw EM LM w σ' (some (.int r))) args s 0 0 (AW LM w)) (F0 m 249 ls []) := by
  obtain ⟨hx, hb, hml, hown, hts⟩ := id S
  intro n
  induction n with
  | zero =>
    intro σ x1 h0
    cases (show none = _ from h0)
  | succ n ih =>
    intro σ x1 h0 H locs hR hS ls hl
    rw [f7_lay_b249] at h0
    refine lv_iload_n hx hb d7_lay_249 rfl (lv_at hl 1 rfl) ?_
    refine lv_iconst (v := 5) hx hb d7_lay_250 (by decide) ?_
    refine lv_icmp_ge (tgt := 288) hx hb d7_lay_251 (by decide) (fun hc1 => ?_) (fun hc1 => ?_)
    · have h0 := og_t hc1 h0
      refine lv_aload_n hx hb d7_lay_288 rfl (lv_at hl 0 rfl) ?_
      obtain ⟨σ2, hr2, h0⟩ := og_b h0
      refine k7_106 S hK hR hS  hr2 ⟨Nat.zero_le _, Nat.zero_le _⟩ ⟨Nat.le_of_ble_eq_true rfl, Nat.le_of_ble_eq_true rfl⟩ hl.1 (Nat.le_of_ble_eq_true rfl) d7_lay_289 (fun H locs hR hS => ?_)
      refine lv_aload_n hx hb d7_lay_292 rfl (lv_at hl 0 rfl) ?_
      refine g7_13 S hK hR d7_lay_293 ?_
      refine lv_iconst (v := 0) hx hb d7_lay_296 (by decide) ?_
      refine q_ld (k := 0) S hK hR (by decide) (eM_102 w _) (vin (by decide)) (by decide) d7_lay_297 ?_
      exact q_iret S hr hlk hR hS h0 d7_lay_298
    · have h0 := og_f hc1 h0
      refine lv_aload_n hx hb d7_lay_254 rfl (lv_at hl 0 rfl) ?_
      refine g7_49 S hK hR d7_lay_255 ?_
      refine lv_iload_n hx hb d7_lay_258 rfl (lv_at hl 1 rfl) ?_
      refine lv_aload_n hx hb d7_lay_259 rfl (lv_at hl 0 rfl) ?_
      refine g7_49 S hK hR d7_lay_260 ?_
      refine lv_iconst (v := 5) hx hb d7_lay_263 (by decide) ?_
      refine lv_iload_n hx hb d7_lay_264 rfl (lv_at hl 1 rfl) ?_
      refine lv_iadd hx hb d7_lay_265 ?_
      obtain ⟨hi2, h0⟩ := og_if h0
      refine q_ld (k := ((5 + x1).toNatClampNeg)) S hK hR (by decide) (eM_114 w _) hi2 rfl d7_lay_266 ?_
      obtain ⟨hi3, h0⟩ := og_if h0
      obtain ⟨σ4, hm4, h0⟩ := og_m h0
      refine q_st S hK hR hS (by decide) (eM_114 w) hi3 rfl hm4 d7_lay_267 (fun H locs hR hS => ?_)
      refine lv_aload_n hx hb d7_lay_268 rfl (lv_at hl 0 rfl) ?_
      refine g7_52 S hK hR d7_lay_269 ?_
      refine lv_iload_n hx hb d7_lay_272 rfl (lv_at hl 1 rfl) ?_
      refine lv_aload_n hx hb d7_lay_273 rfl (lv_at hl 0 rfl) ?_
      refine g7_52 S hK hR d7_lay_274 ?_
      refine lv_iconst (v := 5) hx hb d7_lay_277 (by decide) ?_
      refine lv_iload_n hx hb d7_lay_278 rfl (lv_at hl 1 rfl) ?_
      refine lv_iadd hx hb d7_lay_279 ?_
      obtain ⟨hi5, h0⟩ := og_if h0
      refine q_ld (k := ((5 + x1).toNatClampNeg)) S hK hR (by decide) (eM_115 w _) hi5 rfl d7_lay_280 ?_
      obtain ⟨hi6, h0⟩ := og_if h0
      obtain ⟨σ7, hm7, h0⟩ := og_m h0
      refine q_st S hK hR hS (by decide) (eM_115 w) hi6 rfl hm7 d7_lay_281 (fun H locs hR hS => ?_)
      refine lv_iinc (v := x1 + 1) (lv' := [(1, .int (x1 + 1)), (0, .ref (w.2.2 0))]) hx hb d7_lay_282 hl (k := 1) rfl (ii1 _) (by decide) rfl (fun ls hl => ?_)
      refine lv_goto (tgt := 249) hx hb d7_lay_285 (by decide) ?_
      exact ih σ7 (x1 + 1) h0 _ _ hR hS _ (lv_sub hl [1, 0] rfl)
def f7_lay_b208 : Nat → Mem → Int32 → Option (Mem × Int32)
  | 0, _, _ => none
  | n + 1, σ, x1 => if 4 ≤ x1 then f7_lay_b249 1000 σ 0 else if ¬ (4 + x1 < 0 ∨ 8 ≤ (4 + x1).toNatClampNeg) then if ¬ (x1 < 0 ∨ 8 ≤ x1.toNatClampNeg) then (bm (mu σ 9 x1.toNatClampNeg (σ 9 ((4 + x1).toNatClampNeg))) fun σ4 => if ¬ (4 + x1 < 0 ∨ 8 ≤ (4 + x1).toNatClampNeg) then if ¬ (x1 < 0 ∨ 8 ≤ x1.toNatClampNeg) then (bm (mu σ4 10 x1.toNatClampNeg (σ4 10 ((4 + x1).toNatClampNeg))) fun σ7 => f7_lay_b208 n σ7 (x1 + 1)) else none else none) else none else none
set_option maxHeartbeats 4000000 in
set_option maxRecDepth 100000 in
theorem t7_lay_b208 {p : Program} {l : Launch} {e : Env} {s : State} {m : MethodId} {args : Array Value} {below : List Frame} {meth : Method} {c : Code} {w : WV} {σ' : Mem} {r : Int32} (S : CallFix p m c cX7_lay 2 s args gtbl RX7) (hr : meth.sig.returnType = (some .int)) (hlk : meth.locks = false) (hK : KS LM w s) : ∀ (n : Nat), ∀ (σ : Mem) (x1 : Int32), f7_lay_b208  n σ x1 = some (σ', r) → ∀ (H : Heap) (locs : List Loc), Rp EM LM w σ H → va_S (AW LM w) s.heap H locs → ∀ (ls : Array Slot), lv_has ls 2 [(0, .ref (w.2.2 0)), (1, .int x1)] → W p l e rm7_lay s m args below meth c H locs 0 0 (MQ below (Qw EM LM w σ' (some (.int r))) args s 0 0 (AW LM w)) (F0 m 208 ls []) := by
  obtain ⟨hx, hb, hml, hown, hts⟩ := id S
  intro n
  induction n with
  | zero =>
    intro σ x1 h0
    cases (show none = _ from h0)
  | succ n ih =>
    intro σ x1 h0 H locs hR hS ls hl
    rw [f7_lay_b208] at h0
    refine lv_iload_n hx hb d7_lay_208 rfl (lv_at hl 1 rfl) ?_
    refine lv_iconst (v := 4) hx hb d7_lay_209 (by decide) ?_
    refine lv_icmp_ge (tgt := 247) hx hb d7_lay_210 (by decide) (fun hc1 => ?_) (fun hc1 => ?_)
    · have h0 := og_t hc1 h0
      refine lv_iconst (v := 0) hx hb d7_lay_247 (by decide) ?_
      refine lv_istore_n (lv' := [(1, .int 0), (0, .ref (w.2.2 0))]) hx hb d7_lay_248 rfl hl (by decide) rfl (fun ls hl => ?_)
      exact t7_lay_b249 S hr hlk hK 1000 σ 0 h0 _ _ hR hS _ (lv_sub hl [1, 0] rfl)
    · have h0 := og_f hc1 h0
      refine lv_aload_n hx hb d7_lay_213 rfl (lv_at hl 0 rfl) ?_
      refine g7_31 S hK hR d7_lay_214 ?_
      refine lv_iload_n hx hb d7_lay_217 rfl (lv_at hl 1 rfl) ?_
      refine lv_aload_n hx hb d7_lay_218 rfl (lv_at hl 0 rfl) ?_
      refine g7_31 S hK hR d7_lay_219 ?_
      refine lv_iconst (v := 4) hx hb d7_lay_222 (by decide) ?_
      refine lv_iload_n hx hb d7_lay_223 rfl (lv_at hl 1 rfl) ?_
      refine lv_iadd hx hb d7_lay_224 ?_
      obtain ⟨hi2, h0⟩ := og_if h0
      refine q_ld (k := ((4 + x1).toNatClampNeg)) S hK hR (by decide) (eM_108 w _) hi2 rfl d7_lay_225 ?_
      obtain ⟨hi3, h0⟩ := og_if h0
      obtain ⟨σ4, hm4, h0⟩ := og_m h0
      refine q_st S hK hR hS (by decide) (eM_108 w) hi3 rfl hm4 d7_lay_226 (fun H locs hR hS => ?_)
      refine lv_aload_n hx hb d7_lay_227 rfl (lv_at hl 0 rfl) ?_
      refine g7_34 S hK hR d7_lay_228 ?_
      refine lv_iload_n hx hb d7_lay_231 rfl (lv_at hl 1 rfl) ?_
      refine lv_aload_n hx hb d7_lay_232 rfl (lv_at hl 0 rfl) ?_
      refine g7_34 S hK hR d7_lay_233 ?_
      refine lv_iconst (v := 4) hx hb d7_lay_236 (by decide) ?_
      refine lv_iload_n hx hb d7_lay_237 rfl (lv_at hl 1 rfl) ?_
      refine lv_iadd hx hb d7_lay_238 ?_
      obtain ⟨hi5, h0⟩ := og_if h0
      refine q_ld (k := ((4 + x1).toNatClampNeg)) S hK hR (by decide) (eM_109 w _) hi5 rfl d7_lay_239 ?_
      obtain ⟨hi6, h0⟩ := og_if h0
      obtain ⟨σ7, hm7, h0⟩ := og_m h0
      refine q_st S hK hR hS (by decide) (eM_109 w) hi6 rfl hm7 d7_lay_240 (fun H locs hR hS => ?_)
      refine lv_iinc (v := x1 + 1) (lv' := [(1, .int (x1 + 1)), (0, .ref (w.2.2 0))]) hx hb d7_lay_241 hl (k := 1) rfl (ii1 _) (by decide) rfl (fun ls hl => ?_)
      refine lv_goto (tgt := 208) hx hb d7_lay_244 (by decide) ?_
      exact ih σ7 (x1 + 1) h0 _ _ hR hS _ (lv_sub hl [1, 0] rfl)
def f7_lay_b164 : Nat → Mem → Int32 → Option (Mem × Int32)
  | 0, _, _ => none
  | n + 1, σ, x1 => if 8 ≤ x1 then f7_lay_b208 1000 σ 0 else if ¬ (8 + x1 < 0 ∨ 16 ≤ (8 + x1).toNatClampNeg) then if ¬ (x1 < 0 ∨ 16 ≤ x1.toNatClampNeg) then (bm (mu σ 7 x1.toNatClampNeg (σ 7 ((8 + x1).toNatClampNeg))) fun σ4 => if ¬ (8 + x1 < 0 ∨ 16 ≤ (8 + x1).toNatClampNeg) then if ¬ (x1 < 0 ∨ 16 ≤ x1.toNatClampNeg) then (bm (mu σ4 8 x1.toNatClampNeg (σ4 8 ((8 + x1).toNatClampNeg))) fun σ7 => f7_lay_b164 n σ7 (x1 + 1)) else none else none) else none else none
set_option maxHeartbeats 4000000 in
set_option maxRecDepth 100000 in
theorem t7_lay_b164 {p : Program} {l : Launch} {e : Env} {s : State} {m : MethodId} {args : Array Value} {below : List Frame} {meth : Method} {c : Code} {w : WV} {σ' : Mem} {r : Int32} (S : CallFix p m c cX7_lay 2 s args gtbl RX7) (hr : meth.sig.returnType = (some .int)) (hlk : meth.locks = false) (hK : KS LM w s) : ∀ (n : Nat), ∀ (σ : Mem) (x1 : Int32), f7_lay_b164  n σ x1 = some (σ', r) → ∀ (H : Heap) (locs : List Loc), Rp EM LM w σ H → va_S (AW LM w) s.heap H locs → ∀ (ls : Array Slot), lv_has ls 2 [(0, .ref (w.2.2 0)), (1, .int x1)] → W p l e rm7_lay s m args below meth c H locs 0 0 (MQ below (Qw EM LM w σ' (some (.int r))) args s 0 0 (AW LM w)) (F0 m 164 ls []) := by
  obtain ⟨hx, hb, hml, hown, hts⟩ := id S
  intro n
  induction n with
  | zero =>
    intro σ x1 h0
    cases (show none = _ from h0)
  | succ n ih =>
    intro σ x1 h0 H locs hR hS ls hl
    rw [f7_lay_b164] at h0
    refine lv_iload_n hx hb d7_lay_164 rfl (lv_at hl 1 rfl) ?_
    refine lv_bipush (v := 8) hx hb d7_lay_165 (by decide) ?_
    refine lv_icmp_ge (tgt := 206) hx hb d7_lay_167 (by decide) (fun hc1 => ?_) (fun hc1 => ?_)
    · have h0 := og_t hc1 h0
      refine lv_iconst (v := 0) hx hb d7_lay_206 (by decide) ?_
      refine lv_istore_n (lv' := [(1, .int 0), (0, .ref (w.2.2 0))]) hx hb d7_lay_207 rfl hl (by decide) rfl (fun ls hl => ?_)
      exact t7_lay_b208 S hr hlk hK 1000 σ 0 h0 _ _ hR hS _ (lv_sub hl [1, 0] rfl)
    · have h0 := og_f hc1 h0
      refine lv_aload_n hx hb d7_lay_170 rfl (lv_at hl 0 rfl) ?_
      refine g7_25 S hK hR d7_lay_171 ?_
      refine lv_iload_n hx hb d7_lay_174 rfl (lv_at hl 1 rfl) ?_
      refine lv_aload_n hx hb d7_lay_175 rfl (lv_at hl 0 rfl) ?_
      refine g7_25 S hK hR d7_lay_176 ?_
      refine lv_bipush (v := 8) hx hb d7_lay_179 (by decide) ?_
      refine lv_iload_n hx hb d7_lay_181 rfl (lv_at hl 1 rfl) ?_
      refine lv_iadd hx hb d7_lay_182 ?_
      obtain ⟨hi2, h0⟩ := og_if h0
      refine q_ld (k := ((8 + x1).toNatClampNeg)) S hK hR (by decide) (eM_106 w _) hi2 rfl d7_lay_183 ?_
      obtain ⟨hi3, h0⟩ := og_if h0
      obtain ⟨σ4, hm4, h0⟩ := og_m h0
      refine q_st S hK hR hS (by decide) (eM_106 w) hi3 rfl hm4 d7_lay_184 (fun H locs hR hS => ?_)
      refine lv_aload_n hx hb d7_lay_185 rfl (lv_at hl 0 rfl) ?_
      refine g7_28 S hK hR d7_lay_186 ?_
      refine lv_iload_n hx hb d7_lay_189 rfl (lv_at hl 1 rfl) ?_
      refine lv_aload_n hx hb d7_lay_190 rfl (lv_at hl 0 rfl) ?_
      refine g7_28 S hK hR d7_lay_191 ?_
      refine lv_bipush (v := 8) hx hb d7_lay_194 (by decide) ?_
      refine lv_iload_n hx hb d7_lay_196 rfl (lv_at hl 1 rfl) ?_
      refine lv_iadd hx hb d7_lay_197 ?_
      obtain ⟨hi5, h0⟩ := og_if h0
      refine q_ld (k := ((8 + x1).toNatClampNeg)) S hK hR (by decide) (eM_107 w _) hi5 rfl d7_lay_198 ?_
      obtain ⟨hi6, h0⟩ := og_if h0
      obtain ⟨σ7, hm7, h0⟩ := og_m h0
      refine q_st S hK hR hS (by decide) (eM_107 w) hi6 rfl hm7 d7_lay_199 (fun H locs hR hS => ?_)
      refine lv_iinc (v := x1 + 1) (lv' := [(1, .int (x1 + 1)), (0, .ref (w.2.2 0))]) hx hb d7_lay_200 hl (k := 1) rfl (ii1 _) (by decide) rfl (fun ls hl => ?_)
      refine lv_goto (tgt := 164) hx hb d7_lay_203 (by decide) ?_
      exact ih σ7 (x1 + 1) h0 _ _ hR hS _ (lv_sub hl [1, 0] rfl)
def f7_lay_b90 : Nat → Mem → Int32 → Option (Mem × Int32)
  | 0, _, _ => none
  | n + 1, σ, x1 => if 6 ≤ x1 then f7_lay_b164 1000 σ 0 else if ¬ (6 + x1 < 0 ∨ 12 ≤ (6 + x1).toNatClampNeg) then if ¬ (x1 < 0 ∨ 12 ≤ x1.toNatClampNeg) then (bm (mu σ 4 x1.toNatClampNeg (σ 4 ((6 + x1).toNatClampNeg))) fun σ4 => if ¬ (6 + x1 < 0 ∨ 12 ≤ (6 + x1).toNatClampNeg) then if ¬ (x1 < 0 ∨ 12 ≤ x1.toNatClampNeg) then (bm (mu σ4 5 x1.toNatClampNeg (σ4 5 ((6 + x1).toNatClampNeg))) fun σ7 => if ¬ (6 + x1 < 0 ∨ 12 ≤ (6 + x1).toNatClampNeg) then if ¬ (x1 < 0 ∨ 12 ≤ x1.toNatClampNeg) then (bm (mu σ7 12 x1.toNatClampNeg (σ7 12 ((6 + x1).toNatClampNeg))) fun σ10 => if ¬ (6 + x1 < 0 ∨ 12 ≤ (6 + x1).toNatClampNeg) then if ¬ (x1 < 0 ∨ 12 ≤ x1.toNatClampNeg) then (bm (mu σ10 13 x1.toNatClampNeg (σ10 13 ((6 + x1).toNatClampNeg))) fun σ13 => f7_lay_b90 n σ13 (x1 + 1)) else none else none) else none else none) else none else none) else none else none
set_option maxHeartbeats 4000000 in
set_option maxRecDepth 100000 in
theorem t7_lay_b90 {p : Program} {l : Launch} {e : Env} {s : State} {m : MethodId} {args : Array Value} {below : List Frame} {meth : Method} {c : Code} {w : WV} {σ' : Mem} {r : Int32} (S : CallFix p m c cX7_lay 2 s args gtbl RX7) (hr : meth.sig.returnType = (some .int)) (hlk : meth.locks = false) (hK : KS LM w s) : ∀ (n : Nat), ∀ (σ : Mem) (x1 : Int32), f7_lay_b90  n σ x1 = some (σ', r) → ∀ (H : Heap) (locs : List Loc), Rp EM LM w σ H → va_S (AW LM w) s.heap H locs → ∀ (ls : Array Slot), lv_has ls 2 [(0, .ref (w.2.2 0)), (1, .int x1)] → W p l e rm7_lay s m args below meth c H locs 0 0 (MQ below (Qw EM LM w σ' (some (.int r))) args s 0 0 (AW LM w)) (F0 m 90 ls []) := by
  obtain ⟨hx, hb, hml, hown, hts⟩ := id S
  intro n
  induction n with
  | zero =>
    intro σ x1 h0
    cases (show none = _ from h0)
  | succ n ih =>
    intro σ x1 h0 H locs hR hS ls hl
    rw [f7_lay_b90] at h0
    refine lv_iload_n hx hb d7_lay_90 rfl (lv_at hl 1 rfl) ?_
    refine lv_bipush (v := 6) hx hb d7_lay_91 (by decide) ?_
    refine lv_icmp_ge (tgt := 162) hx hb d7_lay_93 (by decide) (fun hc1 => ?_) (fun hc1 => ?_)
    · have h0 := og_t hc1 h0
      refine lv_iconst (v := 0) hx hb d7_lay_162 (by decide) ?_
      refine lv_istore_n (lv' := [(1, .int 0), (0, .ref (w.2.2 0))]) hx hb d7_lay_163 rfl hl (by decide) rfl (fun ls hl => ?_)
      exact t7_lay_b164 S hr hlk hK 1000 σ 0 h0 _ _ hR hS _ (lv_sub hl [1, 0] rfl)
    · have h0 := og_f hc1 h0
      refine lv_aload_n hx hb d7_lay_96 rfl (lv_at hl 0 rfl) ?_
      refine g7_16 S hK hR d7_lay_97 ?_
      refine lv_iload_n hx hb d7_lay_100 rfl (lv_at hl 1 rfl) ?_
      refine lv_aload_n hx hb d7_lay_101 rfl (lv_at hl 0 rfl) ?_
      refine g7_16 S hK hR d7_lay_102 ?_
      refine lv_bipush (v := 6) hx hb d7_lay_105 (by decide) ?_
      refine lv_iload_n hx hb d7_lay_107 rfl (lv_at hl 1 rfl) ?_
      refine lv_iadd hx hb d7_lay_108 ?_
      obtain ⟨hi2, h0⟩ := og_if h0
      refine q_ld (k := ((6 + x1).toNatClampNeg)) S hK hR (by decide) (eM_103 w _) hi2 rfl d7_lay_109 ?_
      obtain ⟨hi3, h0⟩ := og_if h0
      obtain ⟨σ4, hm4, h0⟩ := og_m h0
      refine q_st S hK hR hS (by decide) (eM_103 w) hi3 rfl hm4 d7_lay_110 (fun H locs hR hS => ?_)
      refine lv_aload_n hx hb d7_lay_111 rfl (lv_at hl 0 rfl) ?_
      refine g7_19 S hK hR d7_lay_112 ?_
      refine lv_iload_n hx hb d7_lay_115 rfl (lv_at hl 1 rfl) ?_
      refine lv_aload_n hx hb d7_lay_116 rfl (lv_at hl 0 rfl) ?_
      refine g7_19 S hK hR d7_lay_117 ?_
      refine lv_bipush (v := 6) hx hb d7_lay_120 (by decide) ?_
      refine lv_iload_n hx hb d7_lay_122 rfl (lv_at hl 1 rfl) ?_
      refine lv_iadd hx hb d7_lay_123 ?_
      obtain ⟨hi5, h0⟩ := og_if h0
      refine q_ld (k := ((6 + x1).toNatClampNeg)) S hK hR (by decide) (eM_104 w _) hi5 rfl d7_lay_124 ?_
      obtain ⟨hi6, h0⟩ := og_if h0
      obtain ⟨σ7, hm7, h0⟩ := og_m h0
      refine q_st S hK hR hS (by decide) (eM_104 w) hi6 rfl hm7 d7_lay_125 (fun H locs hR hS => ?_)
      refine lv_aload_n hx hb d7_lay_126 rfl (lv_at hl 0 rfl) ?_
      refine g7_40 S hK hR d7_lay_127 ?_
      refine lv_iload_n hx hb d7_lay_130 rfl (lv_at hl 1 rfl) ?_
      refine lv_aload_n hx hb d7_lay_131 rfl (lv_at hl 0 rfl) ?_
      refine g7_40 S hK hR d7_lay_132 ?_
      refine lv_bipush (v := 6) hx hb d7_lay_135 (by decide) ?_
      refine lv_iload_n hx hb d7_lay_137 rfl (lv_at hl 1 rfl) ?_
      refine lv_iadd hx hb d7_lay_138 ?_
      obtain ⟨hi8, h0⟩ := og_if h0
      refine q_ld (k := ((6 + x1).toNatClampNeg)) S hK hR (by decide) (eM_111 w _) hi8 rfl d7_lay_139 ?_
      obtain ⟨hi9, h0⟩ := og_if h0
      obtain ⟨σ10, hm10, h0⟩ := og_m h0
      refine q_st S hK hR hS (by decide) (eM_111 w) hi9 rfl hm10 d7_lay_140 (fun H locs hR hS => ?_)
      refine lv_aload_n hx hb d7_lay_141 rfl (lv_at hl 0 rfl) ?_
      refine g7_43 S hK hR d7_lay_142 ?_
      refine lv_iload_n hx hb d7_lay_145 rfl (lv_at hl 1 rfl) ?_
      refine lv_aload_n hx hb d7_lay_146 rfl (lv_at hl 0 rfl) ?_
      refine g7_43 S hK hR d7_lay_147 ?_
      refine lv_bipush (v := 6) hx hb d7_lay_150 (by decide) ?_
      refine lv_iload_n hx hb d7_lay_152 rfl (lv_at hl 1 rfl) ?_
      refine lv_iadd hx hb d7_lay_153 ?_
      obtain ⟨hi11, h0⟩ := og_if h0
      refine q_ld (k := ((6 + x1).toNatClampNeg)) S hK hR (by decide) (eM_112 w _) hi11 rfl d7_lay_154 ?_
      obtain ⟨hi12, h0⟩ := og_if h0
      obtain ⟨σ13, hm13, h0⟩ := og_m h0
      refine q_st S hK hR hS (by decide) (eM_112 w) hi12 rfl hm13 d7_lay_155 (fun H locs hR hS => ?_)
      refine lv_iinc (v := x1 + 1) (lv' := [(1, .int (x1 + 1)), (0, .ref (w.2.2 0))]) hx hb d7_lay_156 hl (k := 1) rfl (ii1 _) (by decide) rfl (fun ls hl => ?_)
      refine lv_goto (tgt := 90) hx hb d7_lay_159 (by decide) ?_
      exact ih σ13 (x1 + 1) h0 _ _ hR hS _ (lv_sub hl [1, 0] rfl)
def f7_lay_b40 (σ : Mem) : Option (Mem × Int32) := bm (mu σ 3 0 (σ 3 1)) fun σ1 => bm (mu σ1 6 0 (σ1 6 1)) fun σ2 => bm (mu σ2 11 0 (σ2 11 1)) fun σ3 => bm (mu σ3 14 0 (σ3 14 1)) fun σ4 => f7_lay_b90 1000 σ4 0
set_option maxHeartbeats 4000000 in
set_option maxRecDepth 100000 in
theorem t7_lay_b40 {p : Program} {l : Launch} {e : Env} {s : State} {m : MethodId} {args : Array Value} {below : List Frame} {meth : Method} {c : Code} {w : WV} {σ' : Mem} {r : Int32} (S : CallFix p m c cX7_lay 2 s args gtbl RX7) (hr : meth.sig.returnType = (some .int)) (hlk : meth.locks = false) (hK : KS LM w s) : ∀ (σ : Mem), f7_lay_b40  σ = some (σ', r) → ∀ (H : Heap) (locs : List Loc), Rp EM LM w σ H → va_S (AW LM w) s.heap H locs → ∀ (ls : Array Slot), lv_has ls 2 [(0, .ref (w.2.2 0))] → W p l e rm7_lay s m args below meth c H locs 0 0 (MQ below (Qw EM LM w σ' (some (.int r))) args s 0 0 (AW LM w)) (F0 m 40 ls []) := by
  obtain ⟨hx, hb, hml, hown, hts⟩ := id S
  intro σ h0 H locs hR hS ls hl
  unfold f7_lay_b40 at h0
  refine lv_aload_n hx hb d7_lay_40 rfl (lv_at hl 0 rfl) ?_
  refine g7_13 S hK hR d7_lay_41 ?_
  refine lv_iconst (v := 0) hx hb d7_lay_44 (by decide) ?_
  refine lv_aload_n hx hb d7_lay_45 rfl (lv_at hl 0 rfl) ?_
  refine g7_13 S hK hR d7_lay_46 ?_
  refine lv_iconst (v := 1) hx hb d7_lay_49 (by decide) ?_
  refine q_ld (k := 1) S hK hR (by decide) (eM_102 w _) (vin (by decide)) (by decide) d7_lay_50 ?_
  obtain ⟨σ1, hm1, h0⟩ := og_m h0
  refine q_st S hK hR hS (by decide) (eM_102 w) (vin (by decide)) (by decide) hm1 d7_lay_51 (fun H locs hR hS => ?_)
  refine lv_aload_n hx hb d7_lay_52 rfl (lv_at hl 0 rfl) ?_
  refine g7_22 S hK hR d7_lay_53 ?_
  refine lv_iconst (v := 0) hx hb d7_lay_56 (by decide) ?_
  refine lv_aload_n hx hb d7_lay_57 rfl (lv_at hl 0 rfl) ?_
  refine g7_22 S hK hR d7_lay_58 ?_
  refine lv_iconst (v := 1) hx hb d7_lay_61 (by decide) ?_
  refine q_ld (k := 1) S hK hR (by decide) (eM_105 w _) (vin (by decide)) (by decide) d7_lay_62 ?_
  obtain ⟨σ2, hm2, h0⟩ := og_m h0
  refine q_st S hK hR hS (by decide) (eM_105 w) (vin (by decide)) (by decide) hm2 d7_lay_63 (fun H locs hR hS => ?_)
  refine lv_aload_n hx hb d7_lay_64 rfl (lv_at hl 0 rfl) ?_
  refine g7_37 S hK hR d7_lay_65 ?_
  refine lv_iconst (v := 0) hx hb d7_lay_68 (by decide) ?_
  refine lv_aload_n hx hb d7_lay_69 rfl (lv_at hl 0 rfl) ?_
  refine g7_37 S hK hR d7_lay_70 ?_
  refine lv_iconst (v := 1) hx hb d7_lay_73 (by decide) ?_
  refine q_ld (k := 1) S hK hR (by decide) (eM_110 w _) (vin (by decide)) (by decide) d7_lay_74 ?_
  obtain ⟨σ3, hm3, h0⟩ := og_m h0
  refine q_st S hK hR hS (by decide) (eM_110 w) (vin (by decide)) (by decide) hm3 d7_lay_75 (fun H locs hR hS => ?_)
  refine lv_aload_n hx hb d7_lay_76 rfl (lv_at hl 0 rfl) ?_
  refine g7_46 S hK hR d7_lay_77 ?_
  refine lv_iconst (v := 0) hx hb d7_lay_80 (by decide) ?_
  refine lv_aload_n hx hb d7_lay_81 rfl (lv_at hl 0 rfl) ?_
  refine g7_46 S hK hR d7_lay_82 ?_
  refine lv_iconst (v := 1) hx hb d7_lay_85 (by decide) ?_
  refine q_ld (k := 1) S hK hR (by decide) (eM_113 w _) (vin (by decide)) (by decide) d7_lay_86 ?_
  obtain ⟨σ4, hm4, h0⟩ := og_m h0
  refine q_st S hK hR hS (by decide) (eM_113 w) (vin (by decide)) (by decide) hm4 d7_lay_87 (fun H locs hR hS => ?_)
  refine lv_iconst (v := 0) hx hb d7_lay_88 (by decide) ?_
  refine lv_istore_n (lv' := [(1, .int 0), (0, .ref (w.2.2 0))]) hx hb d7_lay_89 rfl hl (by decide) rfl (fun ls hl => ?_)
  exact t7_lay_b90 S hr hlk hK 1000 σ4 0 h0 _ _ hR hS _ (lv_sub hl [1, 0] rfl)
def f7_lay (σ : Mem) : Option (Mem × Int32) := ob (f7_readAll σ) fun σ1 r1 => if r1 = (-4) then if (σ1 3 1) = 0 then some (σ1, (-2)) else if (σ1 14 1) ≤ 0 then f7_lay_b40 σ1 else Option.bind (f7_allOdds σ1 1) fun r5 => if r5 = 10 then f7_lay_b40 σ1 else some (σ1, (-2)) else some (σ1, (-2))
set_option maxHeartbeats 4000000 in
set_option maxRecDepth 100000 in
theorem c7_lay (l : Launch) {w : WV} {σ : Mem} {σ' : Mem} {r : Int32} (h0 : f7_lay σ = some (σ', r)) : Met l yX7_lay (wy yX7_lay cX7_lay 2 (some .int)) rm7_lay (Pw EM LM w [.ref (w.2.2 0)] σ) (Qw EM LM w σ' (some (.int r))) 0 0 (AW LM w) := by
  refine mk_met (by decide) (Nat.le_of_ble_eq_true rfl) ?_
  intro p e s m below meth c S hr hlk hK hR ls hl
  obtain ⟨hx, hb, hml, hown, hts⟩ := id S
  have hl : lv_has ls 2 [(0, .ref (w.2.2 0))] := hl
  have hS : va_S (AW LM w) s.heap s.heap [] := va_S.rf
  unfold f7_lay at h0
  refine lv_aload_n hx hb d7_lay_0 rfl (lv_at hl 0 rfl) ?_
  obtain ⟨σ1, r1, hr1, h0⟩ := og_o h0
  refine k7_152 S hK hR hS  hr1 ⟨Nat.zero_le _, Nat.zero_le _⟩ ⟨Nat.le_of_ble_eq_true rfl, Nat.le_of_ble_eq_true rfl⟩ hl.1 (Nat.le_of_ble_eq_true rfl) d7_lay_1 (fun H locs hR hS => ?_)
  refine lv_bipush (v := (-4)) hx hb d7_lay_4 (by decide) ?_
  refine lv_icmp_ne (tgt := 37) hx hb d7_lay_6 (by decide) (fun hc2 => ?_) (fun hc2 => ?_)
  · have h0 := og_f hc2 h0
    refine lv_bipush (v := (-2)) hx hb d7_lay_37 (by decide) ?_
    exact q_iret S hr hlk hR hS h0 d7_lay_39
  · have h0 := og_t hc2 h0
    refine lv_aload_n hx hb d7_lay_9 rfl (lv_at hl 0 rfl) ?_
    refine g7_13 S hK hR d7_lay_10 ?_
    refine lv_iconst (v := 1) hx hb d7_lay_13 (by decide) ?_
    refine q_ld (k := 1) S hK hR (by decide) (eM_102 w _) (vin (by decide)) (by decide) d7_lay_14 ?_
    refine lv_if_eq (tgt := 37) hx hb d7_lay_15 (by decide) (fun hc3 => ?_) (fun hc3 => ?_)
    · have h0 := og_t hc3 h0
      refine lv_bipush (v := (-2)) hx hb d7_lay_37 (by decide) ?_
      exact q_iret S hr hlk hR hS h0 d7_lay_39
    · have h0 := og_f hc3 h0
      refine lv_aload_n hx hb d7_lay_18 rfl (lv_at hl 0 rfl) ?_
      refine g7_46 S hK hR d7_lay_19 ?_
      refine lv_iconst (v := 1) hx hb d7_lay_22 (by decide) ?_
      refine q_ld (k := 1) S hK hR (by decide) (eM_113 w _) (vin (by decide)) (by decide) d7_lay_23 ?_
      refine lv_if_le (tgt := 40) hx hb d7_lay_24 (by decide) (fun hc4 => ?_) (fun hc4 => ?_)
      · have h0 := og_t hc4 h0
        exact t7_lay_b40 S hr hlk hK σ1 h0 _ _ hR hS _ (lv_sub hl [0] rfl)
      · have h0 := og_f hc4 h0
        refine lv_aload_n hx hb d7_lay_27 rfl (lv_at hl 0 rfl) ?_
        refine lv_iconst (v := 1) hx hb d7_lay_28 (by decide) ?_
        obtain ⟨r5, hr5, h0⟩ := og_b h0
        refine k7_156 S hK hR  hr5 ⟨Nat.zero_le _, Nat.zero_le _⟩ ⟨Nat.le_of_ble_eq_true rfl, Nat.le_of_ble_eq_true rfl⟩ hl.1 (Nat.le_of_ble_eq_true rfl) d7_lay_29 ?_
        refine lv_bipush (v := 10) hx hb d7_lay_32 (by decide) ?_
        refine lv_icmp_eq (tgt := 40) hx hb d7_lay_34 (by decide) (fun hc6 => ?_) (fun hc6 => ?_)
        · have h0 := og_t hc6 h0
          exact t7_lay_b40 S hr hlk hK σ1 h0 _ _ hR hS _ (lv_sub hl [0] rfl)
        · have h0 := og_f hc6 h0
          refine lv_bipush (v := (-2)) hx hb d7_lay_37 (by decide) ?_
          exact q_iret S hr hlk hR hS h0 d7_lay_39
/-! FourTenGatesModel.isTrain(I)Z -/
abbrev rm7_isTrain : Room := { frames := 1, cells := 0, slots := 0, locals := 25 }
theorem d7_isTrain_0 : decode cX7_isTrain 0 = .ok (.iload_n 1, 1) := by decide +kernel
theorem d7_isTrain_1 : decode cX7_isTrain 1 = .ok (.i2l, 1) := by decide +kernel
theorem d7_isTrain_2 : decode cX7_isTrain 2 = .ok (.lconst 0, 1) := by decide +kernel
theorem d7_isTrain_3 : decode cX7_isTrain 3 = .ok (.aload_n 0, 1) := by decide +kernel
theorem d7_isTrain_4 : decode cX7_isTrain 4 = .ok (.getfield 13, 3) := by decide +kernel
theorem d7_isTrain_7 : decode cX7_isTrain 7 = .ok (.iconst 0, 1) := by decide +kernel
theorem d7_isTrain_8 : decode cX7_isTrain 8 = .ok (.iaload, 1) := by decide +kernel
theorem d7_isTrain_9 : decode cX7_isTrain 9 = .ok (.iconst 1, 1) := by decide +kernel
theorem d7_isTrain_10 : decode cX7_isTrain 10 = .ok (.isub, 1) := by decide +kernel
theorem d7_isTrain_11 : decode cX7_isTrain 11 = .ok (.i2l, 1) := by decide +kernel
theorem d7_isTrain_12 : decode cX7_isTrain 12 = .ok (.invokestatic 113, 3) := by decide +kernel
theorem d7_isTrain_15 : decode cX7_isTrain 15 = .ok (.ireturn, 1) := by decide +kernel
def f7_isTrain (σ : Mem) (x1 : Int32) : Option Int32 := Option.bind (f7_in x1.toInt64 (0 : Int64) (((σ 3 0) - 1).toInt64)) fun r1 => if r1 = 0 ∨ r1 = 1 then some r1 else none
set_option maxHeartbeats 4000000 in
set_option maxRecDepth 100000 in
theorem c7_isTrain (l : Launch) {w : WV} {σ : Mem} {x1 : Int32} {r : Int32} (h0 : f7_isTrain σ x1 = some r) : Met l yX7_isTrain (wy yX7_isTrain cX7_isTrain 2 (some .boolean)) rm7_isTrain (Pw EM LM w [.ref (w.2.2 0), .int x1] σ) (Qp (.int r)) 0 0 (fun _ => False) := by
  refine mk_met (by decide) (Nat.le_of_ble_eq_true rfl) ?_
  intro p e s m below meth c S hr hlk hK hR ls hl
  obtain ⟨hx, hb, hml, hown, hts⟩ := id S
  have hl : lv_has ls 2 [(0, .ref (w.2.2 0)), (1, .int x1)] := hl
  unfold f7_isTrain at h0
  refine lv_iload_n hx hb d7_isTrain_0 rfl (lv_at hl 1 rfl) ?_
  refine lv_i2l hx hb d7_isTrain_1 rfl ?_
  refine lv_lconst (v := 0) hx hb d7_isTrain_2 (by decide) ?_
  refine lv_aload_n hx hb d7_isTrain_3 rfl (lv_at hl 0 rfl) ?_
  refine g7_13 S hK hR d7_isTrain_4 ?_
  refine lv_iconst (v := 0) hx hb d7_isTrain_7 (by decide) ?_
  refine q_ld (k := 0) S hK hR (by decide) (eM_102 w _) (vin (by decide)) (by decide) d7_isTrain_8 ?_
  refine lv_iconst (v := 1) hx hb d7_isTrain_9 (by decide) ?_
  refine lv_isub hx hb d7_isTrain_10 ?_
  refine lv_i2l hx hb d7_isTrain_11 rfl ?_
  obtain ⟨r1, hr1, h0⟩ := og_b h0
  refine k7_113 S  hr1 ⟨Nat.zero_le _, Nat.zero_le _⟩ ⟨Nat.le_of_ble_eq_true rfl, Nat.le_of_ble_eq_true rfl⟩ hl.1 (Nat.le_of_ble_eq_true rfl) d7_isTrain_12 ?_
  obtain ⟨hb0, h0⟩ := og_if h0
  exact q_zpure S hr hlk hb0 h0 d7_isTrain_15
set_option maxHeartbeats 4000000 in
set_option maxRecDepth 100000 in
theorem k7_173 {p : Program} {l : Launch} {e : Env} {R : Room} {s : State} {m : MethodId} {args : Array Value} {below : List Frame} {meth : Method} {c : Code} {H : Heap} {locs : List Loc} {cells slots : Nat} {Q : State → Prop} {cc : ByteArray} {pc nL : Nat} {ls : Array Slot} {rest : List Value} {w : WV} {σ : Mem} {x1 : Int32} {r : Int32} (S : CallFix p m c cc nL s args gtbl RX7) (hK : KS LM w s) (hR : Rp EM LM w σ H) (h0 : f7_isTrain σ x1 = some r) (hf : cells + 0 ≤ R.cells ∧ slots + 0 ≤ R.slots) (hRm : rm7_isTrain.frames + 1 ≤ R.frames ∧ 8 + (2 + 11) + rm7_isTrain.locals ≤ R.locals) (hl : ls.size = nL) (hW : (rest.map fun v => v.category).sum ≤ 8) (hdg : decode cc pc = .ok (.invokevirtual 173, 3)) (kk : W p l e R s m args below meth c H locs cells slots Q (F0 m (pc + 3) ls (.int r :: rest))) : W p l e R s m args below meth c H locs cells slots Q (F0 m pc ls (.int x1 :: .ref (w.2.2 0) :: rest)) := r_endp (run_V (n := 1) (As := [.int x1]) S hK hR (by decide) (eM_7 w _) rfl (gw_V (gt_at 1082 (by decide +kernel) (by decide +kernel)) (gt_at 1084 (by decide +kernel) (by decide +kernel)) (gt_at 50 (by decide +kernel) (by decide +kernel)) (gt_at 86 (by decide +kernel) (by decide +kernel)) (gt_at 1085 (by decide +kernel) (by decide +kernel))) (by decide +kernel) rfl (c7_isTrain l h0) ⟨rfl, rfl⟩ hRm hf hl rfl hW hdg) kk
/-! FourTenGatesModel.isUser(I)Z -/
abbrev rm7_isUser : Room := { frames := 1, cells := 0, slots := 0, locals := 25 }
theorem d7_isUser_0 : decode cX7_isUser 0 = .ok (.iload_n 1, 1) := by decide +kernel
theorem d7_isUser_1 : decode cX7_isUser 1 = .ok (.i2l, 1) := by decide +kernel
theorem d7_isUser_2 : decode cX7_isUser 2 = .ok (.lconst 0, 1) := by decide +kernel
theorem d7_isUser_3 : decode cX7_isUser 3 = .ok (.aload_n 0, 1) := by decide +kernel
theorem d7_isUser_4 : decode cX7_isUser 4 = .ok (.getfield 22, 3) := by decide +kernel
theorem d7_isUser_7 : decode cX7_isUser 7 = .ok (.iconst 0, 1) := by decide +kernel
theorem d7_isUser_8 : decode cX7_isUser 8 = .ok (.iaload, 1) := by decide +kernel
theorem d7_isUser_9 : decode cX7_isUser 9 = .ok (.iconst 1, 1) := by decide +kernel
theorem d7_isUser_10 : decode cX7_isUser 10 = .ok (.isub, 1) := by decide +kernel
theorem d7_isUser_11 : decode cX7_isUser 11 = .ok (.i2l, 1) := by decide +kernel
theorem d7_isUser_12 : decode cX7_isUser 12 = .ok (.invokestatic 113, 3) := by decide +kernel
theorem d7_isUser_15 : decode cX7_isUser 15 = .ok (.ireturn, 1) := by decide +kernel
def f7_isUser (σ : Mem) (x1 : Int32) : Option Int32 := Option.bind (f7_in x1.toInt64 (0 : Int64) (((σ 6 0) - 1).toInt64)) fun r1 => if r1 = 0 ∨ r1 = 1 then some r1 else none
set_option maxHeartbeats 4000000 in
set_option maxRecDepth 100000 in
theorem c7_isUser (l : Launch) {w : WV} {σ : Mem} {x1 : Int32} {r : Int32} (h0 : f7_isUser σ x1 = some r) : Met l yX7_isUser (wy yX7_isUser cX7_isUser 2 (some .boolean)) rm7_isUser (Pw EM LM w [.ref (w.2.2 0), .int x1] σ) (Qp (.int r)) 0 0 (fun _ => False) := by
  refine mk_met (by decide) (Nat.le_of_ble_eq_true rfl) ?_
  intro p e s m below meth c S hr hlk hK hR ls hl
  obtain ⟨hx, hb, hml, hown, hts⟩ := id S
  have hl : lv_has ls 2 [(0, .ref (w.2.2 0)), (1, .int x1)] := hl
  unfold f7_isUser at h0
  refine lv_iload_n hx hb d7_isUser_0 rfl (lv_at hl 1 rfl) ?_
  refine lv_i2l hx hb d7_isUser_1 rfl ?_
  refine lv_lconst (v := 0) hx hb d7_isUser_2 (by decide) ?_
  refine lv_aload_n hx hb d7_isUser_3 rfl (lv_at hl 0 rfl) ?_
  refine g7_22 S hK hR d7_isUser_4 ?_
  refine lv_iconst (v := 0) hx hb d7_isUser_7 (by decide) ?_
  refine q_ld (k := 0) S hK hR (by decide) (eM_105 w _) (vin (by decide)) (by decide) d7_isUser_8 ?_
  refine lv_iconst (v := 1) hx hb d7_isUser_9 (by decide) ?_
  refine lv_isub hx hb d7_isUser_10 ?_
  refine lv_i2l hx hb d7_isUser_11 rfl ?_
  obtain ⟨r1, hr1, h0⟩ := og_b h0
  refine k7_113 S  hr1 ⟨Nat.zero_le _, Nat.zero_le _⟩ ⟨Nat.le_of_ble_eq_true rfl, Nat.le_of_ble_eq_true rfl⟩ hl.1 (Nat.le_of_ble_eq_true rfl) d7_isUser_12 ?_
  obtain ⟨hb0, h0⟩ := og_if h0
  exact q_zpure S hr hlk hb0 h0 d7_isUser_15
set_option maxHeartbeats 4000000 in
set_option maxRecDepth 100000 in
theorem k7_179 {p : Program} {l : Launch} {e : Env} {R : Room} {s : State} {m : MethodId} {args : Array Value} {below : List Frame} {meth : Method} {c : Code} {H : Heap} {locs : List Loc} {cells slots : Nat} {Q : State → Prop} {cc : ByteArray} {pc nL : Nat} {ls : Array Slot} {rest : List Value} {w : WV} {σ : Mem} {x1 : Int32} {r : Int32} (S : CallFix p m c cc nL s args gtbl RX7) (hK : KS LM w s) (hR : Rp EM LM w σ H) (h0 : f7_isUser σ x1 = some r) (hf : cells + 0 ≤ R.cells ∧ slots + 0 ≤ R.slots) (hRm : rm7_isUser.frames + 1 ≤ R.frames ∧ 8 + (2 + 11) + rm7_isUser.locals ≤ R.locals) (hl : ls.size = nL) (hW : (rest.map fun v => v.category).sum ≤ 8) (hdg : decode cc pc = .ok (.invokevirtual 179, 3)) (kk : W p l e R s m args below meth c H locs cells slots Q (F0 m (pc + 3) ls (.int r :: rest))) : W p l e R s m args below meth c H locs cells slots Q (F0 m pc ls (.int x1 :: .ref (w.2.2 0) :: rest)) := r_endp (run_V (n := 1) (As := [.int x1]) S hK hR (by decide) (eM_7 w _) rfl (gw_V (gt_at 1099 (by decide +kernel) (by decide +kernel)) (gt_at 1101 (by decide +kernel) (by decide +kernel)) (gt_at 53 (by decide +kernel) (by decide +kernel)) (gt_at 86 (by decide +kernel) (by decide +kernel)) (gt_at 1102 (by decide +kernel) (by decide +kernel))) (by decide +kernel) rfl (c7_isUser l h0) ⟨rfl, rfl⟩ hRm hf hl rfl hW hdg) kk
/-! FourTenGatesModel.isRule(I)Z -/
abbrev rm7_isRule : Room := { frames := 1, cells := 0, slots := 0, locals := 25 }
theorem d7_isRule_0 : decode cX7_isRule 0 = .ok (.iload_n 0, 1) := by decide +kernel
theorem d7_isRule_1 : decode cX7_isRule 1 = .ok (.i2l, 1) := by decide +kernel
theorem d7_isRule_2 : decode cX7_isRule 2 = .ok (.lconst 0, 1) := by decide +kernel
theorem d7_isRule_3 : decode cX7_isRule 3 = .ok (.ldc2_w 168, 3) := by decide +kernel
theorem d7_isRule_6 : decode cX7_isRule 6 = .ok (.invokestatic 113, 3) := by decide +kernel
theorem d7_isRule_9 : decode cX7_isRule 9 = .ok (.ireturn, 1) := by decide +kernel
def f7_isRule (x0 : Int32) : Option Int32 := Option.bind (f7_in x0.toInt64 (0 : Int64) (3 : Int64)) fun r1 => if r1 = 0 ∨ r1 = 1 then some r1 else none
set_option maxHeartbeats 4000000 in
set_option maxRecDepth 100000 in
theorem c7_isRule (l : Launch) {x0 : Int32} {r : Int32} (h0 : f7_isRule x0 = some r) : Met l yX7_isRule (wy yX7_isRule cX7_isRule 1 (some .boolean)) rm7_isRule (Ps [.int x0]) (Qp (.int r)) 0 0 (fun _ => False) := by
  refine mk_mets (by decide) (Nat.le_of_ble_eq_true rfl) ?_
  intro p e s m below meth c S hr hlk ls hl
  obtain ⟨hx, hb, hml, hown, hts⟩ := id S
  have hl : lv_has ls 1 [(0, .int x0)] := hl
  unfold f7_isRule at h0
  refine lv_iload_n hx hb d7_isRule_0 rfl (lv_at hl 0 rfl) ?_
  refine lv_i2l hx hb d7_isRule_1 rfl ?_
  refine lv_lconst (v := 0) hx hb d7_isRule_2 (by decide) ?_
  refine lv_ldc2 (v := 3) hx hb hown (hts _ (gt_at 1086 (by decide +kernel) (by decide +kernel))) d7_isRule_3 ?_
  obtain ⟨r1, hr1, h0⟩ := og_b h0
  refine k7_113 S  hr1 ⟨Nat.zero_le _, Nat.zero_le _⟩ ⟨Nat.le_of_ble_eq_true rfl, Nat.le_of_ble_eq_true rfl⟩ hl.1 (Nat.le_of_ble_eq_true rfl) d7_isRule_6 ?_
  obtain ⟨hb0, h0⟩ := og_if h0
  exact q_zpure S hr hlk hb0 h0 d7_isRule_9
set_option maxHeartbeats 4000000 in
set_option maxRecDepth 100000 in
theorem k7_252 {p : Program} {l : Launch} {e : Env} {R : Room} {s : State} {m : MethodId} {args : Array Value} {below : List Frame} {meth : Method} {c : Code} {H : Heap} {locs : List Loc} {cells slots : Nat} {Q : State → Prop} {cc : ByteArray} {pc nL : Nat} {ls : Array Slot} {rest : List Value} {x0 : Int32} {r : Int32} (S : CallFix p m c cc nL s args gtbl RX7) (h0 : f7_isRule x0 = some r) (hf : cells + 0 ≤ R.cells ∧ slots + 0 ≤ R.slots) (hRm : rm7_isRule.frames + 1 ≤ R.frames ∧ 8 + (1 + 11) + rm7_isRule.locals ≤ R.locals) (hl : ls.size = nL) (hW : (rest.map fun v => v.category).sum ≤ 8) (hdg : decode cc pc = .ok (.invokestatic 252, 3)) (kk : W p l e R s m args below meth c H locs cells slots Q (F0 m (pc + 3) ls (.int r :: rest))) : W p l e R s m args below meth c H locs cells slots Q (F0 m pc ls (.int x0 :: rest)) := r_endp (run_S (n := 1) (As := [.int x0]) S (gw_S (gt_at 1107 (by decide +kernel) (by decide +kernel)) (gt_at 1108 (by decide +kernel) (by decide +kernel)) (gt_at 86 (by decide +kernel) (by decide +kernel)) (gt_at 1109 (by decide +kernel) (by decide +kernel))) (by decide +kernel) rfl (c7_isRule l h0) ⟨rfl, rfl⟩ hRm hf hl rfl hW hdg) kk
/-! FourTenGatesModel.comesAt(I)I -/
abbrev rm7_comesAt : Room := { frames := 0, cells := 0, slots := 0, locals := 0 }
theorem d7_comesAt_0 : decode cX7_comesAt 0 = .ok (.bipush 6, 2) := by decide +kernel
theorem d7_comesAt_2 : decode cX7_comesAt 2 = .ok (.aload_n 0, 1) := by decide +kernel
theorem d7_comesAt_3 : decode cX7_comesAt 3 = .ok (.getfield 16, 3) := by decide +kernel
theorem d7_comesAt_6 : decode cX7_comesAt 6 = .ok (.iload_n 1, 1) := by decide +kernel
theorem d7_comesAt_7 : decode cX7_comesAt 7 = .ok (.iaload, 1) := by decide +kernel
theorem d7_comesAt_8 : decode cX7_comesAt 8 = .ok (.aload_n 0, 1) := by decide +kernel
theorem d7_comesAt_9 : decode cX7_comesAt 9 = .ok (.getfield 55, 3) := by decide +kernel
theorem d7_comesAt_12 : decode cX7_comesAt 12 = .ok (.iload_n 1, 1) := by decide +kernel
theorem d7_comesAt_13 : decode cX7_comesAt 13 = .ok (.iaload, 1) := by decide +kernel
theorem d7_comesAt_14 : decode cX7_comesAt 14 = .ok (.iadd, 1) := by decide +kernel
theorem d7_comesAt_15 : decode cX7_comesAt 15 = .ok (.imul, 1) := by decide +kernel
theorem d7_comesAt_16 : decode cX7_comesAt 16 = .ok (.ireturn, 1) := by decide +kernel
def f7_comesAt (σ : Mem) (x1 : Int32) : Option Int32 := if ¬ (x1 < 0 ∨ 12 ≤ x1.toNatClampNeg) then if ¬ (x1 < 0 ∨ 19 ≤ x1.toNatClampNeg) then some (6 * ((σ 4 x1.toNatClampNeg) + (σ 17 x1.toNatClampNeg))) else none else none
set_option maxHeartbeats 4000000 in
set_option maxRecDepth 100000 in
theorem c7_comesAt (l : Launch) {w : WV} {σ : Mem} {x1 : Int32} {r : Int32} (h0 : f7_comesAt σ x1 = some r) : Met l yX7_comesAt (wy yX7_comesAt cX7_comesAt 2 (some .int)) rm7_comesAt (Pw EM LM w [.ref (w.2.2 0), .int x1] σ) (Qp (.int r)) 0 0 (fun _ => False) := by
  refine mk_met (by decide) (Nat.le_of_ble_eq_true rfl) ?_
  intro p e s m below meth c S hr hlk hK hR ls hl
  obtain ⟨hx, hb, hml, hown, hts⟩ := id S
  have hl : lv_has ls 2 [(0, .ref (w.2.2 0)), (1, .int x1)] := hl
  unfold f7_comesAt at h0
  refine lv_bipush (v := 6) hx hb d7_comesAt_0 (by decide) ?_
  refine lv_aload_n hx hb d7_comesAt_2 rfl (lv_at hl 0 rfl) ?_
  refine g7_16 S hK hR d7_comesAt_3 ?_
  refine lv_iload_n hx hb d7_comesAt_6 rfl (lv_at hl 1 rfl) ?_
  obtain ⟨hi1, h0⟩ := og_if h0
  refine q_ld (k := x1.toNatClampNeg) S hK hR (by decide) (eM_103 w _) hi1 rfl d7_comesAt_7 ?_
  refine lv_aload_n hx hb d7_comesAt_8 rfl (lv_at hl 0 rfl) ?_
  refine g7_55 S hK hR d7_comesAt_9 ?_
  refine lv_iload_n hx hb d7_comesAt_12 rfl (lv_at hl 1 rfl) ?_
  obtain ⟨hi2, h0⟩ := og_if h0
  refine q_ld (k := x1.toNatClampNeg) S hK hR (by decide) (eM_116 w _) hi2 rfl d7_comesAt_13 ?_
  refine lv_iadd hx hb d7_comesAt_14 ?_
  refine lv_imul hx hb d7_comesAt_15 ?_
  exact q_ipure S hr hlk h0 d7_comesAt_16
set_option maxHeartbeats 4000000 in
set_option maxRecDepth 100000 in
theorem k7_170 {p : Program} {l : Launch} {e : Env} {R : Room} {s : State} {m : MethodId} {args : Array Value} {below : List Frame} {meth : Method} {c : Code} {H : Heap} {locs : List Loc} {cells slots : Nat} {Q : State → Prop} {cc : ByteArray} {pc nL : Nat} {ls : Array Slot} {rest : List Value} {w : WV} {σ : Mem} {x1 : Int32} {r : Int32} (S : CallFix p m c cc nL s args gtbl RX7) (hK : KS LM w s) (hR : Rp EM LM w σ H) (h0 : f7_comesAt σ x1 = some r) (hf : cells + 0 ≤ R.cells ∧ slots + 0 ≤ R.slots) (hRm : rm7_comesAt.frames + 1 ≤ R.frames ∧ 8 + (2 + 11) + rm7_comesAt.locals ≤ R.locals) (hl : ls.size = nL) (hW : (rest.map fun v => v.category).sum ≤ 8) (hdg : decode cc pc = .ok (.invokevirtual 170, 3)) (kk : W p l e R s m args below meth c H locs cells slots Q (F0 m (pc + 3) ls (.int r :: rest))) : W p l e R s m args below meth c H locs cells slots Q (F0 m pc ls (.int x1 :: .ref (w.2.2 0) :: rest)) := r_endp (run_V (n := 1) (As := [.int x1]) S hK hR (by decide) (eM_7 w _) rfl (gw_V (gt_at 1091 (by decide +kernel) (by decide +kernel)) (gt_at 1093 (by decide +kernel) (by decide +kernel)) (gt_at 52 (by decide +kernel) (by decide +kernel)) (gt_at 86 (by decide +kernel) (by decide +kernel)) (gt_at 1094 (by decide +kernel) (by decide +kernel))) (by decide +kernel) rfl (c7_comesAt l h0) ⟨rfl, rfl⟩ hRm hf hl rfl hW hdg) kk
/-! FourTenGatesModel.bellOf(I)I -/
abbrev rm7_bellOf : Room := { frames := 1, cells := 0, slots := 0, locals := 21 }
theorem d7_bellOf_0 : decode cX7_bellOf 0 = .ok (.aload_n 0, 1) := by decide +kernel
theorem d7_bellOf_1 : decode cX7_bellOf 1 = .ok (.getfield 19, 3) := by decide +kernel
theorem d7_bellOf_4 : decode cX7_bellOf 4 = .ok (.iload_n 1, 1) := by decide +kernel
theorem d7_bellOf_5 : decode cX7_bellOf 5 = .ok (.iaload, 1) := by decide +kernel
theorem d7_bellOf_6 : decode cX7_bellOf 6 = .ok (.ifCond .ne 8, 3) := by decide +kernel
theorem d7_bellOf_9 : decode cX7_bellOf 9 = .ok (.bipush 66, 2) := by decide +kernel
theorem d7_bellOf_11 : decode cX7_bellOf 11 = .ok (.goto 5, 3) := by decide +kernel
theorem d7_bellOf_14 : decode cX7_bellOf 14 = .ok (.bipush 36, 2) := by decide +kernel
theorem d7_bellOf_16 : decode cX7_bellOf 16 = .ok (.istore_n 2, 1) := by decide +kernel
theorem d7_bellOf_17 : decode cX7_bellOf 17 = .ok (.aload_n 0, 1) := by decide +kernel
theorem d7_bellOf_18 : decode cX7_bellOf 18 = .ok (.iload_n 1, 1) := by decide +kernel
theorem d7_bellOf_19 : decode cX7_bellOf 19 = .ok (.invokevirtual 170, 3) := by decide +kernel
theorem d7_bellOf_22 : decode cX7_bellOf 22 = .ok (.iload_n 2, 1) := by decide +kernel
theorem d7_bellOf_23 : decode cX7_bellOf 23 = .ok (.isub, 1) := by decide +kernel
theorem d7_bellOf_24 : decode cX7_bellOf 24 = .ok (.istore_n 3, 1) := by decide +kernel
theorem d7_bellOf_25 : decode cX7_bellOf 25 = .ok (.aload_n 0, 1) := by decide +kernel
theorem d7_bellOf_26 : decode cX7_bellOf 26 = .ok (.getfield 19, 3) := by decide +kernel
theorem d7_bellOf_29 : decode cX7_bellOf 29 = .ok (.iload_n 1, 1) := by decide +kernel
theorem d7_bellOf_30 : decode cX7_bellOf 30 = .ok (.iaload, 1) := by decide +kernel
theorem d7_bellOf_31 : decode cX7_bellOf 31 = .ok (.iconst 2, 1) := by decide +kernel
theorem d7_bellOf_32 : decode cX7_bellOf 32 = .ok (.if_icmp .ne 9, 3) := by decide +kernel
theorem d7_bellOf_35 : decode cX7_bellOf 35 = .ok (.sipush 360, 3) := by decide +kernel
theorem d7_bellOf_38 : decode cX7_bellOf 38 = .ok (.goto 12, 3) := by decide +kernel
theorem d7_bellOf_41 : decode cX7_bellOf 41 = .ok (.iload_n 3, 1) := by decide +kernel
theorem d7_bellOf_42 : decode cX7_bellOf 42 = .ok (.ifCond .ge 7, 3) := by decide +kernel
theorem d7_bellOf_45 : decode cX7_bellOf 45 = .ok (.iconst 0, 1) := by decide +kernel
theorem d7_bellOf_46 : decode cX7_bellOf 46 = .ok (.goto 4, 3) := by decide +kernel
theorem d7_bellOf_49 : decode cX7_bellOf 49 = .ok (.iload_n 3, 1) := by decide +kernel
theorem d7_bellOf_50 : decode cX7_bellOf 50 = .ok (.ireturn, 1) := by decide +kernel
def f7_bellOf_b16 (σ : Mem) (x1 : Int32) (s0 : Int32) : Option Int32 := Option.bind (f7_comesAt σ x1) fun r1 => if ¬ (x1 < 0 ∨ 12 ≤ x1.toNatClampNeg) then if (σ 5 x1.toNatClampNeg) = 2 then some 360 else if 0 ≤ (r1 - s0) then some (r1 - s0) else some 0 else none
set_option maxHeartbeats 4000000 in
set_option maxRecDepth 100000 in
theorem t7_bellOf_b16 {p : Program} {l : Launch} {e : Env} {s : State} {m : MethodId} {args : Array Value} {below : List Frame} {meth : Method} {c : Code} {w : WV} {σ : Mem} {r : Int32} (S : CallFix p m c cX7_bellOf 4 s args gtbl RX7) (hr : meth.sig.returnType = (some .int)) (hlk : meth.locks = false) (hK : KS LM w s) (hR : Rp EM LM w σ s.heap) : ∀ (x1 : Int32) (s0 : Int32), f7_bellOf_b16 σ x1 s0 = some r → ∀ (ls : Array Slot), lv_has ls 4 [(0, .ref (w.2.2 0)), (1, .int x1)] → W p l e rm7_bellOf s m args below meth c s.heap [] 0 0 (MQ below (Qp (.int r)) args s 0 0 (fun _ => False)) (F0 m 16 ls [.int s0]) := by
  obtain ⟨hx, hb, hml, hown, hts⟩ := id S
  intro x1 s0 h0 ls hl
  unfold f7_bellOf_b16 at h0
  refine lv_istore_n (lv' := [(2, .int s0), (0, .ref (w.2.2 0)), (1, .int x1)]) hx hb d7_bellOf_16 rfl hl (by decide) rfl (fun ls hl => ?_)
  refine lv_aload_n hx hb d7_bellOf_17 rfl (lv_at hl 1 rfl) ?_
  refine lv_iload_n hx hb d7_bellOf_18 rfl (lv_at hl 2 rfl) ?_
  obtain ⟨r1, hr1, h0⟩ := og_b h0
  refine k7_170 S hK hR  hr1 ⟨Nat.zero_le _, Nat.zero_le _⟩ ⟨Nat.le_of_ble_eq_true rfl, Nat.le_of_ble_eq_true rfl⟩ hl.1 (Nat.le_of_ble_eq_true rfl) d7_bellOf_19 ?_
  refine lv_iload_n hx hb d7_bellOf_22 rfl (lv_at hl 0 rfl) ?_
  refine lv_isub hx hb d7_bellOf_23 ?_
  refine lv_istore_n (lv' := [(3, .int (r1 - s0)), (2, .int s0), (0, .ref (w.2.2 0)), (1, .int x1)]) hx hb d7_bellOf_24 rfl hl (by decide) rfl (fun ls hl => ?_)
  refine lv_aload_n hx hb d7_bellOf_25 rfl (lv_at hl 2 rfl) ?_
  refine g7_19 S hK hR d7_bellOf_26 ?_
  refine lv_iload_n hx hb d7_bellOf_29 rfl (lv_at hl 3 rfl) ?_
  obtain ⟨hi2, h0⟩ := og_if h0
  refine q_ld (k := x1.toNatClampNeg) S hK hR (by decide) (eM_104 w _) hi2 rfl d7_bellOf_30 ?_
  refine lv_iconst (v := 2) hx hb d7_bellOf_31 (by decide) ?_
  refine lv_icmp_ne (tgt := 41) hx hb d7_bellOf_32 (by decide) (fun hc3 => ?_) (fun hc3 => ?_)
  · have h0 := og_f hc3 h0
    refine lv_iload_n hx hb d7_bellOf_41 rfl (lv_at hl 0 rfl) ?_
    refine lv_if_ge (tgt := 49) hx hb d7_bellOf_42 (by decide) (fun hc4 => ?_) (fun hc4 => ?_)
    · have h0 := og_t hc4 h0
      refine lv_iload_n hx hb d7_bellOf_49 rfl (lv_at hl 0 rfl) ?_
      exact q_ipure S hr hlk h0 d7_bellOf_50
    · have h0 := og_f hc4 h0
      refine lv_iconst (v := 0) hx hb d7_bellOf_45 (by decide) ?_
      refine lv_goto (tgt := 50) hx hb d7_bellOf_46 (by decide) ?_
      exact q_ipure S hr hlk h0 d7_bellOf_50
  · have h0 := og_t hc3 h0
    refine lv_sipush (v := 360) hx hb d7_bellOf_35 (by decide) ?_
    refine lv_goto (tgt := 50) hx hb d7_bellOf_38 (by decide) ?_
    exact q_ipure S hr hlk h0 d7_bellOf_50
def f7_bellOf (σ : Mem) (x1 : Int32) : Option Int32 := if ¬ (x1 < 0 ∨ 12 ≤ x1.toNatClampNeg) then if (σ 5 x1.toNatClampNeg) = 0 then f7_bellOf_b16 σ x1 66 else f7_bellOf_b16 σ x1 36 else none
set_option maxHeartbeats 4000000 in
set_option maxRecDepth 100000 in
theorem c7_bellOf (l : Launch) {w : WV} {σ : Mem} {x1 : Int32} {r : Int32} (h0 : f7_bellOf σ x1 = some r) : Met l yX7_bellOf (wy yX7_bellOf cX7_bellOf 4 (some .int)) rm7_bellOf (Pw EM LM w [.ref (w.2.2 0), .int x1] σ) (Qp (.int r)) 0 0 (fun _ => False) := by
  refine mk_met (by decide) (Nat.le_of_ble_eq_true rfl) ?_
  intro p e s m below meth c S hr hlk hK hR ls hl
  obtain ⟨hx, hb, hml, hown, hts⟩ := id S
  have hl : lv_has ls 4 [(0, .ref (w.2.2 0)), (1, .int x1)] := hl
  unfold f7_bellOf at h0
  refine lv_aload_n hx hb d7_bellOf_0 rfl (lv_at hl 0 rfl) ?_
  refine g7_19 S hK hR d7_bellOf_1 ?_
  refine lv_iload_n hx hb d7_bellOf_4 rfl (lv_at hl 1 rfl) ?_
  obtain ⟨hi1, h0⟩ := og_if h0
  refine q_ld (k := x1.toNatClampNeg) S hK hR (by decide) (eM_104 w _) hi1 rfl d7_bellOf_5 ?_
  refine lv_if_ne (tgt := 14) hx hb d7_bellOf_6 (by decide) (fun hc2 => ?_) (fun hc2 => ?_)
  · have h0 := og_f hc2 h0
    refine lv_bipush (v := 36) hx hb d7_bellOf_14 (by decide) ?_
    exact t7_bellOf_b16 S hr hlk hK hR x1 36 h0 _ (lv_sub hl [0, 1] rfl)
  · have h0 := og_t hc2 h0
    refine lv_bipush (v := 66) hx hb d7_bellOf_9 (by decide) ?_
    refine lv_goto (tgt := 16) hx hb d7_bellOf_11 (by decide) ?_
    exact t7_bellOf_b16 S hr hlk hK hR x1 66 h0 _ (lv_sub hl [0, 1] rfl)
set_option maxHeartbeats 4000000 in
set_option maxRecDepth 100000 in
theorem k7_176 {p : Program} {l : Launch} {e : Env} {R : Room} {s : State} {m : MethodId} {args : Array Value} {below : List Frame} {meth : Method} {c : Code} {H : Heap} {locs : List Loc} {cells slots : Nat} {Q : State → Prop} {cc : ByteArray} {pc nL : Nat} {ls : Array Slot} {rest : List Value} {w : WV} {σ : Mem} {x1 : Int32} {r : Int32} (S : CallFix p m c cc nL s args gtbl RX7) (hK : KS LM w s) (hR : Rp EM LM w σ H) (h0 : f7_bellOf σ x1 = some r) (hf : cells + 0 ≤ R.cells ∧ slots + 0 ≤ R.slots) (hRm : rm7_bellOf.frames + 1 ≤ R.frames ∧ 8 + (4 + 11) + rm7_bellOf.locals ≤ R.locals) (hl : ls.size = nL) (hW : (rest.map fun v => v.category).sum ≤ 8) (hdg : decode cc pc = .ok (.invokevirtual 176, 3)) (kk : W p l e R s m args below meth c H locs cells slots Q (F0 m (pc + 3) ls (.int r :: rest))) : W p l e R s m args below meth c H locs cells slots Q (F0 m pc ls (.int x1 :: .ref (w.2.2 0) :: rest)) := r_endp (run_V (n := 1) (As := [.int x1]) S hK hR (by decide) (eM_7 w _) rfl (gw_V (gt_at 1087 (by decide +kernel) (by decide +kernel)) (gt_at 1089 (by decide +kernel) (by decide +kernel)) (gt_at 51 (by decide +kernel) (by decide +kernel)) (gt_at 86 (by decide +kernel) (by decide +kernel)) (gt_at 1090 (by decide +kernel) (by decide +kernel))) (by decide +kernel) rfl (c7_bellOf l h0) ⟨rfl, rfl⟩ hRm hf hl rfl hW hdg) kk
/-! FourTenGatesModel.train(II)I -/
abbrev rm7_train : Room := { frames := 2, cells := 0, slots := 0, locals := 46 }
theorem d7_train_0 : decode cX7_train 0 = .ok (.aload_n 0, 1) := by decide +kernel
theorem d7_train_1 : decode cX7_train 1 = .ok (.iload_n 1, 1) := by decide +kernel
theorem d7_train_2 : decode cX7_train 2 = .ok (.invokevirtual 173, 3) := by decide +kernel
theorem d7_train_5 : decode cX7_train 5 = .ok (.ifCond .eq 15, 3) := by decide +kernel
theorem d7_train_8 : decode cX7_train 8 = .ok (.iload_n 2, 1) := by decide +kernel
theorem d7_train_9 : decode cX7_train 9 = .ok (.i2l, 1) := by decide +kernel
theorem d7_train_10 : decode cX7_train 10 = .ok (.lconst 0, 1) := by decide +kernel
theorem d7_train_11 : decode cX7_train 11 = .ok (.ldc2_w 168, 3) := by decide +kernel
theorem d7_train_14 : decode cX7_train 14 = .ok (.invokestatic 113, 3) := by decide +kernel
theorem d7_train_17 : decode cX7_train 17 = .ok (.ifCond .ne 5, 3) := by decide +kernel
theorem d7_train_20 : decode cX7_train 20 = .ok (.iconst (-1), 1) := by decide +kernel
theorem d7_train_21 : decode cX7_train 21 = .ok (.ireturn, 1) := by decide +kernel
theorem d7_train_22 : decode cX7_train 22 = .ok (.aload_n 0, 1) := by decide +kernel
theorem d7_train_23 : decode cX7_train 23 = .ok (.iload_n 1, 1) := by decide +kernel
theorem d7_train_24 : decode cX7_train 24 = .ok (.invokevirtual 176, 3) := by decide +kernel
theorem d7_train_27 : decode cX7_train 27 = .ok (.istore_n 3, 1) := by decide +kernel
theorem d7_train_28 : decode cX7_train 28 = .ok (.iload_n 2, 1) := by decide +kernel
theorem d7_train_29 : decode cX7_train 29 = .ok (.ifCond .ne 12, 3) := by decide +kernel
theorem d7_train_32 : decode cX7_train 32 = .ok (.aload_n 0, 1) := by decide +kernel
theorem d7_train_33 : decode cX7_train 33 = .ok (.getfield 16, 3) := by decide +kernel
theorem d7_train_36 : decode cX7_train 36 = .ok (.iload_n 1, 1) := by decide +kernel
theorem d7_train_37 : decode cX7_train 37 = .ok (.iaload, 1) := by decide +kernel
theorem d7_train_38 : decode cX7_train 38 = .ok (.goto 44, 3) := by decide +kernel
theorem d7_train_41 : decode cX7_train 41 = .ok (.iload_n 2, 1) := by decide +kernel
theorem d7_train_42 : decode cX7_train 42 = .ok (.iconst 1, 1) := by decide +kernel
theorem d7_train_43 : decode cX7_train 43 = .ok (.if_icmp .ne 12, 3) := by decide +kernel
theorem d7_train_46 : decode cX7_train 46 = .ok (.aload_n 0, 1) := by decide +kernel
theorem d7_train_47 : decode cX7_train 47 = .ok (.getfield 19, 3) := by decide +kernel
theorem d7_train_50 : decode cX7_train 50 = .ok (.iload_n 1, 1) := by decide +kernel
theorem d7_train_51 : decode cX7_train 51 = .ok (.iaload, 1) := by decide +kernel
theorem d7_train_52 : decode cX7_train 52 = .ok (.goto 30, 3) := by decide +kernel
theorem d7_train_55 : decode cX7_train 55 = .ok (.iload_n 2, 1) := by decide +kernel
theorem d7_train_56 : decode cX7_train 56 = .ok (.iconst 2, 1) := by decide +kernel
theorem d7_train_57 : decode cX7_train 57 = .ok (.if_icmp .ne 12, 3) := by decide +kernel
theorem d7_train_60 : decode cX7_train 60 = .ok (.aload_n 0, 1) := by decide +kernel
theorem d7_train_61 : decode cX7_train 61 = .ok (.getfield 55, 3) := by decide +kernel
theorem d7_train_64 : decode cX7_train 64 = .ok (.iload_n 1, 1) := by decide +kernel
theorem d7_train_65 : decode cX7_train 65 = .ok (.iaload, 1) := by decide +kernel
theorem d7_train_66 : decode cX7_train 66 = .ok (.goto 16, 3) := by decide +kernel
theorem d7_train_69 : decode cX7_train 69 = .ok (.iload_n 3, 1) := by decide +kernel
theorem d7_train_70 : decode cX7_train 70 = .ok (.sipush 360, 3) := by decide +kernel
theorem d7_train_73 : decode cX7_train 73 = .ok (.if_icmp .ge 7, 3) := by decide +kernel
theorem d7_train_76 : decode cX7_train 76 = .ok (.iload_n 3, 1) := by decide +kernel
theorem d7_train_77 : decode cX7_train 77 = .ok (.goto 5, 3) := by decide +kernel
theorem d7_train_80 : decode cX7_train 80 = .ok (.bipush (-4), 2) := by decide +kernel
theorem d7_train_82 : decode cX7_train 82 = .ok (.ireturn, 1) := by decide +kernel
def f7_train (σ : Mem) (x1 : Int32) (x2 : Int32) : Option Int32 := Option.bind (f7_isTrain σ x1) fun r1 => if r1 = 0 then some (-1) else Option.bind (f7_in x2.toInt64 (0 : Int64) (3 : Int64)) fun r3 => if r3 = 0 then some (-1) else Option.bind (f7_bellOf σ x1) fun r5 => if x2 = 0 then if ¬ (x1 < 0 ∨ 12 ≤ x1.toNatClampNeg) then some (σ 4 x1.toNatClampNeg) else none else if x2 = 1 then if ¬ (x1 < 0 ∨ 12 ≤ x1.toNatClampNeg) then some (σ 5 x1.toNatClampNeg) else none else if x2 = 2 then if ¬ (x1 < 0 ∨ 19 ≤ x1.toNatClampNeg) then some (σ 17 x1.toNatClampNeg) else none else if 360 ≤ r5 then some (-4) else some r5
set_option maxHeartbeats 4000000 in
set_option maxRecDepth 100000 in
theorem c7_train (l : Launch) {w : WV} {σ : Mem} {x1 : Int32} {x2 : Int32} {r : Int32} (h0 : f7_train σ x1 x2 = some r) : Met l yX7_train (wy yX7_train cX7_train 4 (some .int)) rm7_train (Pw EM LM w [.ref (w.2.2 0), .int x1, .int x2] σ) (Qp (.int r)) 0 0 (fun _ => False) := by
  refine mk_met (by decide) (Nat.le_of_ble_eq_true rfl) ?_
  intro p e s m below meth c S hr hlk hK hR ls hl
  obtain ⟨hx, hb, hml, hown, hts⟩ := id S
  have hl : lv_has ls 4 [(0, .ref (w.2.2 0)), (1, .int x1), (2, .int x2)] := hl
  unfold f7_train at h0
  refine lv_aload_n hx hb d7_train_0 rfl (lv_at hl 0 rfl) ?_
  refine lv_iload_n hx hb d7_train_1 rfl (lv_at hl 1 rfl) ?_
  obtain ⟨r1, hr1, h0⟩ := og_b h0
  refine k7_173 S hK hR  hr1 ⟨Nat.zero_le _, Nat.zero_le _⟩ ⟨Nat.le_of_ble_eq_true rfl, Nat.le_of_ble_eq_true rfl⟩ hl.1 (Nat.le_of_ble_eq_true rfl) d7_train_2 ?_
  refine lv_if_eq (tgt := 20) hx hb d7_train_5 (by decide) (fun hc2 => ?_) (fun hc2 => ?_)
  · have h0 := og_t hc2 h0
    refine lv_iconst (v := (-1)) hx hb d7_train_20 (by decide) ?_
    exact q_ipure S hr hlk h0 d7_train_21
  · have h0 := og_f hc2 h0
    refine lv_iload_n hx hb d7_train_8 rfl (lv_at hl 2 rfl) ?_
    refine lv_i2l hx hb d7_train_9 rfl ?_
    refine lv_lconst (v := 0) hx hb d7_train_10 (by decide) ?_
    refine lv_ldc2 (v := 3) hx hb hown (hts _ (gt_at 1086 (by decide +kernel) (by decide +kernel))) d7_train_11 ?_
    obtain ⟨r3, hr3, h0⟩ := og_b h0
    refine k7_113 S  hr3 ⟨Nat.zero_le _, Nat.zero_le _⟩ ⟨Nat.le_of_ble_eq_true rfl, Nat.le_of_ble_eq_true rfl⟩ hl.1 (Nat.le_of_ble_eq_true rfl) d7_train_14 ?_
    refine lv_if_ne (tgt := 22) hx hb d7_train_17 (by decide) (fun hc4 => ?_) (fun hc4 => ?_)
    · have h0 := og_f hc4 h0
      refine lv_aload_n hx hb d7_train_22 rfl (lv_at hl 0 rfl) ?_
      refine lv_iload_n hx hb d7_train_23 rfl (lv_at hl 1 rfl) ?_
      obtain ⟨r5, hr5, h0⟩ := og_b h0
      refine k7_176 S hK hR  hr5 ⟨Nat.zero_le _, Nat.zero_le _⟩ ⟨Nat.le_of_ble_eq_true rfl, Nat.le_of_ble_eq_true rfl⟩ hl.1 (Nat.le_of_ble_eq_true rfl) d7_train_24 ?_
      refine lv_istore_n (lv' := [(3, .int r5), (0, .ref (w.2.2 0)), (1, .int x1), (2, .int x2)]) hx hb d7_train_27 rfl hl (by decide) rfl (fun ls hl => ?_)
      refine lv_iload_n hx hb d7_train_28 rfl (lv_at hl 3 rfl) ?_
      refine lv_if_ne (tgt := 41) hx hb d7_train_29 (by decide) (fun hc6 => ?_) (fun hc6 => ?_)
      · have h0 := og_f hc6 h0
        refine lv_iload_n hx hb d7_train_41 rfl (lv_at hl 3 rfl) ?_
        refine lv_iconst (v := 1) hx hb d7_train_42 (by decide) ?_
        refine lv_icmp_ne (tgt := 55) hx hb d7_train_43 (by decide) (fun hc7 => ?_) (fun hc7 => ?_)
        · have h0 := og_f hc7 h0
          refine lv_iload_n hx hb d7_train_55 rfl (lv_at hl 3 rfl) ?_
          refine lv_iconst (v := 2) hx hb d7_train_56 (by decide) ?_
          refine lv_icmp_ne (tgt := 69) hx hb d7_train_57 (by decide) (fun hc8 => ?_) (fun hc8 => ?_)
          · have h0 := og_f hc8 h0
            refine lv_iload_n hx hb d7_train_69 rfl (lv_at hl 0 rfl) ?_
            refine lv_sipush (v := 360) hx hb d7_train_70 (by decide) ?_
            refine lv_icmp_ge (tgt := 80) hx hb d7_train_73 (by decide) (fun hc9 => ?_) (fun hc9 => ?_)
            · have h0 := og_t hc9 h0
              refine lv_bipush (v := (-4)) hx hb d7_train_80 (by decide) ?_
              exact q_ipure S hr hlk h0 d7_train_82
            · have h0 := og_f hc9 h0
              refine lv_iload_n hx hb d7_train_76 rfl (lv_at hl 0 rfl) ?_
              refine lv_goto (tgt := 82) hx hb d7_train_77 (by decide) ?_
              exact q_ipure S hr hlk h0 d7_train_82
          · have h0 := og_t hc8 h0
            refine lv_aload_n hx hb d7_train_60 rfl (lv_at hl 1 rfl) ?_
            refine g7_55 S hK hR d7_train_61 ?_
            refine lv_iload_n hx hb d7_train_64 rfl (lv_at hl 2 rfl) ?_
            obtain ⟨hi9, h0⟩ := og_if h0
            refine q_ld (k := x1.toNatClampNeg) S hK hR (by decide) (eM_116 w _) hi9 rfl d7_train_65 ?_
            refine lv_goto (tgt := 82) hx hb d7_train_66 (by decide) ?_
            exact q_ipure S hr hlk h0 d7_train_82
        · have h0 := og_t hc7 h0
          refine lv_aload_n hx hb d7_train_46 rfl (lv_at hl 1 rfl) ?_
          refine g7_19 S hK hR d7_train_47 ?_
          refine lv_iload_n hx hb d7_train_50 rfl (lv_at hl 2 rfl) ?_
          obtain ⟨hi8, h0⟩ := og_if h0
          refine q_ld (k := x1.toNatClampNeg) S hK hR (by decide) (eM_104 w _) hi8 rfl d7_train_51 ?_
          refine lv_goto (tgt := 82) hx hb d7_train_52 (by decide) ?_
          exact q_ipure S hr hlk h0 d7_train_82
      · have h0 := og_t hc6 h0
        refine lv_aload_n hx hb d7_train_32 rfl (lv_at hl 1 rfl) ?_
        refine g7_16 S hK hR d7_train_33 ?_
        refine lv_iload_n hx hb d7_train_36 rfl (lv_at hl 2 rfl) ?_
        obtain ⟨hi7, h0⟩ := og_if h0
        refine q_ld (k := x1.toNatClampNeg) S hK hR (by decide) (eM_103 w _) hi7 rfl d7_train_37 ?_
        refine lv_goto (tgt := 82) hx hb d7_train_38 (by decide) ?_
        exact q_ipure S hr hlk h0 d7_train_82
    · have h0 := og_t hc4 h0
      refine lv_iconst (v := (-1)) hx hb d7_train_20 (by decide) ?_
      exact q_ipure S hr hlk h0 d7_train_21
/-! FourTenGatesModel.user(II)I -/
abbrev rm7_user : Room := { frames := 2, cells := 0, slots := 0, locals := 46 }
theorem d7_user_0 : decode cX7_user 0 = .ok (.aload_n 0, 1) := by decide +kernel
theorem d7_user_1 : decode cX7_user 1 = .ok (.iload_n 1, 1) := by decide +kernel
theorem d7_user_2 : decode cX7_user 2 = .ok (.invokevirtual 179, 3) := by decide +kernel
theorem d7_user_5 : decode cX7_user 5 = .ok (.ifCond .eq 13, 3) := by decide +kernel
theorem d7_user_8 : decode cX7_user 8 = .ok (.iload_n 2, 1) := by decide +kernel
theorem d7_user_9 : decode cX7_user 9 = .ok (.i2l, 1) := by decide +kernel
theorem d7_user_10 : decode cX7_user 10 = .ok (.lconst 0, 1) := by decide +kernel
theorem d7_user_11 : decode cX7_user 11 = .ok (.lconst 1, 1) := by decide +kernel
theorem d7_user_12 : decode cX7_user 12 = .ok (.invokestatic 113, 3) := by decide +kernel
theorem d7_user_15 : decode cX7_user 15 = .ok (.ifCond .ne 7, 3) := by decide +kernel
theorem d7_user_18 : decode cX7_user 18 = .ok (.iconst (-1), 1) := by decide +kernel
theorem d7_user_19 : decode cX7_user 19 = .ok (.goto 22, 3) := by decide +kernel
theorem d7_user_22 : decode cX7_user 22 = .ok (.iload_n 2, 1) := by decide +kernel
theorem d7_user_23 : decode cX7_user 23 = .ok (.ifCond .ne 12, 3) := by decide +kernel
theorem d7_user_26 : decode cX7_user 26 = .ok (.aload_n 0, 1) := by decide +kernel
theorem d7_user_27 : decode cX7_user 27 = .ok (.getfield 25, 3) := by decide +kernel
theorem d7_user_30 : decode cX7_user 30 = .ok (.iload_n 1, 1) := by decide +kernel
theorem d7_user_31 : decode cX7_user 31 = .ok (.iaload, 1) := by decide +kernel
theorem d7_user_32 : decode cX7_user 32 = .ok (.goto 9, 3) := by decide +kernel
theorem d7_user_35 : decode cX7_user 35 = .ok (.aload_n 0, 1) := by decide +kernel
theorem d7_user_36 : decode cX7_user 36 = .ok (.getfield 28, 3) := by decide +kernel
theorem d7_user_39 : decode cX7_user 39 = .ok (.iload_n 1, 1) := by decide +kernel
theorem d7_user_40 : decode cX7_user 40 = .ok (.iaload, 1) := by decide +kernel
theorem d7_user_41 : decode cX7_user 41 = .ok (.ireturn, 1) := by decide +kernel
def f7_user (σ : Mem) (x1 : Int32) (x2 : Int32) : Option Int32 := Option.bind (f7_isUser σ x1) fun r1 => if r1 = 0 then some (-1) else Option.bind (f7_in x2.toInt64 (0 : Int64) (1 : Int64)) fun r3 => if r3 = 0 then some (-1) else if x2 = 0 then if ¬ (x1 < 0 ∨ 16 ≤ x1.toNatClampNeg) then some (σ 7 x1.toNatClampNeg) else none else if ¬ (x1 < 0 ∨ 16 ≤ x1.toNatClampNeg) then some (σ 8 x1.toNatClampNeg) else none
set_option maxHeartbeats 4000000 in
set_option maxRecDepth 100000 in
theorem c7_user (l : Launch) {w : WV} {σ : Mem} {x1 : Int32} {x2 : Int32} {r : Int32} (h0 : f7_user σ x1 x2 = some r) : Met l yX7_user (wy yX7_user cX7_user 3 (some .int)) rm7_user (Pw EM LM w [.ref (w.2.2 0), .int x1, .int x2] σ) (Qp (.int r)) 0 0 (fun _ => False) := by
  refine mk_met (by decide) (Nat.le_of_ble_eq_true rfl) ?_
  intro p e s m below meth c S hr hlk hK hR ls hl
  obtain ⟨hx, hb, hml, hown, hts⟩ := id S
  have hl : lv_has ls 3 [(0, .ref (w.2.2 0)), (1, .int x1), (2, .int x2)] := hl
  unfold f7_user at h0
  refine lv_aload_n hx hb d7_user_0 rfl (lv_at hl 0 rfl) ?_
  refine lv_iload_n hx hb d7_user_1 rfl (lv_at hl 1 rfl) ?_
  obtain ⟨r1, hr1, h0⟩ := og_b h0
  refine k7_179 S hK hR  hr1 ⟨Nat.zero_le _, Nat.zero_le _⟩ ⟨Nat.le_of_ble_eq_true rfl, Nat.le_of_ble_eq_true rfl⟩ hl.1 (Nat.le_of_ble_eq_true rfl) d7_user_2 ?_
  refine lv_if_eq (tgt := 18) hx hb d7_user_5 (by decide) (fun hc2 => ?_) (fun hc2 => ?_)
  · have h0 := og_t hc2 h0
    refine lv_iconst (v := (-1)) hx hb d7_user_18 (by decide) ?_
    refine lv_goto (tgt := 41) hx hb d7_user_19 (by decide) ?_
    exact q_ipure S hr hlk h0 d7_user_41
  · have h0 := og_f hc2 h0
    refine lv_iload_n hx hb d7_user_8 rfl (lv_at hl 2 rfl) ?_
    refine lv_i2l hx hb d7_user_9 rfl ?_
    refine lv_lconst (v := 0) hx hb d7_user_10 (by decide) ?_
    refine lv_lconst (v := 1) hx hb d7_user_11 (by decide) ?_
    obtain ⟨r3, hr3, h0⟩ := og_b h0
    refine k7_113 S  hr3 ⟨Nat.zero_le _, Nat.zero_le _⟩ ⟨Nat.le_of_ble_eq_true rfl, Nat.le_of_ble_eq_true rfl⟩ hl.1 (Nat.le_of_ble_eq_true rfl) d7_user_12 ?_
    refine lv_if_ne (tgt := 22) hx hb d7_user_15 (by decide) (fun hc4 => ?_) (fun hc4 => ?_)
    · have h0 := og_f hc4 h0
      refine lv_iload_n hx hb d7_user_22 rfl (lv_at hl 2 rfl) ?_
      refine lv_if_ne (tgt := 35) hx hb d7_user_23 (by decide) (fun hc5 => ?_) (fun hc5 => ?_)
      · have h0 := og_f hc5 h0
        refine lv_aload_n hx hb d7_user_35 rfl (lv_at hl 0 rfl) ?_
        refine g7_28 S hK hR d7_user_36 ?_
        refine lv_iload_n hx hb d7_user_39 rfl (lv_at hl 1 rfl) ?_
        obtain ⟨hi6, h0⟩ := og_if h0
        refine q_ld (k := x1.toNatClampNeg) S hK hR (by decide) (eM_107 w _) hi6 rfl d7_user_40 ?_
        exact q_ipure S hr hlk h0 d7_user_41
      · have h0 := og_t hc5 h0
        refine lv_aload_n hx hb d7_user_26 rfl (lv_at hl 0 rfl) ?_
        refine g7_25 S hK hR d7_user_27 ?_
        refine lv_iload_n hx hb d7_user_30 rfl (lv_at hl 1 rfl) ?_
        obtain ⟨hi6, h0⟩ := og_if h0
        refine q_ld (k := x1.toNatClampNeg) S hK hR (by decide) (eM_106 w _) hi6 rfl d7_user_31 ?_
        refine lv_goto (tgt := 41) hx hb d7_user_32 (by decide) ?_
        exact q_ipure S hr hlk h0 d7_user_41
    · have h0 := og_t hc4 h0
      refine lv_iconst (v := (-1)) hx hb d7_user_18 (by decide) ?_
      refine lv_goto (tgt := 41) hx hb d7_user_19 (by decide) ?_
      exact q_ipure S hr hlk h0 d7_user_41
/-! FourTenGatesModel.beginHour()V -/
abbrev rm7_beginHour : Room := { frames := 0, cells := 0, slots := 0, locals := 0 }
theorem d7_beginHour_0 : decode cX7_beginHour 0 = .ok (.aload_n 0, 1) := by decide +kernel
theorem d7_beginHour_1 : decode cX7_beginHour 1 = .ok (.iconst 0, 1) := by decide +kernel
theorem d7_beginHour_2 : decode cX7_beginHour 2 = .ok (.putfield 182, 3) := by decide +kernel
theorem d7_beginHour_5 : decode cX7_beginHour 5 = .ok (.aload_n 0, 1) := by decide +kernel
theorem d7_beginHour_6 : decode cX7_beginHour 6 = .ok (.iconst 0, 1) := by decide +kernel
theorem d7_beginHour_7 : decode cX7_beginHour 7 = .ok (.putfield 185, 3) := by decide +kernel
theorem d7_beginHour_10 : decode cX7_beginHour 10 = .ok (.aload_n 0, 1) := by decide +kernel
theorem d7_beginHour_11 : decode cX7_beginHour 11 = .ok (.iconst 0, 1) := by decide +kernel
theorem d7_beginHour_12 : decode cX7_beginHour 12 = .ok (.putfield 188, 3) := by decide +kernel
theorem d7_beginHour_15 : decode cX7_beginHour 15 = .ok (.aload_n 0, 1) := by decide +kernel
theorem d7_beginHour_16 : decode cX7_beginHour 16 = .ok (.iconst 0, 1) := by decide +kernel
theorem d7_beginHour_17 : decode cX7_beginHour 17 = .ok (.putfield 192, 3) := by decide +kernel
theorem d7_beginHour_20 : decode cX7_beginHour 20 = .ok (.iconst 0, 1) := by decide +kernel
theorem d7_beginHour_21 : decode cX7_beginHour 21 = .ok (.istore_n 1, 1) := by decide +kernel
theorem d7_beginHour_22 : decode cX7_beginHour 22 = .ok (.iload_n 1, 1) := by decide +kernel
theorem d7_beginHour_23 : decode cX7_beginHour 23 = .ok (.bipush 6, 2) := by decide +kernel
theorem d7_beginHour_25 : decode cX7_beginHour 25 = .ok (.if_icmp .ge 24, 3) := by decide +kernel
theorem d7_beginHour_28 : decode cX7_beginHour 28 = .ok (.aload_n 0, 1) := by decide +kernel
theorem d7_beginHour_29 : decode cX7_beginHour 29 = .ok (.getfield 76, 3) := by decide +kernel
theorem d7_beginHour_32 : decode cX7_beginHour 32 = .ok (.iload_n 1, 1) := by decide +kernel
theorem d7_beginHour_33 : decode cX7_beginHour 33 = .ok (.bipush (-4), 2) := by decide +kernel
theorem d7_beginHour_35 : decode cX7_beginHour 35 = .ok (.iastore, 1) := by decide +kernel
theorem d7_beginHour_36 : decode cX7_beginHour 36 = .ok (.aload_n 0, 1) := by decide +kernel
theorem d7_beginHour_37 : decode cX7_beginHour 37 = .ok (.getfield 79, 3) := by decide +kernel
theorem d7_beginHour_40 : decode cX7_beginHour 40 = .ok (.iload_n 1, 1) := by decide +kernel
theorem d7_beginHour_41 : decode cX7_beginHour 41 = .ok (.iconst 0, 1) := by decide +kernel
theorem d7_beginHour_42 : decode cX7_beginHour 42 = .ok (.iastore, 1) := by decide +kernel
theorem d7_beginHour_43 : decode cX7_beginHour 43 = .ok (.iinc 1 1, 3) := by decide +kernel
theorem d7_beginHour_46 : decode cX7_beginHour 46 = .ok (.goto (-24), 3) := by decide +kernel
theorem d7_beginHour_49 : decode cX7_beginHour 49 = .ok (.iconst 0, 1) := by decide +kernel
theorem d7_beginHour_50 : decode cX7_beginHour 50 = .ok (.istore_n 1, 1) := by decide +kernel
theorem d7_beginHour_51 : decode cX7_beginHour 51 = .ok (.iload_n 1, 1) := by decide +kernel
theorem d7_beginHour_52 : decode cX7_beginHour 52 = .ok (.bipush 8, 2) := by decide +kernel
theorem d7_beginHour_54 : decode cX7_beginHour 54 = .ok (.if_icmp .ge 31, 3) := by decide +kernel
theorem d7_beginHour_57 : decode cX7_beginHour 57 = .ok (.aload_n 0, 1) := by decide +kernel
theorem d7_beginHour_58 : decode cX7_beginHour 58 = .ok (.getfield 82, 3) := by decide +kernel
theorem d7_beginHour_61 : decode cX7_beginHour 61 = .ok (.iload_n 1, 1) := by decide +kernel
theorem d7_beginHour_62 : decode cX7_beginHour 62 = .ok (.bipush (-4), 2) := by decide +kernel
theorem d7_beginHour_64 : decode cX7_beginHour 64 = .ok (.iastore, 1) := by decide +kernel
theorem d7_beginHour_65 : decode cX7_beginHour 65 = .ok (.aload_n 0, 1) := by decide +kernel
theorem d7_beginHour_66 : decode cX7_beginHour 66 = .ok (.getfield 85, 3) := by decide +kernel
theorem d7_beginHour_69 : decode cX7_beginHour 69 = .ok (.iload_n 1, 1) := by decide +kernel
theorem d7_beginHour_70 : decode cX7_beginHour 70 = .ok (.iconst 0, 1) := by decide +kernel
theorem d7_beginHour_71 : decode cX7_beginHour 71 = .ok (.iastore, 1) := by decide +kernel
theorem d7_beginHour_72 : decode cX7_beginHour 72 = .ok (.aload_n 0, 1) := by decide +kernel
theorem d7_beginHour_73 : decode cX7_beginHour 73 = .ok (.getfield 88, 3) := by decide +kernel
theorem d7_beginHour_76 : decode cX7_beginHour 76 = .ok (.iload_n 1, 1) := by decide +kernel
theorem d7_beginHour_77 : decode cX7_beginHour 77 = .ok (.iconst 0, 1) := by decide +kernel
theorem d7_beginHour_78 : decode cX7_beginHour 78 = .ok (.bastore, 1) := by decide +kernel
theorem d7_beginHour_79 : decode cX7_beginHour 79 = .ok (.iinc 1 1, 3) := by decide +kernel
theorem d7_beginHour_82 : decode cX7_beginHour 82 = .ok (.goto (-31), 3) := by decide +kernel
theorem d7_beginHour_85 : decode cX7_beginHour 85 = .ok (.return_, 1) := by decide +kernel
def f7_beginHour_b51 : Nat → Mem → Int32 → Option Mem
  | 0, _, _ => none
  | n + 1, σ, x1 => if 8 ≤ x1 then some σ else if ¬ (x1 < 0 ∨ 8 ≤ x1.toNatClampNeg) then (bm (mu σ 30 x1.toNatClampNeg (-4)) fun σ3 => if ¬ (x1 < 0 ∨ 8 ≤ x1.toNatClampNeg) then (bm (mu σ3 31 x1.toNatClampNeg 0) fun σ5 => if ¬ (x1 < 0 ∨ 8 ≤ x1.toNatClampNeg) then (bm (mu σ5 32 x1.toNatClampNeg 0) fun σ7 => f7_beginHour_b51 n σ7 (x1 + 1)) else none) else none) else none
set_option maxHeartbeats 4000000 in
set_option maxRecDepth 100000 in
theorem t7_beginHour_b51 {p : Program} {l : Launch} {e : Env} {s : State} {m : MethodId} {args : Array Value} {below : List Frame} {meth : Method} {c : Code} {w : WV} {σ' : Mem} (S : CallFix p m c cX7_beginHour 2 s args gtbl RX7) (hr : meth.sig.returnType = none) (hlk : meth.locks = false) (hK : KS LM w s) : ∀ (n : Nat), ∀ (σ : Mem) (x1 : Int32), f7_beginHour_b51  n σ x1 = some σ' → ∀ (H : Heap) (locs : List Loc), Rp EM LM w σ H → va_S (AW LM w) s.heap H locs → ∀ (ls : Array Slot), lv_has ls 2 [(0, .ref (w.2.2 0)), (1, .int x1)] → W p l e rm7_beginHour s m args below meth c H locs 0 0 (MQ below (Qw EM LM w σ' none) args s 0 0 (AW LM w)) (F0 m 51 ls []) := by
  obtain ⟨hx, hb, hml, hown, hts⟩ := id S
  intro n
  induction n with
  | zero =>
    intro σ x1 h0
    cases (show none = _ from h0)
  | succ n ih =>
    intro σ x1 h0 H locs hR hS ls hl
    rw [f7_beginHour_b51] at h0
    refine lv_iload_n hx hb d7_beginHour_51 rfl (lv_at hl 1 rfl) ?_
    refine lv_bipush (v := 8) hx hb d7_beginHour_52 (by decide) ?_
    refine lv_icmp_ge (tgt := 85) hx hb d7_beginHour_54 (by decide) (fun hc1 => ?_) (fun hc1 => ?_)
    · have h0 := og_t hc1 h0
      exact q_vret S hr hlk hR hS h0 d7_beginHour_85
    · have h0 := og_f hc1 h0
      refine lv_aload_n hx hb d7_beginHour_57 rfl (lv_at hl 0 rfl) ?_
      refine g7_82 S hK hR d7_beginHour_58 ?_
      refine lv_iload_n hx hb d7_beginHour_61 rfl (lv_at hl 1 rfl) ?_
      refine lv_bipush (v := (-4)) hx hb d7_beginHour_62 (by decide) ?_
      obtain ⟨hi2, h0⟩ := og_if h0
      obtain ⟨σ3, hm3, h0⟩ := og_m h0
      refine q_st S hK hR hS (by decide) (eM_129 w) hi2 rfl hm3 d7_beginHour_64 (fun H locs hR hS => ?_)
      refine lv_aload_n hx hb d7_beginHour_65 rfl (lv_at hl 0 rfl) ?_
      refine g7_85 S hK hR d7_beginHour_66 ?_
      refine lv_iload_n hx hb d7_beginHour_69 rfl (lv_at hl 1 rfl) ?_
      refine lv_iconst (v := 0) hx hb d7_beginHour_70 (by decide) ?_
      obtain ⟨hi4, h0⟩ := og_if h0
      obtain ⟨σ5, hm5, h0⟩ := og_m h0
      refine q_st S hK hR hS (by decide) (eM_130 w) hi4 rfl hm5 d7_beginHour_71 (fun H locs hR hS => ?_)
      refine lv_aload_n hx hb d7_beginHour_72 rfl (lv_at hl 0 rfl) ?_
      refine g7_88 S hK hR d7_beginHour_73 ?_
      refine lv_iload_n hx hb d7_beginHour_76 rfl (lv_at hl 1 rfl) ?_
      refine lv_iconst (v := 0) hx hb d7_beginHour_77 (by decide) ?_
      obtain ⟨hi6, h0⟩ := og_if h0
      obtain ⟨σ7, hm7, h0⟩ := og_m h0
      refine q_zst S hK hR hS (by decide) (eM_131 w) (Or.inl rfl) hi6 rfl hm7 d7_beginHour_78 (fun H locs hR hS => ?_)
      refine lv_iinc (v := x1 + 1) (lv' := [(1, .int (x1 + 1)), (0, .ref (w.2.2 0))]) hx hb d7_beginHour_79 hl (k := 1) rfl (ii1 _) (by decide) rfl (fun ls hl => ?_)
      refine lv_goto (tgt := 51) hx hb d7_beginHour_82 (by decide) ?_
      exact ih σ7 (x1 + 1) h0 _ _ hR hS _ (lv_sub hl [1, 0] rfl)
def f7_beginHour_b22 : Nat → Mem → Int32 → Option Mem
  | 0, _, _ => none
  | n + 1, σ, x1 => if 6 ≤ x1 then f7_beginHour_b51 1000 σ 0 else if ¬ (x1 < 0 ∨ 6 ≤ x1.toNatClampNeg) then (bm (mu σ 28 x1.toNatClampNeg (-4)) fun σ3 => if ¬ (x1 < 0 ∨ 6 ≤ x1.toNatClampNeg) then (bm (mu σ3 29 x1.toNatClampNeg 0) fun σ5 => f7_beginHour_b22 n σ5 (x1 + 1)) else none) else none
set_option maxHeartbeats 4000000 in
set_option maxRecDepth 100000 in
theorem t7_beginHour_b22 {p : Program} {l : Launch} {e : Env} {s : State} {m : MethodId} {args : Array Value} {below : List Frame} {meth : Method} {c : Code} {w : WV} {σ' : Mem} (S : CallFix p m c cX7_beginHour 2 s args gtbl RX7) (hr : meth.sig.returnType = none) (hlk : meth.locks = false) (hK : KS LM w s) : ∀ (n : Nat), ∀ (σ : Mem) (x1 : Int32), f7_beginHour_b22  n σ x1 = some σ' → ∀ (H : Heap) (locs : List Loc), Rp EM LM w σ H → va_S (AW LM w) s.heap H locs → ∀ (ls : Array Slot), lv_has ls 2 [(0, .ref (w.2.2 0)), (1, .int x1)] → W p l e rm7_beginHour s m args below meth c H locs 0 0 (MQ below (Qw EM LM w σ' none) args s 0 0 (AW LM w)) (F0 m 22 ls []) := by
  obtain ⟨hx, hb, hml, hown, hts⟩ := id S
  intro n
  induction n with
  | zero =>
    intro σ x1 h0
    cases (show none = _ from h0)
  | succ n ih =>
    intro σ x1 h0 H locs hR hS ls hl
    rw [f7_beginHour_b22] at h0
    refine lv_iload_n hx hb d7_beginHour_22 rfl (lv_at hl 1 rfl) ?_
    refine lv_bipush (v := 6) hx hb d7_beginHour_23 (by decide) ?_
    refine lv_icmp_ge (tgt := 49) hx hb d7_beginHour_25 (by decide) (fun hc1 => ?_) (fun hc1 => ?_)
    · have h0 := og_t hc1 h0
      refine lv_iconst (v := 0) hx hb d7_beginHour_49 (by decide) ?_
      refine lv_istore_n (lv' := [(1, .int 0), (0, .ref (w.2.2 0))]) hx hb d7_beginHour_50 rfl hl (by decide) rfl (fun ls hl => ?_)
      exact t7_beginHour_b51 S hr hlk hK 1000 σ 0 h0 _ _ hR hS _ (lv_sub hl [1, 0] rfl)
    · have h0 := og_f hc1 h0
      refine lv_aload_n hx hb d7_beginHour_28 rfl (lv_at hl 0 rfl) ?_
      refine g7_76 S hK hR d7_beginHour_29 ?_
      refine lv_iload_n hx hb d7_beginHour_32 rfl (lv_at hl 1 rfl) ?_
      refine lv_bipush (v := (-4)) hx hb d7_beginHour_33 (by decide) ?_
      obtain ⟨hi2, h0⟩ := og_if h0
      obtain ⟨σ3, hm3, h0⟩ := og_m h0
      refine q_st S hK hR hS (by decide) (eM_127 w) hi2 rfl hm3 d7_beginHour_35 (fun H locs hR hS => ?_)
      refine lv_aload_n hx hb d7_beginHour_36 rfl (lv_at hl 0 rfl) ?_
      refine g7_79 S hK hR d7_beginHour_37 ?_
      refine lv_iload_n hx hb d7_beginHour_40 rfl (lv_at hl 1 rfl) ?_
      refine lv_iconst (v := 0) hx hb d7_beginHour_41 (by decide) ?_
      obtain ⟨hi4, h0⟩ := og_if h0
      obtain ⟨σ5, hm5, h0⟩ := og_m h0
      refine q_st S hK hR hS (by decide) (eM_128 w) hi4 rfl hm5 d7_beginHour_42 (fun H locs hR hS => ?_)
      refine lv_iinc (v := x1 + 1) (lv' := [(1, .int (x1 + 1)), (0, .ref (w.2.2 0))]) hx hb d7_beginHour_43 hl (k := 1) rfl (ii1 _) (by decide) rfl (fun ls hl => ?_)
      refine lv_goto (tgt := 22) hx hb d7_beginHour_46 (by decide) ?_
      exact ih σ5 (x1 + 1) h0 _ _ hR hS _ (lv_sub hl [1, 0] rfl)
def f7_beginHour (σ : Mem) : Option Mem := bm (mu σ 0 32 0) fun σ1 => bm (mu σ1 0 33 0) fun σ2 => bm (mu σ2 0 35 0) fun σ3 => bm (mu σ3 0 36 0) fun σ4 => f7_beginHour_b22 1000 σ4 0
set_option maxHeartbeats 4000000 in
set_option maxRecDepth 100000 in
theorem c7_beginHour (l : Launch) {w : WV} {σ : Mem} {σ' : Mem} (h0 : f7_beginHour σ = some σ') : Met l yX7_beginHour (wy yX7_beginHour cX7_beginHour 2 none) rm7_beginHour (Pw EM LM w [.ref (w.2.2 0)] σ) (Qw EM LM w σ' none) 0 0 (AW LM w) := by
  refine mk_met (by decide) (Nat.le_of_ble_eq_true rfl) ?_
  intro p e s m below meth c S hr hlk hK hR ls hl
  obtain ⟨hx, hb, hml, hown, hts⟩ := id S
  have hl : lv_has ls 2 [(0, .ref (w.2.2 0))] := hl
  have hS : va_S (AW LM w) s.heap s.heap [] := va_S.rf
  unfold f7_beginHour at h0
  refine lv_aload_n hx hb d7_beginHour_0 rfl (lv_at hl 0 rfl) ?_
  refine lv_iconst (v := 0) hx hb d7_beginHour_1 (by decide) ?_
  obtain ⟨σ1, hm1, h0⟩ := og_m h0
  refine u7_182 S hK hR hS hm1 d7_beginHour_2 (fun H locs hR hS => ?_)
  refine lv_aload_n hx hb d7_beginHour_5 rfl (lv_at hl 0 rfl) ?_
  refine lv_iconst (v := 0) hx hb d7_beginHour_6 (by decide) ?_
  obtain ⟨σ2, hm2, h0⟩ := og_m h0
  refine u7_185 S hK hR hS hm2 d7_beginHour_7 (fun H locs hR hS => ?_)
  refine lv_aload_n hx hb d7_beginHour_10 rfl (lv_at hl 0 rfl) ?_
  refine lv_iconst (v := 0) hx hb d7_beginHour_11 (by decide) ?_
  obtain ⟨σ3, hm3, h0⟩ := og_m h0
  refine u7_188 S hK hR hS (Or.inl rfl) hm3 d7_beginHour_12 (fun H locs hR hS => ?_)
  refine lv_aload_n hx hb d7_beginHour_15 rfl (lv_at hl 0 rfl) ?_
  refine lv_iconst (v := 0) hx hb d7_beginHour_16 (by decide) ?_
  obtain ⟨σ4, hm4, h0⟩ := og_m h0
  refine u7_192 S hK hR hS hm4 d7_beginHour_17 (fun H locs hR hS => ?_)
  refine lv_iconst (v := 0) hx hb d7_beginHour_20 (by decide) ?_
  refine lv_istore_n (lv' := [(1, .int 0), (0, .ref (w.2.2 0))]) hx hb d7_beginHour_21 rfl hl (by decide) rfl (fun ls hl => ?_)
  exact t7_beginHour_b22 S hr hlk hK 1000 σ4 0 h0 _ _ hR hS _ (lv_sub hl [1, 0] rfl)
set_option maxHeartbeats 4000000 in
set_option maxRecDepth 100000 in
theorem k7_233 {p : Program} {l : Launch} {e : Env} {R : Room} {s : State} {m : MethodId} {args : Array Value} {below : List Frame} {meth : Method} {c : Code} {H : Heap} {locs : List Loc} {cells slots : Nat} {Q : State → Prop} {cc : ByteArray} {pc nL : Nat} {ls : Array Slot} {rest : List Value} {w : WV} {σ : Mem} {σ1 : Mem} (S : CallFix p m c cc nL s args gtbl RX7) (hK : KS LM w s) (hR : Rp EM LM w σ H) (hS : va_S (AW LM w) s.heap H locs) (h0 : f7_beginHour σ = some σ1) (hf : cells + 0 ≤ R.cells ∧ slots + 0 ≤ R.slots) (hRm : rm7_beginHour.frames + 1 ≤ R.frames ∧ 8 + (2 + 11) + rm7_beginHour.locals ≤ R.locals) (hl : ls.size = nL) (hW : (rest.map fun v => v.category).sum ≤ 8) (hdg : decode cc pc = .ok (.invokevirtual 233, 3)) (kk : ∀ (H1 : Heap) (locs1 : List Loc), Rp EM LM w σ1 H1 → va_S (AW LM w) s.heap H1 locs1 → W p l e R s m args below meth c H1 locs1 cells slots Q (F0 m (pc + 3) ls (rest))) : W p l e R s m args below meth c H locs cells slots Q (F0 m pc ls (.ref (w.2.2 0) :: rest)) := r_end hS (run_V (n := 0) (As := []) S hK hR (by decide) (eM_7 w _) rfl (gw_V (gt_at 1115 (by decide +kernel) (by decide +kernel)) (gt_at 1117 (by decide +kernel) (by decide +kernel)) (gt_at 55 (by decide +kernel) (by decide +kernel)) (gt_at 86 (by decide +kernel) (by decide +kernel)) (gt_at 1118 (by decide +kernel) (by decide +kernel))) (by decide +kernel) rfl (c7_beginHour l h0) ⟨rfl, rfl⟩ hRm hf hl rfl hW hdg) kk
end
section
/-! FourTenGatesModel.isPassing(I)Z -/
abbrev rm7_isPassing : Room := { frames := 0, cells := 0, slots := 0, locals := 0 }
theorem d7_isPassing_0 : decode cX7_isPassing 0 = .ok (.iconst 0, 1) := by decide +kernel
theorem d7_isPassing_1 : decode cX7_isPassing 1 = .ok (.istore_n 2, 1) := by decide +kernel
theorem d7_isPassing_2 : decode cX7_isPassing 2 = .ok (.iconst 0, 1) := by decide +kernel
theorem d7_isPassing_3 : decode cX7_isPassing 3 = .ok (.istore_n 3, 1) := by decide +kernel
theorem d7_isPassing_4 : decode cX7_isPassing 4 = .ok (.iload_n 3, 1) := by decide +kernel
theorem d7_isPassing_5 : decode cX7_isPassing 5 = .ok (.aload_n 0, 1) := by decide +kernel
theorem d7_isPassing_6 : decode cX7_isPassing 6 = .ok (.getfield 13, 3) := by decide +kernel
theorem d7_isPassing_9 : decode cX7_isPassing 9 = .ok (.iconst 0, 1) := by decide +kernel
theorem d7_isPassing_10 : decode cX7_isPassing 10 = .ok (.iaload, 1) := by decide +kernel
theorem d7_isPassing_11 : decode cX7_isPassing 11 = .ok (.if_icmp .ge 40, 3) := by decide +kernel
theorem d7_isPassing_14 : decode cX7_isPassing 14 = .ok (.iload_n 2, 1) := by decide +kernel
theorem d7_isPassing_15 : decode cX7_isPassing 15 = .ok (.ifCond .ne 24, 3) := by decide +kernel
theorem d7_isPassing_18 : decode cX7_isPassing 18 = .ok (.aload_n 0, 1) := by decide +kernel
theorem d7_isPassing_19 : decode cX7_isPassing 19 = .ok (.getfield 76, 3) := by decide +kernel
theorem d7_isPassing_22 : decode cX7_isPassing 22 = .ok (.iload_n 3, 1) := by decide +kernel
theorem d7_isPassing_23 : decode cX7_isPassing 23 = .ok (.iaload, 1) := by decide +kernel
theorem d7_isPassing_24 : decode cX7_isPassing 24 = .ok (.ifCond .lt 19, 3) := by decide +kernel
theorem d7_isPassing_27 : decode cX7_isPassing 27 = .ok (.iload_n 1, 1) := by decide +kernel
theorem d7_isPassing_28 : decode cX7_isPassing 28 = .ok (.aload_n 0, 1) := by decide +kernel
theorem d7_isPassing_29 : decode cX7_isPassing 29 = .ok (.getfield 76, 3) := by decide +kernel
theorem d7_isPassing_32 : decode cX7_isPassing 32 = .ok (.iload_n 3, 1) := by decide +kernel
theorem d7_isPassing_33 : decode cX7_isPassing 33 = .ok (.iaload, 1) := by decide +kernel
theorem d7_isPassing_34 : decode cX7_isPassing 34 = .ok (.iconst 2, 1) := by decide +kernel
theorem d7_isPassing_35 : decode cX7_isPassing 35 = .ok (.iadd, 1) := by decide +kernel
theorem d7_isPassing_36 : decode cX7_isPassing 36 = .ok (.if_icmp .gt 7, 3) := by decide +kernel
theorem d7_isPassing_39 : decode cX7_isPassing 39 = .ok (.iconst 1, 1) := by decide +kernel
theorem d7_isPassing_40 : decode cX7_isPassing 40 = .ok (.goto 4, 3) := by decide +kernel
theorem d7_isPassing_43 : decode cX7_isPassing 43 = .ok (.iconst 0, 1) := by decide +kernel
theorem d7_isPassing_44 : decode cX7_isPassing 44 = .ok (.istore_n 2, 1) := by decide +kernel
theorem d7_isPassing_45 : decode cX7_isPassing 45 = .ok (.iinc 3 1, 3) := by decide +kernel
theorem d7_isPassing_48 : decode cX7_isPassing 48 = .ok (.goto (-44), 3) := by decide +kernel
theorem d7_isPassing_51 : decode cX7_isPassing 51 = .ok (.iload_n 2, 1) := by decide +kernel
theorem d7_isPassing_52 : decode cX7_isPassing 52 = .ok (.ireturn, 1) := by decide +kernel
def f7_isPassing_b4 (σ : Mem) : Nat → Int32 → Int32 → Int32 → Option Int32
  | 0, _, _, _ => none
  | n + 1, x1, x2, x3 => if (σ 3 0) ≤ x3 then if x2 = 0 ∨ x2 = 1 then some x2 else none else if x2 = 0 then if ¬ (x3 < 0 ∨ 6 ≤ x3.toNatClampNeg) then if (σ 28 x3.toNatClampNeg) < 0 then f7_isPassing_b4 σ n x1 0 (x3 + 1) else if ¬ (x3 < 0 ∨ 6 ≤ x3.toNatClampNeg) then if ((σ 28 x3.toNatClampNeg) + 2) < x1 then f7_isPassing_b4 σ n x1 0 (x3 + 1) else f7_isPassing_b4 σ n x1 1 (x3 + 1) else none else none else f7_isPassing_b4 σ n x1 1 (x3 + 1)
set_option maxHeartbeats 4000000 in
set_option maxRecDepth 100000 in
theorem t7_isPassing_b4 {p : Program} {l : Launch} {e : Env} {s : State} {m : MethodId} {args : Array Value} {below : List Frame} {meth : Method} {c : Code} {w : WV} {σ : Mem} {r : Int32} (S : CallFix p m c cX7_isPassing 4 s args gtbl RX7) (hr : meth.sig.returnType = (some .boolean)) (hlk : meth.locks = false) (hK : KS LM w s) (hR : Rp EM LM w σ s.heap) : ∀ (n : Nat), ∀ (x1 : Int32) (x2 : Int32) (x3 : Int32), f7_isPassing_b4 σ n x1 x2 x3 = some r → ∀ (ls : Array Slot), lv_has ls 4 [(0, .ref (w.2.2 0)), (1, .int x1), (2, .int x2), (3, .int x3)] → W p l e rm7_isPassing s m args below meth c s.heap [] 0 0 (MQ below (Qp (.int r)) args s 0 0 (fun _ => False)) (F0 m 4 ls []) := by
  obtain ⟨hx, hb, hml, hown, hts⟩ := id S
  intro n
  induction n with
  | zero =>
    intro x1 x2 x3 h0
    cases (show none = _ from h0)
  | succ n ih =>
    intro x1 x2 x3 h0 ls hl
    rw [f7_isPassing_b4] at h0
    refine lv_iload_n hx hb d7_isPassing_4 rfl (lv_at hl 3 rfl) ?_
    refine lv_aload_n hx hb d7_isPassing_5 rfl (lv_at hl 0 rfl) ?_
    refine g7_13 S hK hR d7_isPassing_6 ?_
    refine lv_iconst (v := 0) hx hb d7_isPassing_9 (by decide) ?_
    refine q_ld (k := 0) S hK hR (by decide) (eM_102 w _) (vin (by decide)) (by decide) d7_isPassing_10 ?_
    refine lv_icmp_ge (tgt := 51) hx hb d7_isPassing_11 (by decide) (fun hc1 => ?_) (fun hc1 => ?_)
    · have h0 := og_t hc1 h0
      refine lv_iload_n hx hb d7_isPassing_51 rfl (lv_at hl 2 rfl) ?_
      obtain ⟨hb0, h0⟩ := og_if h0
      exact q_zpure S hr hlk hb0 h0 d7_isPassing_52
    · have h0 := og_f hc1 h0
      refine lv_iload_n hx hb d7_isPassing_14 rfl (lv_at hl 2 rfl) ?_
      refine lv_if_ne (tgt := 39) hx hb d7_isPassing_15 (by decide) (fun hc2 => ?_) (fun hc2 => ?_)
      · have h0 := og_f hc2 h0
        refine lv_iconst (v := 1) hx hb d7_isPassing_39 (by decide) ?_
        refine lv_goto (tgt := 44) hx hb d7_isPassing_40 (by decide) ?_
        refine lv_istore_n (lv' := [(2, .int 1), (0, .ref (w.2.2 0)), (1, .int x1), (3, .int x3)]) hx hb d7_isPassing_44 rfl hl (by decide) rfl (fun ls hl => ?_)
        refine lv_iinc (v := x3 + 1) (lv' := [(3, .int (x3 + 1)), (2, .int 1), (0, .ref (w.2.2 0)), (1, .int x1)]) hx hb d7_isPassing_45 hl (k := 3) rfl (ii1 _) (by decide) rfl (fun ls hl => ?_)
        refine lv_goto (tgt := 4) hx hb d7_isPassing_48 (by decide) ?_
        exact ih x1 1 (x3 + 1) h0 _ (lv_sub hl [2, 3, 1, 0] rfl)
      · have h0 := og_t hc2 h0
        refine lv_aload_n hx hb d7_isPassing_18 rfl (lv_at hl 0 rfl) ?_
        refine g7_76 S hK hR d7_isPassing_19 ?_
        refine lv_iload_n hx hb d7_isPassing_22 rfl (lv_at hl 3 rfl) ?_
        obtain ⟨hi3, h0⟩ := og_if h0
        refine q_ld (k := x3.toNatClampNeg) S hK hR (by decide) (eM_127 w _) hi3 rfl d7_isPassing_23 ?_
        refine lv_if_lt (tgt := 43) hx hb d7_isPassing_24 (by decide) (fun hc4 => ?_) (fun hc4 => ?_)
        · have h0 := og_t hc4 h0
          refine lv_iconst (v := 0) hx hb d7_isPassing_43 (by decide) ?_
          refine lv_istore_n (lv' := [(2, .int 0), (0, .ref (w.2.2 0)), (1, .int x1), (3, .int x3)]) hx hb d7_isPassing_44 rfl hl (by decide) rfl (fun ls hl => ?_)
          refine lv_iinc (v := x3 + 1) (lv' := [(3, .int (x3 + 1)), (2, .int 0), (0, .ref (w.2.2 0)), (1, .int x1)]) hx hb d7_isPassing_45 hl (k := 3) rfl (ii1 _) (by decide) rfl (fun ls hl => ?_)
          refine lv_goto (tgt := 4) hx hb d7_isPassing_48 (by decide) ?_
          exact ih x1 0 (x3 + 1) h0 _ (lv_sub hl [2, 3, 1, 0] rfl)
        · have h0 := og_f hc4 h0
          refine lv_iload_n hx hb d7_isPassing_27 rfl (lv_at hl 1 rfl) ?_
          refine lv_aload_n hx hb d7_isPassing_28 rfl (lv_at hl 0 rfl) ?_
          refine g7_76 S hK hR d7_isPassing_29 ?_
          refine lv_iload_n hx hb d7_isPassing_32 rfl (lv_at hl 3 rfl) ?_
          obtain ⟨hi5, h0⟩ := og_if h0
          refine q_ld (k := x3.toNatClampNeg) S hK hR (by decide) (eM_127 w _) hi5 rfl d7_isPassing_33 ?_
          refine lv_iconst (v := 2) hx hb d7_isPassing_34 (by decide) ?_
          refine lv_iadd hx hb d7_isPassing_35 ?_
          refine lv_icmp_gt (tgt := 43) hx hb d7_isPassing_36 (by decide) (fun hc6 => ?_) (fun hc6 => ?_)
          · have h0 := og_t hc6 h0
            refine lv_iconst (v := 0) hx hb d7_isPassing_43 (by decide) ?_
            refine lv_istore_n (lv' := [(2, .int 0), (0, .ref (w.2.2 0)), (1, .int x1), (3, .int x3)]) hx hb d7_isPassing_44 rfl hl (by decide) rfl (fun ls hl => ?_)
            refine lv_iinc (v := x3 + 1) (lv' := [(3, .int (x3 + 1)), (2, .int 0), (0, .ref (w.2.2 0)), (1, .int x1)]) hx hb d7_isPassing_45 hl (k := 3) rfl (ii1 _) (by decide) rfl (fun ls hl => ?_)
            refine lv_goto (tgt := 4) hx hb d7_isPassing_48 (by decide) ?_
            exact ih x1 0 (x3 + 1) h0 _ (lv_sub hl [2, 3, 1, 0] rfl)
          · have h0 := og_f hc6 h0
            refine lv_iconst (v := 1) hx hb d7_isPassing_39 (by decide) ?_
            refine lv_goto (tgt := 44) hx hb d7_isPassing_40 (by decide) ?_
            refine lv_istore_n (lv' := [(2, .int 1), (0, .ref (w.2.2 0)), (1, .int x1), (3, .int x3)]) hx hb d7_isPassing_44 rfl hl (by decide) rfl (fun ls hl => ?_)
            refine lv_iinc (v := x3 + 1) (lv' := [(3, .int (x3 + 1)), (2, .int 1), (0, .ref (w.2.2 0)), (1, .int x1)]) hx hb d7_isPassing_45 hl (k := 3) rfl (ii1 _) (by decide) rfl (fun ls hl => ?_)
            refine lv_goto (tgt := 4) hx hb d7_isPassing_48 (by decide) ?_
            exact ih x1 1 (x3 + 1) h0 _ (lv_sub hl [2, 3, 1, 0] rfl)
def f7_isPassing (σ : Mem) (x1 : Int32) : Option Int32 := f7_isPassing_b4 σ 1000 x1 0 0
set_option maxHeartbeats 4000000 in
set_option maxRecDepth 100000 in
theorem c7_isPassing (l : Launch) {w : WV} {σ : Mem} {x1 : Int32} {r : Int32} (h0 : f7_isPassing σ x1 = some r) : Met l yX7_isPassing (wy yX7_isPassing cX7_isPassing 4 (some .boolean)) rm7_isPassing (Pw EM LM w [.ref (w.2.2 0), .int x1] σ) (Qp (.int r)) 0 0 (fun _ => False) := by
  refine mk_met (by decide) (Nat.le_of_ble_eq_true rfl) ?_
  intro p e s m below meth c S hr hlk hK hR ls hl
  obtain ⟨hx, hb, hml, hown, hts⟩ := id S
  have hl : lv_has ls 4 [(0, .ref (w.2.2 0)), (1, .int x1)] := hl
  unfold f7_isPassing at h0
  refine lv_iconst (v := 0) hx hb d7_isPassing_0 (by decide) ?_
  refine lv_istore_n (lv' := [(2, .int 0), (0, .ref (w.2.2 0)), (1, .int x1)]) hx hb d7_isPassing_1 rfl hl (by decide) rfl (fun ls hl => ?_)
  refine lv_iconst (v := 0) hx hb d7_isPassing_2 (by decide) ?_
  refine lv_istore_n (lv' := [(3, .int 0), (2, .int 0), (0, .ref (w.2.2 0)), (1, .int x1)]) hx hb d7_isPassing_3 rfl hl (by decide) rfl (fun ls hl => ?_)
  exact t7_isPassing_b4 S hr hlk hK hR 1000 x1 0 0 h0 _ (lv_sub hl [2, 3, 1, 0] rfl)
set_option maxHeartbeats 4000000 in
set_option maxRecDepth 100000 in
theorem k7_199 {p : Program} {l : Launch} {e : Env} {R : Room} {s : State} {m : MethodId} {args : Array Value} {below : List Frame} {meth : Method} {c : Code} {H : Heap} {locs : List Loc} {cells slots : Nat} {Q : State → Prop} {cc : ByteArray} {pc nL : Nat} {ls : Array Slot} {rest : List Value} {w : WV} {σ : Mem} {x1 : Int32} {r : Int32} (S : CallFix p m c cc nL s args gtbl RX7) (hK : KS LM w s) (hR : Rp EM LM w σ H) (h0 : f7_isPassing σ x1 = some r) (hf : cells + 0 ≤ R.cells ∧ slots + 0 ≤ R.slots) (hRm : rm7_isPassing.frames + 1 ≤ R.frames ∧ 8 + (4 + 11) + rm7_isPassing.locals ≤ R.locals) (hl : ls.size = nL) (hW : (rest.map fun v => v.category).sum ≤ 8) (hdg : decode cc pc = .ok (.invokevirtual 199, 3)) (kk : W p l e R s m args below meth c H locs cells slots Q (F0 m (pc + 3) ls (.int r :: rest))) : W p l e R s m args below meth c H locs cells slots Q (F0 m pc ls (.int x1 :: .ref (w.2.2 0) :: rest)) := r_endp (run_V (n := 1) (As := [.int x1]) S hK hR (by decide) (eM_7 w _) rfl (gw_V (gt_at 1143 (by decide +kernel) (by decide +kernel)) (gt_at 1145 (by decide +kernel) (by decide +kernel)) (gt_at 62 (by decide +kernel) (by decide +kernel)) (gt_at 86 (by decide +kernel) (by decide +kernel)) (gt_at 1146 (by decide +kernel) (by decide +kernel))) (by decide +kernel) rfl (c7_isPassing l h0) ⟨rfl, rfl⟩ hRm hf hl rfl hW hdg) kk
/-! FourTenGatesModel.hasPassed(II)Z -/
abbrev rm7_hasPassed : Room := { frames := 0, cells := 0, slots := 0, locals := 0 }
theorem d7_hasPassed_0 : decode cX7_hasPassed 0 = .ok (.aload_n 0, 1) := by decide +kernel
theorem d7_hasPassed_1 : decode cX7_hasPassed 1 = .ok (.getfield 76, 3) := by decide +kernel
theorem d7_hasPassed_4 : decode cX7_hasPassed 4 = .ok (.iload_n 1, 1) := by decide +kernel
theorem d7_hasPassed_5 : decode cX7_hasPassed 5 = .ok (.iaload, 1) := by decide +kernel
theorem d7_hasPassed_6 : decode cX7_hasPassed 6 = .ok (.ifCond .lt 19, 3) := by decide +kernel
theorem d7_hasPassed_9 : decode cX7_hasPassed 9 = .ok (.iload_n 2, 1) := by decide +kernel
theorem d7_hasPassed_10 : decode cX7_hasPassed 10 = .ok (.aload_n 0, 1) := by decide +kernel
theorem d7_hasPassed_11 : decode cX7_hasPassed 11 = .ok (.getfield 76, 3) := by decide +kernel
theorem d7_hasPassed_14 : decode cX7_hasPassed 14 = .ok (.iload_n 1, 1) := by decide +kernel
theorem d7_hasPassed_15 : decode cX7_hasPassed 15 = .ok (.iaload, 1) := by decide +kernel
theorem d7_hasPassed_16 : decode cX7_hasPassed 16 = .ok (.iconst 2, 1) := by decide +kernel
theorem d7_hasPassed_17 : decode cX7_hasPassed 17 = .ok (.iadd, 1) := by decide +kernel
theorem d7_hasPassed_18 : decode cX7_hasPassed 18 = .ok (.if_icmp .le 7, 3) := by decide +kernel
theorem d7_hasPassed_21 : decode cX7_hasPassed 21 = .ok (.iconst 1, 1) := by decide +kernel
theorem d7_hasPassed_22 : decode cX7_hasPassed 22 = .ok (.goto 4, 3) := by decide +kernel
theorem d7_hasPassed_25 : decode cX7_hasPassed 25 = .ok (.iconst 0, 1) := by decide +kernel
theorem d7_hasPassed_26 : decode cX7_hasPassed 26 = .ok (.ireturn, 1) := by decide +kernel
def f7_hasPassed (σ : Mem) (x1 : Int32) (x2 : Int32) : Option Int32 := if ¬ (x1 < 0 ∨ 6 ≤ x1.toNatClampNeg) then if (σ 28 x1.toNatClampNeg) < 0 then some 0 else if ¬ (x1 < 0 ∨ 6 ≤ x1.toNatClampNeg) then if x2 ≤ ((σ 28 x1.toNatClampNeg) + 2) then some 0 else some 1 else none else none
set_option maxHeartbeats 4000000 in
set_option maxRecDepth 100000 in
theorem c7_hasPassed (l : Launch) {w : WV} {σ : Mem} {x1 : Int32} {x2 : Int32} {r : Int32} (h0 : f7_hasPassed σ x1 x2 = some r) : Met l yX7_hasPassed (wy yX7_hasPassed cX7_hasPassed 3 (some .boolean)) rm7_hasPassed (Pw EM LM w [.ref (w.2.2 0), .int x1, .int x2] σ) (Qp (.int r)) 0 0 (fun _ => False) := by
  refine mk_met (by decide) (Nat.le_of_ble_eq_true rfl) ?_
  intro p e s m below meth c S hr hlk hK hR ls hl
  obtain ⟨hx, hb, hml, hown, hts⟩ := id S
  have hl : lv_has ls 3 [(0, .ref (w.2.2 0)), (1, .int x1), (2, .int x2)] := hl
  unfold f7_hasPassed at h0
  refine lv_aload_n hx hb d7_hasPassed_0 rfl (lv_at hl 0 rfl) ?_
  refine g7_76 S hK hR d7_hasPassed_1 ?_
  refine lv_iload_n hx hb d7_hasPassed_4 rfl (lv_at hl 1 rfl) ?_
  obtain ⟨hi1, h0⟩ := og_if h0
  refine q_ld (k := x1.toNatClampNeg) S hK hR (by decide) (eM_127 w _) hi1 rfl d7_hasPassed_5 ?_
  refine lv_if_lt (tgt := 25) hx hb d7_hasPassed_6 (by decide) (fun hc2 => ?_) (fun hc2 => ?_)
  · have h0 := og_t hc2 h0
    refine lv_iconst (v := 0) hx hb d7_hasPassed_25 (by decide) ?_
    exact q_zpure S hr hlk (Or.inl rfl) h0 d7_hasPassed_26
  · have h0 := og_f hc2 h0
    refine lv_iload_n hx hb d7_hasPassed_9 rfl (lv_at hl 2 rfl) ?_
    refine lv_aload_n hx hb d7_hasPassed_10 rfl (lv_at hl 0 rfl) ?_
    refine g7_76 S hK hR d7_hasPassed_11 ?_
    refine lv_iload_n hx hb d7_hasPassed_14 rfl (lv_at hl 1 rfl) ?_
    obtain ⟨hi3, h0⟩ := og_if h0
    refine q_ld (k := x1.toNatClampNeg) S hK hR (by decide) (eM_127 w _) hi3 rfl d7_hasPassed_15 ?_
    refine lv_iconst (v := 2) hx hb d7_hasPassed_16 (by decide) ?_
    refine lv_iadd hx hb d7_hasPassed_17 ?_
    refine lv_icmp_le (tgt := 25) hx hb d7_hasPassed_18 (by decide) (fun hc4 => ?_) (fun hc4 => ?_)
    · have h0 := og_t hc4 h0
      refine lv_iconst (v := 0) hx hb d7_hasPassed_25 (by decide) ?_
      exact q_zpure S hr hlk (Or.inl rfl) h0 d7_hasPassed_26
    · have h0 := og_f hc4 h0
      refine lv_iconst (v := 1) hx hb d7_hasPassed_21 (by decide) ?_
      refine lv_goto (tgt := 26) hx hb d7_hasPassed_22 (by decide) ?_
      exact q_zpure S hr hlk (Or.inr rfl) h0 d7_hasPassed_26
set_option maxHeartbeats 4000000 in
set_option maxRecDepth 100000 in
theorem k7_195 {p : Program} {l : Launch} {e : Env} {R : Room} {s : State} {m : MethodId} {args : Array Value} {below : List Frame} {meth : Method} {c : Code} {H : Heap} {locs : List Loc} {cells slots : Nat} {Q : State → Prop} {cc : ByteArray} {pc nL : Nat} {ls : Array Slot} {rest : List Value} {w : WV} {σ : Mem} {x1 : Int32} {x2 : Int32} {r : Int32} (S : CallFix p m c cc nL s args gtbl RX7) (hK : KS LM w s) (hR : Rp EM LM w σ H) (h0 : f7_hasPassed σ x1 x2 = some r) (hf : cells + 0 ≤ R.cells ∧ slots + 0 ≤ R.slots) (hRm : rm7_hasPassed.frames + 1 ≤ R.frames ∧ 8 + (3 + 11) + rm7_hasPassed.locals ≤ R.locals) (hl : ls.size = nL) (hW : (rest.map fun v => v.category).sum ≤ 8) (hdg : decode cc pc = .ok (.invokevirtual 195, 3)) (kk : W p l e R s m args below meth c H locs cells slots Q (F0 m (pc + 3) ls (.int r :: rest))) : W p l e R s m args below meth c H locs cells slots Q (F0 m pc ls (.int x2 :: .int x1 :: .ref (w.2.2 0) :: rest)) := r_endp (run_V (n := 2) (As := [.int x1, .int x2]) S hK hR (by decide) (eM_7 w _) rfl (gw_V (gt_at 1135 (by decide +kernel) (by decide +kernel)) (gt_at 1137 (by decide +kernel) (by decide +kernel)) (gt_at 60 (by decide +kernel) (by decide +kernel)) (gt_at 86 (by decide +kernel) (by decide +kernel)) (gt_at 1138 (by decide +kernel) (by decide +kernel))) (by decide +kernel) rfl (c7_hasPassed l h0) ⟨rfl, rfl⟩ hRm hf hl rfl hW hdg) kk
/-! FourTenGatesModel.inPlan(I)Z -/
abbrev rm7_inPlan : Room := { frames := 0, cells := 0, slots := 0, locals := 0 }
theorem d7_inPlan_0 : decode cX7_inPlan 0 = .ok (.iconst 0, 1) := by decide +kernel
theorem d7_inPlan_1 : decode cX7_inPlan 1 = .ok (.istore_n 2, 1) := by decide +kernel
theorem d7_inPlan_2 : decode cX7_inPlan 2 = .ok (.iconst 0, 1) := by decide +kernel
theorem d7_inPlan_3 : decode cX7_inPlan 3 = .ok (.istore_n 3, 1) := by decide +kernel
theorem d7_inPlan_4 : decode cX7_inPlan 4 = .ok (.iload_n 3, 1) := by decide +kernel
theorem d7_inPlan_5 : decode cX7_inPlan 5 = .ok (.aload_n 0, 1) := by decide +kernel
theorem d7_inPlan_6 : decode cX7_inPlan 6 = .ok (.getfield 55, 3) := by decide +kernel
theorem d7_inPlan_9 : decode cX7_inPlan 9 = .ok (.bipush 6, 2) := by decide +kernel
theorem d7_inPlan_11 : decode cX7_inPlan 11 = .ok (.iaload, 1) := by decide +kernel
theorem d7_inPlan_12 : decode cX7_inPlan 12 = .ok (.if_icmp .ge 51, 3) := by decide +kernel
theorem d7_inPlan_15 : decode cX7_inPlan 15 = .ok (.iload_n 2, 1) := by decide +kernel
theorem d7_inPlan_16 : decode cX7_inPlan 16 = .ok (.ifCond .ne 35, 3) := by decide +kernel
theorem d7_inPlan_19 : decode cX7_inPlan 19 = .ok (.iload_n 1, 1) := by decide +kernel
theorem d7_inPlan_20 : decode cX7_inPlan 20 = .ok (.bipush 6, 2) := by decide +kernel
theorem d7_inPlan_22 : decode cX7_inPlan 22 = .ok (.aload_n 0, 1) := by decide +kernel
theorem d7_inPlan_23 : decode cX7_inPlan 23 = .ok (.getfield 55, 3) := by decide +kernel
theorem d7_inPlan_26 : decode cX7_inPlan 26 = .ok (.bipush 7, 2) := by decide +kernel
theorem d7_inPlan_28 : decode cX7_inPlan 28 = .ok (.iload_n 3, 1) := by decide +kernel
theorem d7_inPlan_29 : decode cX7_inPlan 29 = .ok (.iadd, 1) := by decide +kernel
theorem d7_inPlan_30 : decode cX7_inPlan 30 = .ok (.iaload, 1) := by decide +kernel
theorem d7_inPlan_31 : decode cX7_inPlan 31 = .ok (.imul, 1) := by decide +kernel
theorem d7_inPlan_32 : decode cX7_inPlan 32 = .ok (.if_icmp .lt 23, 3) := by decide +kernel
theorem d7_inPlan_35 : decode cX7_inPlan 35 = .ok (.iload_n 1, 1) := by decide +kernel
theorem d7_inPlan_36 : decode cX7_inPlan 36 = .ok (.bipush 6, 2) := by decide +kernel
theorem d7_inPlan_38 : decode cX7_inPlan 38 = .ok (.aload_n 0, 1) := by decide +kernel
theorem d7_inPlan_39 : decode cX7_inPlan 39 = .ok (.getfield 55, 3) := by decide +kernel
theorem d7_inPlan_42 : decode cX7_inPlan 42 = .ok (.bipush 13, 2) := by decide +kernel
theorem d7_inPlan_44 : decode cX7_inPlan 44 = .ok (.iload_n 3, 1) := by decide +kernel
theorem d7_inPlan_45 : decode cX7_inPlan 45 = .ok (.iadd, 1) := by decide +kernel
theorem d7_inPlan_46 : decode cX7_inPlan 46 = .ok (.iaload, 1) := by decide +kernel
theorem d7_inPlan_47 : decode cX7_inPlan 47 = .ok (.imul, 1) := by decide +kernel
theorem d7_inPlan_48 : decode cX7_inPlan 48 = .ok (.if_icmp .ge 7, 3) := by decide +kernel
theorem d7_inPlan_51 : decode cX7_inPlan 51 = .ok (.iconst 1, 1) := by decide +kernel
theorem d7_inPlan_52 : decode cX7_inPlan 52 = .ok (.goto 4, 3) := by decide +kernel
theorem d7_inPlan_55 : decode cX7_inPlan 55 = .ok (.iconst 0, 1) := by decide +kernel
theorem d7_inPlan_56 : decode cX7_inPlan 56 = .ok (.istore_n 2, 1) := by decide +kernel
theorem d7_inPlan_57 : decode cX7_inPlan 57 = .ok (.iinc 3 1, 3) := by decide +kernel
theorem d7_inPlan_60 : decode cX7_inPlan 60 = .ok (.goto (-56), 3) := by decide +kernel
theorem d7_inPlan_63 : decode cX7_inPlan 63 = .ok (.iload_n 2, 1) := by decide +kernel
theorem d7_inPlan_64 : decode cX7_inPlan 64 = .ok (.ireturn, 1) := by decide +kernel
def f7_inPlan_b4 (σ : Mem) : Nat → Int32 → Int32 → Int32 → Option Int32
  | 0, _, _, _ => none
  | n + 1, x1, x2, x3 => if (σ 17 6) ≤ x3 then if x2 = 0 ∨ x2 = 1 then some x2 else none else if x2 = 0 then if ¬ (7 + x3 < 0 ∨ 19 ≤ (7 + x3).toNatClampNeg) then if x1 < (6 * (σ 17 ((7 + x3).toNatClampNeg))) then f7_inPlan_b4 σ n x1 0 (x3 + 1) else if ¬ (13 + x3 < 0 ∨ 19 ≤ (13 + x3).toNatClampNeg) then if (6 * (σ 17 ((13 + x3).toNatClampNeg))) ≤ x1 then f7_inPlan_b4 σ n x1 0 (x3 + 1) else f7_inPlan_b4 σ n x1 1 (x3 + 1) else none else none else f7_inPlan_b4 σ n x1 1 (x3 + 1)
set_option maxHeartbeats 4000000 in
set_option maxRecDepth 100000 in
theorem t7_inPlan_b4 {p : Program} {l : Launch} {e : Env} {s : State} {m : MethodId} {args : Array Value} {below : List Frame} {meth : Method} {c : Code} {w : WV} {σ : Mem} {r : Int32} (S : CallFix p m c cX7_inPlan 4 s args gtbl RX7) (hr : meth.sig.returnType = (some .boolean)) (hlk : meth.locks = false) (hK : KS LM w s) (hR : Rp EM LM w σ s.heap) : ∀ (n : Nat), ∀ (x1 : Int32) (x2 : Int32) (x3 : Int32), f7_inPlan_b4 σ n x1 x2 x3 = some r → ∀ (ls : Array Slot), lv_has ls 4 [(0, .ref (w.2.2 0)), (1, .int x1), (2, .int x2), (3, .int x3)] → W p l e rm7_inPlan s m args below meth c s.heap [] 0 0 (MQ below (Qp (.int r)) args s 0 0 (fun _ => False)) (F0 m 4 ls []) := by
  obtain ⟨hx, hb, hml, hown, hts⟩ := id S
  intro n
  induction n with
  | zero =>
    intro x1 x2 x3 h0
    cases (show none = _ from h0)
  | succ n ih =>
    intro x1 x2 x3 h0 ls hl
    rw [f7_inPlan_b4] at h0
    refine lv_iload_n hx hb d7_inPlan_4 rfl (lv_at hl 3 rfl) ?_
    refine lv_aload_n hx hb d7_inPlan_5 rfl (lv_at hl 0 rfl) ?_
    refine g7_55 S hK hR d7_inPlan_6 ?_
    refine lv_bipush (v := 6) hx hb d7_inPlan_9 (by decide) ?_
    refine q_ld (k := 6) S hK hR (by decide) (eM_116 w _) (vin (by decide)) (by decide) d7_inPlan_11 ?_
    refine lv_icmp_ge (tgt := 63) hx hb d7_inPlan_12 (by decide) (fun hc1 => ?_) (fun hc1 => ?_)
    · have h0 := og_t hc1 h0
      refine lv_iload_n hx hb d7_inPlan_63 rfl (lv_at hl 2 rfl) ?_
      obtain ⟨hb0, h0⟩ := og_if h0
      exact q_zpure S hr hlk hb0 h0 d7_inPlan_64
    · have h0 := og_f hc1 h0
      refine lv_iload_n hx hb d7_inPlan_15 rfl (lv_at hl 2 rfl) ?_
      refine lv_if_ne (tgt := 51) hx hb d7_inPlan_16 (by decide) (fun hc2 => ?_) (fun hc2 => ?_)
      · have h0 := og_f hc2 h0
        refine lv_iconst (v := 1) hx hb d7_inPlan_51 (by decide) ?_
        refine lv_goto (tgt := 56) hx hb d7_inPlan_52 (by decide) ?_
        refine lv_istore_n (lv' := [(2, .int 1), (0, .ref (w.2.2 0)), (1, .int x1), (3, .int x3)]) hx hb d7_inPlan_56 rfl hl (by decide) rfl (fun ls hl => ?_)
        refine lv_iinc (v := x3 + 1) (lv' := [(3, .int (x3 + 1)), (2, .int 1), (0, .ref (w.2.2 0)), (1, .int x1)]) hx hb d7_inPlan_57 hl (k := 3) rfl (ii1 _) (by decide) rfl (fun ls hl => ?_)
        refine lv_goto (tgt := 4) hx hb d7_inPlan_60 (by decide) ?_
        exact ih x1 1 (x3 + 1) h0 _ (lv_sub hl [2, 3, 1, 0] rfl)
      · have h0 := og_t hc2 h0
        refine lv_iload_n hx hb d7_inPlan_19 rfl (lv_at hl 1 rfl) ?_
        refine lv_bipush (v := 6) hx hb d7_inPlan_20 (by decide) ?_
        refine lv_aload_n hx hb d7_inPlan_22 rfl (lv_at hl 0 rfl) ?_
        refine g7_55 S hK hR d7_inPlan_23 ?_
        refine lv_bipush (v := 7) hx hb d7_inPlan_26 (by decide) ?_
        refine lv_iload_n hx hb d7_inPlan_28 rfl (lv_at hl 3 rfl) ?_
        refine lv_iadd hx hb d7_inPlan_29 ?_
        obtain ⟨hi3, h0⟩ := og_if h0
        refine q_ld (k := ((7 + x3).toNatClampNeg)) S hK hR (by decide) (eM_116 w _) hi3 rfl d7_inPlan_30 ?_
        refine lv_imul hx hb d7_inPlan_31 ?_
        refine lv_icmp_lt (tgt := 55) hx hb d7_inPlan_32 (by decide) (fun hc4 => ?_) (fun hc4 => ?_)
        · have h0 := og_t hc4 h0
          refine lv_iconst (v := 0) hx hb d7_inPlan_55 (by decide) ?_
          refine lv_istore_n (lv' := [(2, .int 0), (0, .ref (w.2.2 0)), (1, .int x1), (3, .int x3)]) hx hb d7_inPlan_56 rfl hl (by decide) rfl (fun ls hl => ?_)
          refine lv_iinc (v := x3 + 1) (lv' := [(3, .int (x3 + 1)), (2, .int 0), (0, .ref (w.2.2 0)), (1, .int x1)]) hx hb d7_inPlan_57 hl (k := 3) rfl (ii1 _) (by decide) rfl (fun ls hl => ?_)
          refine lv_goto (tgt := 4) hx hb d7_inPlan_60 (by decide) ?_
          exact ih x1 0 (x3 + 1) h0 _ (lv_sub hl [2, 3, 1, 0] rfl)
        · have h0 := og_f hc4 h0
          refine lv_iload_n hx hb d7_inPlan_35 rfl (lv_at hl 1 rfl) ?_
          refine lv_bipush (v := 6) hx hb d7_inPlan_36 (by decide) ?_
          refine lv_aload_n hx hb d7_inPlan_38 rfl (lv_at hl 0 rfl) ?_
          refine g7_55 S hK hR d7_inPlan_39 ?_
          refine lv_bipush (v := 13) hx hb d7_inPlan_42 (by decide) ?_
          refine lv_iload_n hx hb d7_inPlan_44 rfl (lv_at hl 3 rfl) ?_
          refine lv_iadd hx hb d7_inPlan_45 ?_
          obtain ⟨hi5, h0⟩ := og_if h0
          refine q_ld (k := ((13 + x3).toNatClampNeg)) S hK hR (by decide) (eM_116 w _) hi5 rfl d7_inPlan_46 ?_
          refine lv_imul hx hb d7_inPlan_47 ?_
          refine lv_icmp_ge (tgt := 55) hx hb d7_inPlan_48 (by decide) (fun hc6 => ?_) (fun hc6 => ?_)
          · have h0 := og_t hc6 h0
            refine lv_iconst (v := 0) hx hb d7_inPlan_55 (by decide) ?_
            refine lv_istore_n (lv' := [(2, .int 0), (0, .ref (w.2.2 0)), (1, .int x1), (3, .int x3)]) hx hb d7_inPlan_56 rfl hl (by decide) rfl (fun ls hl => ?_)
            refine lv_iinc (v := x3 + 1) (lv' := [(3, .int (x3 + 1)), (2, .int 0), (0, .ref (w.2.2 0)), (1, .int x1)]) hx hb d7_inPlan_57 hl (k := 3) rfl (ii1 _) (by decide) rfl (fun ls hl => ?_)
            refine lv_goto (tgt := 4) hx hb d7_inPlan_60 (by decide) ?_
            exact ih x1 0 (x3 + 1) h0 _ (lv_sub hl [2, 3, 1, 0] rfl)
          · have h0 := og_f hc6 h0
            refine lv_iconst (v := 1) hx hb d7_inPlan_51 (by decide) ?_
            refine lv_goto (tgt := 56) hx hb d7_inPlan_52 (by decide) ?_
            refine lv_istore_n (lv' := [(2, .int 1), (0, .ref (w.2.2 0)), (1, .int x1), (3, .int x3)]) hx hb d7_inPlan_56 rfl hl (by decide) rfl (fun ls hl => ?_)
            refine lv_iinc (v := x3 + 1) (lv' := [(3, .int (x3 + 1)), (2, .int 1), (0, .ref (w.2.2 0)), (1, .int x1)]) hx hb d7_inPlan_57 hl (k := 3) rfl (ii1 _) (by decide) rfl (fun ls hl => ?_)
            refine lv_goto (tgt := 4) hx hb d7_inPlan_60 (by decide) ?_
            exact ih x1 1 (x3 + 1) h0 _ (lv_sub hl [2, 3, 1, 0] rfl)
def f7_inPlan (σ : Mem) (x1 : Int32) : Option Int32 := f7_inPlan_b4 σ 1000 x1 0 0
set_option maxHeartbeats 4000000 in
set_option maxRecDepth 100000 in
theorem c7_inPlan (l : Launch) {w : WV} {σ : Mem} {x1 : Int32} {r : Int32} (h0 : f7_inPlan σ x1 = some r) : Met l yX7_inPlan (wy yX7_inPlan cX7_inPlan 4 (some .boolean)) rm7_inPlan (Pw EM LM w [.ref (w.2.2 0), .int x1] σ) (Qp (.int r)) 0 0 (fun _ => False) := by
  refine mk_met (by decide) (Nat.le_of_ble_eq_true rfl) ?_
  intro p e s m below meth c S hr hlk hK hR ls hl
  obtain ⟨hx, hb, hml, hown, hts⟩ := id S
  have hl : lv_has ls 4 [(0, .ref (w.2.2 0)), (1, .int x1)] := hl
  unfold f7_inPlan at h0
  refine lv_iconst (v := 0) hx hb d7_inPlan_0 (by decide) ?_
  refine lv_istore_n (lv' := [(2, .int 0), (0, .ref (w.2.2 0)), (1, .int x1)]) hx hb d7_inPlan_1 rfl hl (by decide) rfl (fun ls hl => ?_)
  refine lv_iconst (v := 0) hx hb d7_inPlan_2 (by decide) ?_
  refine lv_istore_n (lv' := [(3, .int 0), (2, .int 0), (0, .ref (w.2.2 0)), (1, .int x1)]) hx hb d7_inPlan_3 rfl hl (by decide) rfl (fun ls hl => ?_)
  exact t7_inPlan_b4 S hr hlk hK hR 1000 x1 0 0 h0 _ (lv_sub hl [2, 3, 1, 0] rfl)
set_option maxHeartbeats 4000000 in
set_option maxRecDepth 100000 in
theorem k7_202 {p : Program} {l : Launch} {e : Env} {R : Room} {s : State} {m : MethodId} {args : Array Value} {below : List Frame} {meth : Method} {c : Code} {H : Heap} {locs : List Loc} {cells slots : Nat} {Q : State → Prop} {cc : ByteArray} {pc nL : Nat} {ls : Array Slot} {rest : List Value} {w : WV} {σ : Mem} {x1 : Int32} {r : Int32} (S : CallFix p m c cc nL s args gtbl RX7) (hK : KS LM w s) (hR : Rp EM LM w σ H) (h0 : f7_inPlan σ x1 = some r) (hf : cells + 0 ≤ R.cells ∧ slots + 0 ≤ R.slots) (hRm : rm7_inPlan.frames + 1 ≤ R.frames ∧ 8 + (4 + 11) + rm7_inPlan.locals ≤ R.locals) (hl : ls.size = nL) (hW : (rest.map fun v => v.category).sum ≤ 8) (hdg : decode cc pc = .ok (.invokevirtual 202, 3)) (kk : W p l e R s m args below meth c H locs cells slots Q (F0 m (pc + 3) ls (.int r :: rest))) : W p l e R s m args below meth c H locs cells slots Q (F0 m pc ls (.int x1 :: .ref (w.2.2 0) :: rest)) := r_endp (run_V (n := 1) (As := [.int x1]) S hK hR (by decide) (eM_7 w _) rfl (gw_V (gt_at 1127 (by decide +kernel) (by decide +kernel)) (gt_at 1129 (by decide +kernel) (by decide +kernel)) (gt_at 58 (by decide +kernel) (by decide +kernel)) (gt_at 86 (by decide +kernel) (by decide +kernel)) (gt_at 1130 (by decide +kernel) (by decide +kernel))) (by decide +kernel) rfl (c7_inPlan l h0) ⟨rfl, rfl⟩ hRm hf hl rfl hW hdg) kk
/-! FourTenGatesModel.inBell(I)Z -/
abbrev rm7_inBell : Room := { frames := 2, cells := 0, slots := 0, locals := 44 }
theorem d7_inBell_0 : decode cX7_inBell 0 = .ok (.iconst 0, 1) := by decide +kernel
theorem d7_inBell_1 : decode cX7_inBell 1 = .ok (.istore_n 2, 1) := by decide +kernel
theorem d7_inBell_2 : decode cX7_inBell 2 = .ok (.iconst 0, 1) := by decide +kernel
theorem d7_inBell_3 : decode cX7_inBell 3 = .ok (.istore_n 3, 1) := by decide +kernel
theorem d7_inBell_4 : decode cX7_inBell 4 = .ok (.iload_n 3, 1) := by decide +kernel
theorem d7_inBell_5 : decode cX7_inBell 5 = .ok (.aload_n 0, 1) := by decide +kernel
theorem d7_inBell_6 : decode cX7_inBell 6 = .ok (.getfield 13, 3) := by decide +kernel
theorem d7_inBell_9 : decode cX7_inBell 9 = .ok (.iconst 0, 1) := by decide +kernel
theorem d7_inBell_10 : decode cX7_inBell 10 = .ok (.iaload, 1) := by decide +kernel
theorem d7_inBell_11 : decode cX7_inBell 11 = .ok (.if_icmp .ge 37, 3) := by decide +kernel
theorem d7_inBell_14 : decode cX7_inBell 14 = .ok (.iload_n 2, 1) := by decide +kernel
theorem d7_inBell_15 : decode cX7_inBell 15 = .ok (.ifCond .ne 21, 3) := by decide +kernel
theorem d7_inBell_18 : decode cX7_inBell 18 = .ok (.aload_n 0, 1) := by decide +kernel
theorem d7_inBell_19 : decode cX7_inBell 19 = .ok (.iload_n 3, 1) := by decide +kernel
theorem d7_inBell_20 : decode cX7_inBell 20 = .ok (.invokevirtual 176, 3) := by decide +kernel
theorem d7_inBell_23 : decode cX7_inBell 23 = .ok (.iload_n 1, 1) := by decide +kernel
theorem d7_inBell_24 : decode cX7_inBell 24 = .ok (.if_icmp .gt 16, 3) := by decide +kernel
theorem d7_inBell_27 : decode cX7_inBell 27 = .ok (.aload_n 0, 1) := by decide +kernel
theorem d7_inBell_28 : decode cX7_inBell 28 = .ok (.iload_n 3, 1) := by decide +kernel
theorem d7_inBell_29 : decode cX7_inBell 29 = .ok (.iload_n 1, 1) := by decide +kernel
theorem d7_inBell_30 : decode cX7_inBell 30 = .ok (.invokevirtual 195, 3) := by decide +kernel
theorem d7_inBell_33 : decode cX7_inBell 33 = .ok (.ifCond .ne 7, 3) := by decide +kernel
theorem d7_inBell_36 : decode cX7_inBell 36 = .ok (.iconst 1, 1) := by decide +kernel
theorem d7_inBell_37 : decode cX7_inBell 37 = .ok (.goto 4, 3) := by decide +kernel
theorem d7_inBell_40 : decode cX7_inBell 40 = .ok (.iconst 0, 1) := by decide +kernel
theorem d7_inBell_41 : decode cX7_inBell 41 = .ok (.istore_n 2, 1) := by decide +kernel
theorem d7_inBell_42 : decode cX7_inBell 42 = .ok (.iinc 3 1, 3) := by decide +kernel
theorem d7_inBell_45 : decode cX7_inBell 45 = .ok (.goto (-41), 3) := by decide +kernel
theorem d7_inBell_48 : decode cX7_inBell 48 = .ok (.iload_n 2, 1) := by decide +kernel
theorem d7_inBell_49 : decode cX7_inBell 49 = .ok (.ireturn, 1) := by decide +kernel
def f7_inBell_b4 (σ : Mem) : Nat → Int32 → Int32 → Int32 → Option Int32
  | 0, _, _, _ => none
  | n + 1, x1, x2, x3 => if (σ 3 0) ≤ x3 then if x2 = 0 ∨ x2 = 1 then some x2 else none else if x2 = 0 then Option.bind (f7_bellOf σ x3) fun r3 => if x1 < r3 then f7_inBell_b4 σ n x1 0 (x3 + 1) else Option.bind (f7_hasPassed σ x3 x1) fun r5 => if r5 = 0 then f7_inBell_b4 σ n x1 1 (x3 + 1) else f7_inBell_b4 σ n x1 0 (x3 + 1) else f7_inBell_b4 σ n x1 1 (x3 + 1)
set_option maxHeartbeats 4000000 in
set_option maxRecDepth 100000 in
theorem t7_inBell_b4 {p : Program} {l : Launch} {e : Env} {s : State} {m : MethodId} {args : Array Value} {below : List Frame} {meth : Method} {c : Code} {w : WV} {σ : Mem} {r : Int32} (S : CallFix p m c cX7_inBell 4 s args gtbl RX7) (hr : meth.sig.returnType = (some .boolean)) (hlk : meth.locks = false) (hK : KS LM w s) (hR : Rp EM LM w σ s.heap) : ∀ (n : Nat), ∀ (x1 : Int32) (x2 : Int32) (x3 : Int32), f7_inBell_b4 σ n x1 x2 x3 = some r → ∀ (ls : Array Slot), lv_has ls 4 [(0, .ref (w.2.2 0)), (1, .int x1), (2, .int x2), (3, .int x3)] → W p l e rm7_inBell s m args below meth c s.heap [] 0 0 (MQ below (Qp (.int r)) args s 0 0 (fun _ => False)) (F0 m 4 ls []) := by
  obtain ⟨hx, hb, hml, hown, hts⟩ := id S
  intro n
  induction n with
  | zero =>
    intro x1 x2 x3 h0
    cases (show none = _ from h0)
  | succ n ih =>
    intro x1 x2 x3 h0 ls hl
    rw [f7_inBell_b4] at h0
    refine lv_iload_n hx hb d7_inBell_4 rfl (lv_at hl 3 rfl) ?_
    refine lv_aload_n hx hb d7_inBell_5 rfl (lv_at hl 0 rfl) ?_
    refine g7_13 S hK hR d7_inBell_6 ?_
    refine lv_iconst (v := 0) hx hb d7_inBell_9 (by decide) ?_
    refine q_ld (k := 0) S hK hR (by decide) (eM_102 w _) (vin (by decide)) (by decide) d7_inBell_10 ?_
    refine lv_icmp_ge (tgt := 48) hx hb d7_inBell_11 (by decide) (fun hc1 => ?_) (fun hc1 => ?_)
    · have h0 := og_t hc1 h0
      refine lv_iload_n hx hb d7_inBell_48 rfl (lv_at hl 2 rfl) ?_
      obtain ⟨hb0, h0⟩ := og_if h0
      exact q_zpure S hr hlk hb0 h0 d7_inBell_49
    · have h0 := og_f hc1 h0
      refine lv_iload_n hx hb d7_inBell_14 rfl (lv_at hl 2 rfl) ?_
      refine lv_if_ne (tgt := 36) hx hb d7_inBell_15 (by decide) (fun hc2 => ?_) (fun hc2 => ?_)
      · have h0 := og_f hc2 h0
        refine lv_iconst (v := 1) hx hb d7_inBell_36 (by decide) ?_
        refine lv_goto (tgt := 41) hx hb d7_inBell_37 (by decide) ?_
        refine lv_istore_n (lv' := [(2, .int 1), (0, .ref (w.2.2 0)), (1, .int x1), (3, .int x3)]) hx hb d7_inBell_41 rfl hl (by decide) rfl (fun ls hl => ?_)
        refine lv_iinc (v := x3 + 1) (lv' := [(3, .int (x3 + 1)), (2, .int 1), (0, .ref (w.2.2 0)), (1, .int x1)]) hx hb d7_inBell_42 hl (k := 3) rfl (ii1 _) (by decide) rfl (fun ls hl => ?_)
        refine lv_goto (tgt := 4) hx hb d7_inBell_45 (by decide) ?_
        exact ih x1 1 (x3 + 1) h0 _ (lv_sub hl [2, 3, 1, 0] rfl)
      · have h0 := og_t hc2 h0
        refine lv_aload_n hx hb d7_inBell_18 rfl (lv_at hl 0 rfl) ?_
        refine lv_iload_n hx hb d7_inBell_19 rfl (lv_at hl 3 rfl) ?_
        obtain ⟨r3, hr3, h0⟩ := og_b h0
        refine k7_176 S hK hR  hr3 ⟨Nat.zero_le _, Nat.zero_le _⟩ ⟨Nat.le_of_ble_eq_true rfl, Nat.le_of_ble_eq_true rfl⟩ hl.1 (Nat.le_of_ble_eq_true rfl) d7_inBell_20 ?_
        refine lv_iload_n hx hb d7_inBell_23 rfl (lv_at hl 1 rfl) ?_
        refine lv_icmp_gt (tgt := 40) hx hb d7_inBell_24 (by decide) (fun hc4 => ?_) (fun hc4 => ?_)
        · have h0 := og_t hc4 h0
          refine lv_iconst (v := 0) hx hb d7_inBell_40 (by decide) ?_
          refine lv_istore_n (lv' := [(2, .int 0), (0, .ref (w.2.2 0)), (1, .int x1), (3, .int x3)]) hx hb d7_inBell_41 rfl hl (by decide) rfl (fun ls hl => ?_)
          refine lv_iinc (v := x3 + 1) (lv' := [(3, .int (x3 + 1)), (2, .int 0), (0, .ref (w.2.2 0)), (1, .int x1)]) hx hb d7_inBell_42 hl (k := 3) rfl (ii1 _) (by decide) rfl (fun ls hl => ?_)
          refine lv_goto (tgt := 4) hx hb d7_inBell_45 (by decide) ?_
          exact ih x1 0 (x3 + 1) h0 _ (lv_sub hl [2, 3, 1, 0] rfl)
        · have h0 := og_f hc4 h0
          refine lv_aload_n hx hb d7_inBell_27 rfl (lv_at hl 0 rfl) ?_
          refine lv_iload_n hx hb d7_inBell_28 rfl (lv_at hl 3 rfl) ?_
          refine lv_iload_n hx hb d7_inBell_29 rfl (lv_at hl 1 rfl) ?_
          obtain ⟨r5, hr5, h0⟩ := og_b h0
          refine k7_195 S hK hR  hr5 ⟨Nat.zero_le _, Nat.zero_le _⟩ ⟨Nat.le_of_ble_eq_true rfl, Nat.le_of_ble_eq_true rfl⟩ hl.1 (Nat.le_of_ble_eq_true rfl) d7_inBell_30 ?_
          refine lv_if_ne (tgt := 40) hx hb d7_inBell_33 (by decide) (fun hc6 => ?_) (fun hc6 => ?_)
          · have h0 := og_f hc6 h0
            refine lv_iconst (v := 0) hx hb d7_inBell_40 (by decide) ?_
            refine lv_istore_n (lv' := [(2, .int 0), (0, .ref (w.2.2 0)), (1, .int x1), (3, .int x3)]) hx hb d7_inBell_41 rfl hl (by decide) rfl (fun ls hl => ?_)
            refine lv_iinc (v := x3 + 1) (lv' := [(3, .int (x3 + 1)), (2, .int 0), (0, .ref (w.2.2 0)), (1, .int x1)]) hx hb d7_inBell_42 hl (k := 3) rfl (ii1 _) (by decide) rfl (fun ls hl => ?_)
            refine lv_goto (tgt := 4) hx hb d7_inBell_45 (by decide) ?_
            exact ih x1 0 (x3 + 1) h0 _ (lv_sub hl [2, 3, 1, 0] rfl)
          · have h0 := og_t hc6 h0
            refine lv_iconst (v := 1) hx hb d7_inBell_36 (by decide) ?_
            refine lv_goto (tgt := 41) hx hb d7_inBell_37 (by decide) ?_
            refine lv_istore_n (lv' := [(2, .int 1), (0, .ref (w.2.2 0)), (1, .int x1), (3, .int x3)]) hx hb d7_inBell_41 rfl hl (by decide) rfl (fun ls hl => ?_)
            refine lv_iinc (v := x3 + 1) (lv' := [(3, .int (x3 + 1)), (2, .int 1), (0, .ref (w.2.2 0)), (1, .int x1)]) hx hb d7_inBell_42 hl (k := 3) rfl (ii1 _) (by decide) rfl (fun ls hl => ?_)
            refine lv_goto (tgt := 4) hx hb d7_inBell_45 (by decide) ?_
            exact ih x1 1 (x3 + 1) h0 _ (lv_sub hl [2, 3, 1, 0] rfl)
def f7_inBell (σ : Mem) (x1 : Int32) : Option Int32 := f7_inBell_b4 σ 1000 x1 0 0
set_option maxHeartbeats 4000000 in
set_option maxRecDepth 100000 in
theorem c7_inBell (l : Launch) {w : WV} {σ : Mem} {x1 : Int32} {r : Int32} (h0 : f7_inBell σ x1 = some r) : Met l yX7_inBell (wy yX7_inBell cX7_inBell 4 (some .boolean)) rm7_inBell (Pw EM LM w [.ref (w.2.2 0), .int x1] σ) (Qp (.int r)) 0 0 (fun _ => False) := by
  refine mk_met (by decide) (Nat.le_of_ble_eq_true rfl) ?_
  intro p e s m below meth c S hr hlk hK hR ls hl
  obtain ⟨hx, hb, hml, hown, hts⟩ := id S
  have hl : lv_has ls 4 [(0, .ref (w.2.2 0)), (1, .int x1)] := hl
  unfold f7_inBell at h0
  refine lv_iconst (v := 0) hx hb d7_inBell_0 (by decide) ?_
  refine lv_istore_n (lv' := [(2, .int 0), (0, .ref (w.2.2 0)), (1, .int x1)]) hx hb d7_inBell_1 rfl hl (by decide) rfl (fun ls hl => ?_)
  refine lv_iconst (v := 0) hx hb d7_inBell_2 (by decide) ?_
  refine lv_istore_n (lv' := [(3, .int 0), (2, .int 0), (0, .ref (w.2.2 0)), (1, .int x1)]) hx hb d7_inBell_3 rfl hl (by decide) rfl (fun ls hl => ?_)
  exact t7_inBell_b4 S hr hlk hK hR 1000 x1 0 0 h0 _ (lv_sub hl [2, 3, 1, 0] rfl)
set_option maxHeartbeats 4000000 in
set_option maxRecDepth 100000 in
theorem k7_205 {p : Program} {l : Launch} {e : Env} {R : Room} {s : State} {m : MethodId} {args : Array Value} {below : List Frame} {meth : Method} {c : Code} {H : Heap} {locs : List Loc} {cells slots : Nat} {Q : State → Prop} {cc : ByteArray} {pc nL : Nat} {ls : Array Slot} {rest : List Value} {w : WV} {σ : Mem} {x1 : Int32} {r : Int32} (S : CallFix p m c cc nL s args gtbl RX7) (hK : KS LM w s) (hR : Rp EM LM w σ H) (h0 : f7_inBell σ x1 = some r) (hf : cells + 0 ≤ R.cells ∧ slots + 0 ≤ R.slots) (hRm : rm7_inBell.frames + 1 ≤ R.frames ∧ 8 + (4 + 11) + rm7_inBell.locals ≤ R.locals) (hl : ls.size = nL) (hW : (rest.map fun v => v.category).sum ≤ 8) (hdg : decode cc pc = .ok (.invokevirtual 205, 3)) (kk : W p l e R s m args below meth c H locs cells slots Q (F0 m (pc + 3) ls (.int r :: rest))) : W p l e R s m args below meth c H locs cells slots Q (F0 m pc ls (.int x1 :: .ref (w.2.2 0) :: rest)) := r_endp (run_V (n := 1) (As := [.int x1]) S hK hR (by decide) (eM_7 w _) rfl (gw_V (gt_at 1131 (by decide +kernel) (by decide +kernel)) (gt_at 1133 (by decide +kernel) (by decide +kernel)) (gt_at 59 (by decide +kernel) (by decide +kernel)) (gt_at 86 (by decide +kernel) (by decide +kernel)) (gt_at 1134 (by decide +kernel) (by decide +kernel))) (by decide +kernel) rfl (c7_inBell l h0) ⟨rfl, rfl⟩ hRm hf hl rfl hW hdg) kk
/-! FourTenGatesModel.inSight(I)Z -/
abbrev rm7_inSight : Room := { frames := 1, cells := 0, slots := 0, locals := 23 }
theorem d7_inSight_0 : decode cX7_inSight 0 = .ok (.aload_n 0, 1) := by decide +kernel
theorem d7_inSight_1 : decode cX7_inSight 1 = .ok (.iload_n 1, 1) := by decide +kernel
theorem d7_inSight_2 : decode cX7_inSight 2 = .ok (.invokevirtual 199, 3) := by decide +kernel
theorem d7_inSight_5 : decode cX7_inSight 5 = .ok (.ifCond .ne 10, 3) := by decide +kernel
theorem d7_inSight_8 : decode cX7_inSight 8 = .ok (.aload_n 0, 1) := by decide +kernel
theorem d7_inSight_9 : decode cX7_inSight 9 = .ok (.getfield 188, 3) := by decide +kernel
theorem d7_inSight_12 : decode cX7_inSight 12 = .ok (.ifCond .eq 7, 3) := by decide +kernel
theorem d7_inSight_15 : decode cX7_inSight 15 = .ok (.iconst 1, 1) := by decide +kernel
theorem d7_inSight_16 : decode cX7_inSight 16 = .ok (.goto 4, 3) := by decide +kernel
theorem d7_inSight_19 : decode cX7_inSight 19 = .ok (.iconst 0, 1) := by decide +kernel
theorem d7_inSight_20 : decode cX7_inSight 20 = .ok (.ireturn, 1) := by decide +kernel
def f7_inSight (σ : Mem) (x1 : Int32) : Option Int32 := Option.bind (f7_isPassing σ x1) fun r1 => if r1 = 0 then if (σ 0 35) = 0 then some 0 else some 1 else some 1
set_option maxHeartbeats 4000000 in
set_option maxRecDepth 100000 in
theorem c7_inSight (l : Launch) {w : WV} {σ : Mem} {x1 : Int32} {r : Int32} (h0 : f7_inSight σ x1 = some r) : Met l yX7_inSight (wy yX7_inSight cX7_inSight 2 (some .boolean)) rm7_inSight (Pw EM LM w [.ref (w.2.2 0), .int x1] σ) (Qp (.int r)) 0 0 (fun _ => False) := by
  refine mk_met (by decide) (Nat.le_of_ble_eq_true rfl) ?_
  intro p e s m below meth c S hr hlk hK hR ls hl
  obtain ⟨hx, hb, hml, hown, hts⟩ := id S
  have hl : lv_has ls 2 [(0, .ref (w.2.2 0)), (1, .int x1)] := hl
  unfold f7_inSight at h0
  refine lv_aload_n hx hb d7_inSight_0 rfl (lv_at hl 0 rfl) ?_
  refine lv_iload_n hx hb d7_inSight_1 rfl (lv_at hl 1 rfl) ?_
  obtain ⟨r1, hr1, h0⟩ := og_b h0
  refine k7_199 S hK hR  hr1 ⟨Nat.zero_le _, Nat.zero_le _⟩ ⟨Nat.le_of_ble_eq_true rfl, Nat.le_of_ble_eq_true rfl⟩ hl.1 (Nat.le_of_ble_eq_true rfl) d7_inSight_2 ?_
  refine lv_if_ne (tgt := 15) hx hb d7_inSight_5 (by decide) (fun hc2 => ?_) (fun hc2 => ?_)
  · have h0 := og_f hc2 h0
    refine lv_iconst (v := 1) hx hb d7_inSight_15 (by decide) ?_
    refine lv_goto (tgt := 20) hx hb d7_inSight_16 (by decide) ?_
    exact q_zpure S hr hlk (Or.inr rfl) h0 d7_inSight_20
  · have h0 := og_t hc2 h0
    refine lv_aload_n hx hb d7_inSight_8 rfl (lv_at hl 0 rfl) ?_
    refine g7_188 S hK hR d7_inSight_9 ?_
    refine lv_if_eq (tgt := 19) hx hb d7_inSight_12 (by decide) (fun hc3 => ?_) (fun hc3 => ?_)
    · have h0 := og_t hc3 h0
      refine lv_iconst (v := 0) hx hb d7_inSight_19 (by decide) ?_
      exact q_zpure S hr hlk (Or.inl rfl) h0 d7_inSight_20
    · have h0 := og_f hc3 h0
      refine lv_iconst (v := 1) hx hb d7_inSight_15 (by decide) ?_
      refine lv_goto (tgt := 20) hx hb d7_inSight_16 (by decide) ?_
      exact q_zpure S hr hlk (Or.inr rfl) h0 d7_inSight_20
set_option maxHeartbeats 4000000 in
set_option maxRecDepth 100000 in
theorem k7_208 {p : Program} {l : Launch} {e : Env} {R : Room} {s : State} {m : MethodId} {args : Array Value} {below : List Frame} {meth : Method} {c : Code} {H : Heap} {locs : List Loc} {cells slots : Nat} {Q : State → Prop} {cc : ByteArray} {pc nL : Nat} {ls : Array Slot} {rest : List Value} {w : WV} {σ : Mem} {x1 : Int32} {r : Int32} (S : CallFix p m c cc nL s args gtbl RX7) (hK : KS LM w s) (hR : Rp EM LM w σ H) (h0 : f7_inSight σ x1 = some r) (hf : cells + 0 ≤ R.cells ∧ slots + 0 ≤ R.slots) (hRm : rm7_inSight.frames + 1 ≤ R.frames ∧ 8 + (2 + 11) + rm7_inSight.locals ≤ R.locals) (hl : ls.size = nL) (hW : (rest.map fun v => v.category).sum ≤ 8) (hdg : decode cc pc = .ok (.invokevirtual 208, 3)) (kk : W p l e R s m args below meth c H locs cells slots Q (F0 m (pc + 3) ls (.int r :: rest))) : W p l e R s m args below meth c H locs cells slots Q (F0 m pc ls (.int x1 :: .ref (w.2.2 0) :: rest)) := r_endp (run_V (n := 1) (As := [.int x1]) S hK hR (by decide) (eM_7 w _) rfl (gw_V (gt_at 1139 (by decide +kernel) (by decide +kernel)) (gt_at 1141 (by decide +kernel) (by decide +kernel)) (gt_at 61 (by decide +kernel) (by decide +kernel)) (gt_at 86 (by decide +kernel) (by decide +kernel)) (gt_at 1142 (by decide +kernel) (by decide +kernel))) (by decide +kernel) rfl (c7_inSight l h0) ⟨rfl, rfl⟩ hRm hf hl rfl hW hdg) kk
/-! FourTenGatesModel.inWait(I)Z -/
abbrev rm7_inWait : Room := { frames := 1, cells := 0, slots := 0, locals := 25 }
theorem d7_inWait_0 : decode cX7_inWait 0 = .ok (.iconst 0, 1) := by decide +kernel
theorem d7_inWait_1 : decode cX7_inWait 1 = .ok (.istore_n 2, 1) := by decide +kernel
theorem d7_inWait_2 : decode cX7_inWait 2 = .ok (.iconst 0, 1) := by decide +kernel
theorem d7_inWait_3 : decode cX7_inWait 3 = .ok (.istore_n 3, 1) := by decide +kernel
theorem d7_inWait_4 : decode cX7_inWait 4 = .ok (.iload_n 3, 1) := by decide +kernel
theorem d7_inWait_5 : decode cX7_inWait 5 = .ok (.aload_n 0, 1) := by decide +kernel
theorem d7_inWait_6 : decode cX7_inWait 6 = .ok (.getfield 13, 3) := by decide +kernel
theorem d7_inWait_9 : decode cX7_inWait 9 = .ok (.iconst 0, 1) := by decide +kernel
theorem d7_inWait_10 : decode cX7_inWait 10 = .ok (.iaload, 1) := by decide +kernel
theorem d7_inWait_11 : decode cX7_inWait 11 = .ok (.if_icmp .ge 61, 3) := by decide +kernel
theorem d7_inWait_14 : decode cX7_inWait 14 = .ok (.iload_n 2, 1) := by decide +kernel
theorem d7_inWait_15 : decode cX7_inWait 15 = .ok (.ifCond .ne 45, 3) := by decide +kernel
theorem d7_inWait_18 : decode cX7_inWait 18 = .ok (.aload_n 0, 1) := by decide +kernel
theorem d7_inWait_19 : decode cX7_inWait 19 = .ok (.getfield 19, 3) := by decide +kernel
theorem d7_inWait_22 : decode cX7_inWait 22 = .ok (.iload_n 3, 1) := by decide +kernel
theorem d7_inWait_23 : decode cX7_inWait 23 = .ok (.iaload, 1) := by decide +kernel
theorem d7_inWait_24 : decode cX7_inWait 24 = .ok (.iconst 2, 1) := by decide +kernel
theorem d7_inWait_25 : decode cX7_inWait 25 = .ok (.if_icmp .eq 39, 3) := by decide +kernel
theorem d7_inWait_28 : decode cX7_inWait 28 = .ok (.aload_n 0, 1) := by decide +kernel
theorem d7_inWait_29 : decode cX7_inWait 29 = .ok (.iload_n 3, 1) := by decide +kernel
theorem d7_inWait_30 : decode cX7_inWait 30 = .ok (.iload_n 1, 1) := by decide +kernel
theorem d7_inWait_31 : decode cX7_inWait 31 = .ok (.invokevirtual 195, 3) := by decide +kernel
theorem d7_inWait_34 : decode cX7_inWait 34 = .ok (.ifCond .ne 30, 3) := by decide +kernel
theorem d7_inWait_37 : decode cX7_inWait 37 = .ok (.bipush 6, 2) := by decide +kernel
theorem d7_inWait_39 : decode cX7_inWait 39 = .ok (.aload_n 0, 1) := by decide +kernel
theorem d7_inWait_40 : decode cX7_inWait 40 = .ok (.getfield 16, 3) := by decide +kernel
theorem d7_inWait_43 : decode cX7_inWait 43 = .ok (.iload_n 3, 1) := by decide +kernel
theorem d7_inWait_44 : decode cX7_inWait 44 = .ok (.iaload, 1) := by decide +kernel
theorem d7_inWait_45 : decode cX7_inWait 45 = .ok (.imul, 1) := by decide +kernel
theorem d7_inWait_46 : decode cX7_inWait 46 = .ok (.i2l, 1) := by decide +kernel
theorem d7_inWait_47 : decode cX7_inWait 47 = .ok (.iload_n 1, 1) := by decide +kernel
theorem d7_inWait_48 : decode cX7_inWait 48 = .ok (.i2l, 1) := by decide +kernel
theorem d7_inWait_49 : decode cX7_inWait 49 = .ok (.iload_n 1, 1) := by decide +kernel
theorem d7_inWait_50 : decode cX7_inWait 50 = .ok (.bipush 24, 2) := by decide +kernel
theorem d7_inWait_52 : decode cX7_inWait 52 = .ok (.iadd, 1) := by decide +kernel
theorem d7_inWait_53 : decode cX7_inWait 53 = .ok (.i2l, 1) := by decide +kernel
theorem d7_inWait_54 : decode cX7_inWait 54 = .ok (.invokestatic 113, 3) := by decide +kernel
theorem d7_inWait_57 : decode cX7_inWait 57 = .ok (.ifCond .eq 7, 3) := by decide +kernel
theorem d7_inWait_60 : decode cX7_inWait 60 = .ok (.iconst 1, 1) := by decide +kernel
theorem d7_inWait_61 : decode cX7_inWait 61 = .ok (.goto 4, 3) := by decide +kernel
theorem d7_inWait_64 : decode cX7_inWait 64 = .ok (.iconst 0, 1) := by decide +kernel
theorem d7_inWait_65 : decode cX7_inWait 65 = .ok (.istore_n 2, 1) := by decide +kernel
theorem d7_inWait_66 : decode cX7_inWait 66 = .ok (.iinc 3 1, 3) := by decide +kernel
theorem d7_inWait_69 : decode cX7_inWait 69 = .ok (.goto (-65), 3) := by decide +kernel
theorem d7_inWait_72 : decode cX7_inWait 72 = .ok (.iload_n 2, 1) := by decide +kernel
theorem d7_inWait_73 : decode cX7_inWait 73 = .ok (.ireturn, 1) := by decide +kernel
def f7_inWait_b4 (σ : Mem) : Nat → Int32 → Int32 → Int32 → Option Int32
  | 0, _, _, _ => none
  | n + 1, x1, x2, x3 => if (σ 3 0) ≤ x3 then if x2 = 0 ∨ x2 = 1 then some x2 else none else if x2 = 0 then if ¬ (x3 < 0 ∨ 12 ≤ x3.toNatClampNeg) then if (σ 5 x3.toNatClampNeg) = 2 then f7_inWait_b4 σ n x1 0 (x3 + 1) else Option.bind (f7_hasPassed σ x3 x1) fun r5 => if r5 = 0 then if ¬ (x3 < 0 ∨ 12 ≤ x3.toNatClampNeg) then Option.bind (f7_in ((6 * (σ 4 x3.toNatClampNeg)).toInt64) x1.toInt64 ((x1 + 24).toInt64)) fun r8 => if r8 = 0 then f7_inWait_b4 σ n x1 0 (x3 + 1) else f7_inWait_b4 σ n x1 1 (x3 + 1) else none else f7_inWait_b4 σ n x1 0 (x3 + 1) else none else f7_inWait_b4 σ n x1 1 (x3 + 1)
set_option maxHeartbeats 4000000 in
set_option maxRecDepth 100000 in
theorem t7_inWait_b4 {p : Program} {l : Launch} {e : Env} {s : State} {m : MethodId} {args : Array Value} {below : List Frame} {meth : Method} {c : Code} {w : WV} {σ : Mem} {r : Int32} (S : CallFix p m c cX7_inWait 4 s args gtbl RX7) (hr : meth.sig.returnType = (some .boolean)) (hlk : meth.locks = false) (hK : KS LM w s) (hR : Rp EM LM w σ s.heap) : ∀ (n : Nat), ∀ (x1 : Int32) (x2 : Int32) (x3 : Int32), f7_inWait_b4 σ n x1 x2 x3 = some r → ∀ (ls : Array Slot), lv_has ls 4 [(0, .ref (w.2.2 0)), (1, .int x1), (2, .int x2), (3, .int x3)] → W p l e rm7_inWait s m args below meth c s.heap [] 0 0 (MQ below (Qp (.int r)) args s 0 0 (fun _ => False)) (F0 m 4 ls []) := by
  obtain ⟨hx, hb, hml, hown, hts⟩ := id S
  intro n
  induction n with
  | zero =>
    intro x1 x2 x3 h0
    cases (show none = _ from h0)
  | succ n ih =>
    intro x1 x2 x3 h0 ls hl
    rw [f7_inWait_b4] at h0
    refine lv_iload_n hx hb d7_inWait_4 rfl (lv_at hl 3 rfl) ?_
    refine lv_aload_n hx hb d7_inWait_5 rfl (lv_at hl 0 rfl) ?_
    refine g7_13 S hK hR d7_inWait_6 ?_
    refine lv_iconst (v := 0) hx hb d7_inWait_9 (by decide) ?_
    refine q_ld (k := 0) S hK hR (by decide) (eM_102 w _) (vin (by decide)) (by decide) d7_inWait_10 ?_
    refine lv_icmp_ge (tgt := 72) hx hb d7_inWait_11 (by decide) (fun hc1 => ?_) (fun hc1 => ?_)
    · have h0 := og_t hc1 h0
      refine lv_iload_n hx hb d7_inWait_72 rfl (lv_at hl 2 rfl) ?_
      obtain ⟨hb0, h0⟩ := og_if h0
      exact q_zpure S hr hlk hb0 h0 d7_inWait_73
    · have h0 := og_f hc1 h0
      refine lv_iload_n hx hb d7_inWait_14 rfl (lv_at hl 2 rfl) ?_
      refine lv_if_ne (tgt := 60) hx hb d7_inWait_15 (by decide) (fun hc2 => ?_) (fun hc2 => ?_)
      · have h0 := og_f hc2 h0
        refine lv_iconst (v := 1) hx hb d7_inWait_60 (by decide) ?_
        refine lv_goto (tgt := 65) hx hb d7_inWait_61 (by decide) ?_
        refine lv_istore_n (lv' := [(2, .int 1), (0, .ref (w.2.2 0)), (1, .int x1), (3, .int x3)]) hx hb d7_inWait_65 rfl hl (by decide) rfl (fun ls hl => ?_)
        refine lv_iinc (v := x3 + 1) (lv' := [(3, .int (x3 + 1)), (2, .int 1), (0, .ref (w.2.2 0)), (1, .int x1)]) hx hb d7_inWait_66 hl (k := 3) rfl (ii1 _) (by decide) rfl (fun ls hl => ?_)
        refine lv_goto (tgt := 4) hx hb d7_inWait_69 (by decide) ?_
        exact ih x1 1 (x3 + 1) h0 _ (lv_sub hl [2, 3, 1, 0] rfl)
      · have h0 := og_t hc2 h0
        refine lv_aload_n hx hb d7_inWait_18 rfl (lv_at hl 0 rfl) ?_
        refine g7_19 S hK hR d7_inWait_19 ?_
        refine lv_iload_n hx hb d7_inWait_22 rfl (lv_at hl 3 rfl) ?_
        obtain ⟨hi3, h0⟩ := og_if h0
        refine q_ld (k := x3.toNatClampNeg) S hK hR (by decide) (eM_104 w _) hi3 rfl d7_inWait_23 ?_
        refine lv_iconst (v := 2) hx hb d7_inWait_24 (by decide) ?_
        refine lv_icmp_eq (tgt := 64) hx hb d7_inWait_25 (by decide) (fun hc4 => ?_) (fun hc4 => ?_)
        · have h0 := og_t hc4 h0
          refine lv_iconst (v := 0) hx hb d7_inWait_64 (by decide) ?_
          refine lv_istore_n (lv' := [(2, .int 0), (0, .ref (w.2.2 0)), (1, .int x1), (3, .int x3)]) hx hb d7_inWait_65 rfl hl (by decide) rfl (fun ls hl => ?_)
          refine lv_iinc (v := x3 + 1) (lv' := [(3, .int (x3 + 1)), (2, .int 0), (0, .ref (w.2.2 0)), (1, .int x1)]) hx hb d7_inWait_66 hl (k := 3) rfl (ii1 _) (by decide) rfl (fun ls hl => ?_)
          refine lv_goto (tgt := 4) hx hb d7_inWait_69 (by decide) ?_
          exact ih x1 0 (x3 + 1) h0 _ (lv_sub hl [2, 3, 1, 0] rfl)
        · have h0 := og_f hc4 h0
          refine lv_aload_n hx hb d7_inWait_28 rfl (lv_at hl 0 rfl) ?_
          refine lv_iload_n hx hb d7_inWait_29 rfl (lv_at hl 3 rfl) ?_
          refine lv_iload_n hx hb d7_inWait_30 rfl (lv_at hl 1 rfl) ?_
          obtain ⟨r5, hr5, h0⟩ := og_b h0
          refine k7_195 S hK hR  hr5 ⟨Nat.zero_le _, Nat.zero_le _⟩ ⟨Nat.le_of_ble_eq_true rfl, Nat.le_of_ble_eq_true rfl⟩ hl.1 (Nat.le_of_ble_eq_true rfl) d7_inWait_31 ?_
          refine lv_if_ne (tgt := 64) hx hb d7_inWait_34 (by decide) (fun hc6 => ?_) (fun hc6 => ?_)
          · have h0 := og_f hc6 h0
            refine lv_iconst (v := 0) hx hb d7_inWait_64 (by decide) ?_
            refine lv_istore_n (lv' := [(2, .int 0), (0, .ref (w.2.2 0)), (1, .int x1), (3, .int x3)]) hx hb d7_inWait_65 rfl hl (by decide) rfl (fun ls hl => ?_)
            refine lv_iinc (v := x3 + 1) (lv' := [(3, .int (x3 + 1)), (2, .int 0), (0, .ref (w.2.2 0)), (1, .int x1)]) hx hb d7_inWait_66 hl (k := 3) rfl (ii1 _) (by decide) rfl (fun ls hl => ?_)
            refine lv_goto (tgt := 4) hx hb d7_inWait_69 (by decide) ?_
            exact ih x1 0 (x3 + 1) h0 _ (lv_sub hl [2, 3, 1, 0] rfl)
          · have h0 := og_t hc6 h0
            refine lv_bipush (v := 6) hx hb d7_inWait_37 (by decide) ?_
            refine lv_aload_n hx hb d7_inWait_39 rfl (lv_at hl 0 rfl) ?_
            refine g7_16 S hK hR d7_inWait_40 ?_
            refine lv_iload_n hx hb d7_inWait_43 rfl (lv_at hl 3 rfl) ?_
            obtain ⟨hi7, h0⟩ := og_if h0
            refine q_ld (k := x3.toNatClampNeg) S hK hR (by decide) (eM_103 w _) hi7 rfl d7_inWait_44 ?_
            refine lv_imul hx hb d7_inWait_45 ?_
            refine lv_i2l hx hb d7_inWait_46 rfl ?_
            refine lv_iload_n hx hb d7_inWait_47 rfl (lv_at hl 1 rfl) ?_
            refine lv_i2l hx hb d7_inWait_48 rfl ?_
            refine lv_iload_n hx hb d7_inWait_49 rfl (lv_at hl 1 rfl) ?_
            refine lv_bipush (v := 24) hx hb d7_inWait_50 (by decide) ?_
            refine lv_iadd hx hb d7_inWait_52 ?_
            refine lv_i2l hx hb d7_inWait_53 rfl ?_
            obtain ⟨r8, hr8, h0⟩ := og_b h0
            refine k7_113 S  hr8 ⟨Nat.zero_le _, Nat.zero_le _⟩ ⟨Nat.le_of_ble_eq_true rfl, Nat.le_of_ble_eq_true rfl⟩ hl.1 (Nat.le_of_ble_eq_true rfl) d7_inWait_54 ?_
            refine lv_if_eq (tgt := 64) hx hb d7_inWait_57 (by decide) (fun hc9 => ?_) (fun hc9 => ?_)
            · have h0 := og_t hc9 h0
              refine lv_iconst (v := 0) hx hb d7_inWait_64 (by decide) ?_
              refine lv_istore_n (lv' := [(2, .int 0), (0, .ref (w.2.2 0)), (1, .int x1), (3, .int x3)]) hx hb d7_inWait_65 rfl hl (by decide) rfl (fun ls hl => ?_)
              refine lv_iinc (v := x3 + 1) (lv' := [(3, .int (x3 + 1)), (2, .int 0), (0, .ref (w.2.2 0)), (1, .int x1)]) hx hb d7_inWait_66 hl (k := 3) rfl (ii1 _) (by decide) rfl (fun ls hl => ?_)
              refine lv_goto (tgt := 4) hx hb d7_inWait_69 (by decide) ?_
              exact ih x1 0 (x3 + 1) h0 _ (lv_sub hl [2, 3, 1, 0] rfl)
            · have h0 := og_f hc9 h0
              refine lv_iconst (v := 1) hx hb d7_inWait_60 (by decide) ?_
              refine lv_goto (tgt := 65) hx hb d7_inWait_61 (by decide) ?_
              refine lv_istore_n (lv' := [(2, .int 1), (0, .ref (w.2.2 0)), (1, .int x1), (3, .int x3)]) hx hb d7_inWait_65 rfl hl (by decide) rfl (fun ls hl => ?_)
              refine lv_iinc (v := x3 + 1) (lv' := [(3, .int (x3 + 1)), (2, .int 1), (0, .ref (w.2.2 0)), (1, .int x1)]) hx hb d7_inWait_66 hl (k := 3) rfl (ii1 _) (by decide) rfl (fun ls hl => ?_)
              refine lv_goto (tgt := 4) hx hb d7_inWait_69 (by decide) ?_
              exact ih x1 1 (x3 + 1) h0 _ (lv_sub hl [2, 3, 1, 0] rfl)
def f7_inWait (σ : Mem) (x1 : Int32) : Option Int32 := f7_inWait_b4 σ 1000 x1 0 0
set_option maxHeartbeats 4000000 in
set_option maxRecDepth 100000 in
theorem c7_inWait (l : Launch) {w : WV} {σ : Mem} {x1 : Int32} {r : Int32} (h0 : f7_inWait σ x1 = some r) : Met l yX7_inWait (wy yX7_inWait cX7_inWait 4 (some .boolean)) rm7_inWait (Pw EM LM w [.ref (w.2.2 0), .int x1] σ) (Qp (.int r)) 0 0 (fun _ => False) := by
  refine mk_met (by decide) (Nat.le_of_ble_eq_true rfl) ?_
  intro p e s m below meth c S hr hlk hK hR ls hl
  obtain ⟨hx, hb, hml, hown, hts⟩ := id S
  have hl : lv_has ls 4 [(0, .ref (w.2.2 0)), (1, .int x1)] := hl
  unfold f7_inWait at h0
  refine lv_iconst (v := 0) hx hb d7_inWait_0 (by decide) ?_
  refine lv_istore_n (lv' := [(2, .int 0), (0, .ref (w.2.2 0)), (1, .int x1)]) hx hb d7_inWait_1 rfl hl (by decide) rfl (fun ls hl => ?_)
  refine lv_iconst (v := 0) hx hb d7_inWait_2 (by decide) ?_
  refine lv_istore_n (lv' := [(3, .int 0), (2, .int 0), (0, .ref (w.2.2 0)), (1, .int x1)]) hx hb d7_inWait_3 rfl hl (by decide) rfl (fun ls hl => ?_)
  exact t7_inWait_b4 S hr hlk hK hR 1000 x1 0 0 h0 _ (lv_sub hl [2, 3, 1, 0] rfl)
set_option maxHeartbeats 4000000 in
set_option maxRecDepth 100000 in
theorem k7_211 {p : Program} {l : Launch} {e : Env} {R : Room} {s : State} {m : MethodId} {args : Array Value} {below : List Frame} {meth : Method} {c : Code} {H : Heap} {locs : List Loc} {cells slots : Nat} {Q : State → Prop} {cc : ByteArray} {pc nL : Nat} {ls : Array Slot} {rest : List Value} {w : WV} {σ : Mem} {x1 : Int32} {r : Int32} (S : CallFix p m c cc nL s args gtbl RX7) (hK : KS LM w s) (hR : Rp EM LM w σ H) (h0 : f7_inWait σ x1 = some r) (hf : cells + 0 ≤ R.cells ∧ slots + 0 ≤ R.slots) (hRm : rm7_inWait.frames + 1 ≤ R.frames ∧ 8 + (4 + 11) + rm7_inWait.locals ≤ R.locals) (hl : ls.size = nL) (hW : (rest.map fun v => v.category).sum ≤ 8) (hdg : decode cc pc = .ok (.invokevirtual 211, 3)) (kk : W p l e R s m args below meth c H locs cells slots Q (F0 m (pc + 3) ls (.int r :: rest))) : W p l e R s m args below meth c H locs cells slots Q (F0 m pc ls (.int x1 :: .ref (w.2.2 0) :: rest)) := r_endp (run_V (n := 1) (As := [.int x1]) S hK hR (by decide) (eM_7 w _) rfl (gw_V (gt_at 1147 (by decide +kernel) (by decide +kernel)) (gt_at 1149 (by decide +kernel) (by decide +kernel)) (gt_at 63 (by decide +kernel) (by decide +kernel)) (gt_at 86 (by decide +kernel) (by decide +kernel)) (gt_at 1150 (by decide +kernel) (by decide +kernel))) (by decide +kernel) rfl (c7_inWait l h0) ⟨rfl, rfl⟩ hRm hf hl rfl hW hdg) kk
/-! FourTenGatesModel.inLead(II)Z -/
abbrev rm7_inLead : Room := { frames := 1, cells := 0, slots := 0, locals := 22 }
theorem d7_inLead_0 : decode cX7_inLead 0 = .ok (.iconst 0, 1) := by decide +kernel
theorem d7_inLead_1 : decode cX7_inLead 1 = .ok (.istore_n 3, 1) := by decide +kernel
theorem d7_inLead_2 : decode cX7_inLead 2 = .ok (.iconst 0, 1) := by decide +kernel
theorem d7_inLead_3 : decode cX7_inLead 3 = .ok (.istore 4, 2) := by decide +kernel
theorem d7_inLead_5 : decode cX7_inLead 5 = .ok (.iload 4, 2) := by decide +kernel
theorem d7_inLead_7 : decode cX7_inLead 7 = .ok (.aload_n 0, 1) := by decide +kernel
theorem d7_inLead_8 : decode cX7_inLead 8 = .ok (.getfield 13, 3) := by decide +kernel
theorem d7_inLead_11 : decode cX7_inLead 11 = .ok (.iconst 0, 1) := by decide +kernel
theorem d7_inLead_12 : decode cX7_inLead 12 = .ok (.iaload, 1) := by decide +kernel
theorem d7_inLead_13 : decode cX7_inLead 13 = .ok (.if_icmp .ge 41, 3) := by decide +kernel
theorem d7_inLead_16 : decode cX7_inLead 16 = .ok (.iload_n 3, 1) := by decide +kernel
theorem d7_inLead_17 : decode cX7_inLead 17 = .ok (.ifCond .ne 25, 3) := by decide +kernel
theorem d7_inLead_20 : decode cX7_inLead 20 = .ok (.aload_n 0, 1) := by decide +kernel
theorem d7_inLead_21 : decode cX7_inLead 21 = .ok (.iload 4, 2) := by decide +kernel
theorem d7_inLead_23 : decode cX7_inLead 23 = .ok (.invokevirtual 170, 3) := by decide +kernel
theorem d7_inLead_26 : decode cX7_inLead 26 = .ok (.iload_n 2, 1) := by decide +kernel
theorem d7_inLead_27 : decode cX7_inLead 27 = .ok (.isub, 1) := by decide +kernel
theorem d7_inLead_28 : decode cX7_inLead 28 = .ok (.iload_n 1, 1) := by decide +kernel
theorem d7_inLead_29 : decode cX7_inLead 29 = .ok (.if_icmp .gt 17, 3) := by decide +kernel
theorem d7_inLead_32 : decode cX7_inLead 32 = .ok (.aload_n 0, 1) := by decide +kernel
theorem d7_inLead_33 : decode cX7_inLead 33 = .ok (.iload 4, 2) := by decide +kernel
theorem d7_inLead_35 : decode cX7_inLead 35 = .ok (.iload_n 1, 1) := by decide +kernel
theorem d7_inLead_36 : decode cX7_inLead 36 = .ok (.invokevirtual 195, 3) := by decide +kernel
theorem d7_inLead_39 : decode cX7_inLead 39 = .ok (.ifCond .ne 7, 3) := by decide +kernel
theorem d7_inLead_42 : decode cX7_inLead 42 = .ok (.iconst 1, 1) := by decide +kernel
theorem d7_inLead_43 : decode cX7_inLead 43 = .ok (.goto 4, 3) := by decide +kernel
theorem d7_inLead_46 : decode cX7_inLead 46 = .ok (.iconst 0, 1) := by decide +kernel
theorem d7_inLead_47 : decode cX7_inLead 47 = .ok (.istore_n 3, 1) := by decide +kernel
theorem d7_inLead_48 : decode cX7_inLead 48 = .ok (.iinc 4 1, 3) := by decide +kernel
theorem d7_inLead_51 : decode cX7_inLead 51 = .ok (.goto (-46), 3) := by decide +kernel
theorem d7_inLead_54 : decode cX7_inLead 54 = .ok (.iload_n 3, 1) := by decide +kernel
theorem d7_inLead_55 : decode cX7_inLead 55 = .ok (.ireturn, 1) := by decide +kernel
def f7_inLead_b5 (σ : Mem) : Nat → Int32 → Int32 → Int32 → Int32 → Option Int32
  | 0, _, _, _, _ => none
  | n + 1, x1, x2, x3, x4 => if (σ 3 0) ≤ x4 then if x3 = 0 ∨ x3 = 1 then some x3 else none else if x3 = 0 then Option.bind (f7_comesAt σ x4) fun r3 => if x1 < (r3 - x2) then f7_inLead_b5 σ n x1 x2 0 (x4 + 1) else Option.bind (f7_hasPassed σ x4 x1) fun r5 => if r5 = 0 then f7_inLead_b5 σ n x1 x2 1 (x4 + 1) else f7_inLead_b5 σ n x1 x2 0 (x4 + 1) else f7_inLead_b5 σ n x1 x2 1 (x4 + 1)
set_option maxHeartbeats 4000000 in
set_option maxRecDepth 100000 in
theorem t7_inLead_b5 {p : Program} {l : Launch} {e : Env} {s : State} {m : MethodId} {args : Array Value} {below : List Frame} {meth : Method} {c : Code} {w : WV} {σ : Mem} {r : Int32} (S : CallFix p m c cX7_inLead 5 s args gtbl RX7) (hr : meth.sig.returnType = (some .boolean)) (hlk : meth.locks = false) (hK : KS LM w s) (hR : Rp EM LM w σ s.heap) : ∀ (n : Nat), ∀ (x1 : Int32) (x2 : Int32) (x3 : Int32) (x4 : Int32), f7_inLead_b5 σ n x1 x2 x3 x4 = some r → ∀ (ls : Array Slot), lv_has ls 5 [(0, .ref (w.2.2 0)), (1, .int x1), (2, .int x2), (3, .int x3), (4, .int x4)] → W p l e rm7_inLead s m args below meth c s.heap [] 0 0 (MQ below (Qp (.int r)) args s 0 0 (fun _ => False)) (F0 m 5 ls []) := by
  obtain ⟨hx, hb, hml, hown, hts⟩ := id S
  intro n
  induction n with
  | zero =>
    intro x1 x2 x3 x4 h0
    cases (show none = _ from h0)
  | succ n ih =>
    intro x1 x2 x3 x4 h0 ls hl
    rw [f7_inLead_b5] at h0
    refine lv_iload hx hb d7_inLead_5 (lv_at hl 4 rfl) ?_
    refine lv_aload_n hx hb d7_inLead_7 rfl (lv_at hl 0 rfl) ?_
    refine g7_13 S hK hR d7_inLead_8 ?_
    refine lv_iconst (v := 0) hx hb d7_inLead_11 (by decide) ?_
    refine q_ld (k := 0) S hK hR (by decide) (eM_102 w _) (vin (by decide)) (by decide) d7_inLead_12 ?_
    refine lv_icmp_ge (tgt := 54) hx hb d7_inLead_13 (by decide) (fun hc1 => ?_) (fun hc1 => ?_)
    · have h0 := og_t hc1 h0
      refine lv_iload_n hx hb d7_inLead_54 rfl (lv_at hl 3 rfl) ?_
      obtain ⟨hb0, h0⟩ := og_if h0
      exact q_zpure S hr hlk hb0 h0 d7_inLead_55
    · have h0 := og_f hc1 h0
      refine lv_iload_n hx hb d7_inLead_16 rfl (lv_at hl 3 rfl) ?_
      refine lv_if_ne (tgt := 42) hx hb d7_inLead_17 (by decide) (fun hc2 => ?_) (fun hc2 => ?_)
      · have h0 := og_f hc2 h0
        refine lv_iconst (v := 1) hx hb d7_inLead_42 (by decide) ?_
        refine lv_goto (tgt := 47) hx hb d7_inLead_43 (by decide) ?_
        refine lv_istore_n (lv' := [(3, .int 1), (0, .ref (w.2.2 0)), (1, .int x1), (2, .int x2), (4, .int x4)]) hx hb d7_inLead_47 rfl hl (by decide) rfl (fun ls hl => ?_)
        refine lv_iinc (v := x4 + 1) (lv' := [(4, .int (x4 + 1)), (3, .int 1), (0, .ref (w.2.2 0)), (1, .int x1), (2, .int x2)]) hx hb d7_inLead_48 hl (k := 4) rfl (ii1 _) (by decide) rfl (fun ls hl => ?_)
        refine lv_goto (tgt := 5) hx hb d7_inLead_51 (by decide) ?_
        exact ih x1 x2 1 (x4 + 1) h0 _ (lv_sub hl [2, 3, 4, 1, 0] rfl)
      · have h0 := og_t hc2 h0
        refine lv_aload_n hx hb d7_inLead_20 rfl (lv_at hl 0 rfl) ?_
        refine lv_iload hx hb d7_inLead_21 (lv_at hl 4 rfl) ?_
        obtain ⟨r3, hr3, h0⟩ := og_b h0
        refine k7_170 S hK hR  hr3 ⟨Nat.zero_le _, Nat.zero_le _⟩ ⟨Nat.le_of_ble_eq_true rfl, Nat.le_of_ble_eq_true rfl⟩ hl.1 (Nat.le_of_ble_eq_true rfl) d7_inLead_23 ?_
        refine lv_iload_n hx hb d7_inLead_26 rfl (lv_at hl 2 rfl) ?_
        refine lv_isub hx hb d7_inLead_27 ?_
        refine lv_iload_n hx hb d7_inLead_28 rfl (lv_at hl 1 rfl) ?_
        refine lv_icmp_gt (tgt := 46) hx hb d7_inLead_29 (by decide) (fun hc4 => ?_) (fun hc4 => ?_)
        · have h0 := og_t hc4 h0
          refine lv_iconst (v := 0) hx hb d7_inLead_46 (by decide) ?_
          refine lv_istore_n (lv' := [(3, .int 0), (0, .ref (w.2.2 0)), (1, .int x1), (2, .int x2), (4, .int x4)]) hx hb d7_inLead_47 rfl hl (by decide) rfl (fun ls hl => ?_)
          refine lv_iinc (v := x4 + 1) (lv' := [(4, .int (x4 + 1)), (3, .int 0), (0, .ref (w.2.2 0)), (1, .int x1), (2, .int x2)]) hx hb d7_inLead_48 hl (k := 4) rfl (ii1 _) (by decide) rfl (fun ls hl => ?_)
          refine lv_goto (tgt := 5) hx hb d7_inLead_51 (by decide) ?_
          exact ih x1 x2 0 (x4 + 1) h0 _ (lv_sub hl [2, 3, 4, 1, 0] rfl)
        · have h0 := og_f hc4 h0
          refine lv_aload_n hx hb d7_inLead_32 rfl (lv_at hl 0 rfl) ?_
          refine lv_iload hx hb d7_inLead_33 (lv_at hl 4 rfl) ?_
          refine lv_iload_n hx hb d7_inLead_35 rfl (lv_at hl 1 rfl) ?_
          obtain ⟨r5, hr5, h0⟩ := og_b h0
          refine k7_195 S hK hR  hr5 ⟨Nat.zero_le _, Nat.zero_le _⟩ ⟨Nat.le_of_ble_eq_true rfl, Nat.le_of_ble_eq_true rfl⟩ hl.1 (Nat.le_of_ble_eq_true rfl) d7_inLead_36 ?_
          refine lv_if_ne (tgt := 46) hx hb d7_inLead_39 (by decide) (fun hc6 => ?_) (fun hc6 => ?_)
          · have h0 := og_f hc6 h0
            refine lv_iconst (v := 0) hx hb d7_inLead_46 (by decide) ?_
            refine lv_istore_n (lv' := [(3, .int 0), (0, .ref (w.2.2 0)), (1, .int x1), (2, .int x2), (4, .int x4)]) hx hb d7_inLead_47 rfl hl (by decide) rfl (fun ls hl => ?_)
            refine lv_iinc (v := x4 + 1) (lv' := [(4, .int (x4 + 1)), (3, .int 0), (0, .ref (w.2.2 0)), (1, .int x1), (2, .int x2)]) hx hb d7_inLead_48 hl (k := 4) rfl (ii1 _) (by decide) rfl (fun ls hl => ?_)
            refine lv_goto (tgt := 5) hx hb d7_inLead_51 (by decide) ?_
            exact ih x1 x2 0 (x4 + 1) h0 _ (lv_sub hl [2, 3, 4, 1, 0] rfl)
          · have h0 := og_t hc6 h0
            refine lv_iconst (v := 1) hx hb d7_inLead_42 (by decide) ?_
            refine lv_goto (tgt := 47) hx hb d7_inLead_43 (by decide) ?_
            refine lv_istore_n (lv' := [(3, .int 1), (0, .ref (w.2.2 0)), (1, .int x1), (2, .int x2), (4, .int x4)]) hx hb d7_inLead_47 rfl hl (by decide) rfl (fun ls hl => ?_)
            refine lv_iinc (v := x4 + 1) (lv' := [(4, .int (x4 + 1)), (3, .int 1), (0, .ref (w.2.2 0)), (1, .int x1), (2, .int x2)]) hx hb d7_inLead_48 hl (k := 4) rfl (ii1 _) (by decide) rfl (fun ls hl => ?_)
            refine lv_goto (tgt := 5) hx hb d7_inLead_51 (by decide) ?_
            exact ih x1 x2 1 (x4 + 1) h0 _ (lv_sub hl [2, 3, 4, 1, 0] rfl)
def f7_inLead (σ : Mem) (x1 : Int32) (x2 : Int32) : Option Int32 := f7_inLead_b5 σ 1000 x1 x2 0 0
set_option maxHeartbeats 4000000 in
set_option maxRecDepth 100000 in
theorem c7_inLead (l : Launch) {w : WV} {σ : Mem} {x1 : Int32} {x2 : Int32} {r : Int32} (h0 : f7_inLead σ x1 x2 = some r) : Met l yX7_inLead (wy yX7_inLead cX7_inLead 5 (some .boolean)) rm7_inLead (Pw EM LM w [.ref (w.2.2 0), .int x1, .int x2] σ) (Qp (.int r)) 0 0 (fun _ => False) := by
  refine mk_met (by decide) (Nat.le_of_ble_eq_true rfl) ?_
  intro p e s m below meth c S hr hlk hK hR ls hl
  obtain ⟨hx, hb, hml, hown, hts⟩ := id S
  have hl : lv_has ls 5 [(0, .ref (w.2.2 0)), (1, .int x1), (2, .int x2)] := hl
  unfold f7_inLead at h0
  refine lv_iconst (v := 0) hx hb d7_inLead_0 (by decide) ?_
  refine lv_istore_n (lv' := [(3, .int 0), (0, .ref (w.2.2 0)), (1, .int x1), (2, .int x2)]) hx hb d7_inLead_1 rfl hl (by decide) rfl (fun ls hl => ?_)
  refine lv_iconst (v := 0) hx hb d7_inLead_2 (by decide) ?_
  refine lv_istore (lv' := [(4, .int 0), (3, .int 0), (0, .ref (w.2.2 0)), (1, .int x1), (2, .int x2)]) hx hb d7_inLead_3 hl (by decide) rfl (fun ls hl => ?_)
  exact t7_inLead_b5 S hr hlk hK hR 1000 x1 x2 0 0 h0 _ (lv_sub hl [2, 3, 4, 1, 0] rfl)
set_option maxHeartbeats 4000000 in
set_option maxRecDepth 100000 in
theorem k7_214 {p : Program} {l : Launch} {e : Env} {R : Room} {s : State} {m : MethodId} {args : Array Value} {below : List Frame} {meth : Method} {c : Code} {H : Heap} {locs : List Loc} {cells slots : Nat} {Q : State → Prop} {cc : ByteArray} {pc nL : Nat} {ls : Array Slot} {rest : List Value} {w : WV} {σ : Mem} {x1 : Int32} {x2 : Int32} {r : Int32} (S : CallFix p m c cc nL s args gtbl RX7) (hK : KS LM w s) (hR : Rp EM LM w σ H) (h0 : f7_inLead σ x1 x2 = some r) (hf : cells + 0 ≤ R.cells ∧ slots + 0 ≤ R.slots) (hRm : rm7_inLead.frames + 1 ≤ R.frames ∧ 8 + (5 + 11) + rm7_inLead.locals ≤ R.locals) (hl : ls.size = nL) (hW : (rest.map fun v => v.category).sum ≤ 8) (hdg : decode cc pc = .ok (.invokevirtual 214, 3)) (kk : W p l e R s m args below meth c H locs cells slots Q (F0 m (pc + 3) ls (.int r :: rest))) : W p l e R s m args below meth c H locs cells slots Q (F0 m pc ls (.int x2 :: .int x1 :: .ref (w.2.2 0) :: rest)) := r_endp (run_V (n := 2) (As := [.int x1, .int x2]) S hK hR (by decide) (eM_7 w _) rfl (gw_V (gt_at 1151 (by decide +kernel) (by decide +kernel)) (gt_at 1153 (by decide +kernel) (by decide +kernel)) (gt_at 64 (by decide +kernel) (by decide +kernel)) (gt_at 86 (by decide +kernel) (by decide +kernel)) (gt_at 1154 (by decide +kernel) (by decide +kernel))) (by decide +kernel) rfl (c7_inLead l h0) ⟨rfl, rfl⟩ hRm hf hl rfl hW hdg) kk
/-! FourTenGatesModel.wantsShut(III)Z -/
abbrev rm7_wantsShut : Room := { frames := 3, cells := 0, slots := 0, locals := 67 }
theorem d7_wantsShut_0 : decode cX7_wantsShut 0 = .ok (.iload_n 1, 1) := by decide +kernel
theorem d7_wantsShut_1 : decode cX7_wantsShut 1 = .ok (.tableswitch 79 0 3 #[31, 37, 43, 49], 31) := by decide +kernel
theorem d7_wantsShut_32 : decode cX7_wantsShut 32 = .ok (.aload_n 0, 1) := by decide +kernel
theorem d7_wantsShut_33 : decode cX7_wantsShut 33 = .ok (.iload_n 3, 1) := by decide +kernel
theorem d7_wantsShut_34 : decode cX7_wantsShut 34 = .ok (.invokevirtual 202, 3) := by decide +kernel
theorem d7_wantsShut_37 : decode cX7_wantsShut 37 = .ok (.ireturn, 1) := by decide +kernel
theorem d7_wantsShut_38 : decode cX7_wantsShut 38 = .ok (.aload_n 0, 1) := by decide +kernel
theorem d7_wantsShut_39 : decode cX7_wantsShut 39 = .ok (.iload_n 3, 1) := by decide +kernel
theorem d7_wantsShut_40 : decode cX7_wantsShut 40 = .ok (.invokevirtual 205, 3) := by decide +kernel
theorem d7_wantsShut_43 : decode cX7_wantsShut 43 = .ok (.ireturn, 1) := by decide +kernel
theorem d7_wantsShut_44 : decode cX7_wantsShut 44 = .ok (.aload_n 0, 1) := by decide +kernel
theorem d7_wantsShut_45 : decode cX7_wantsShut 45 = .ok (.iload_n 3, 1) := by decide +kernel
theorem d7_wantsShut_46 : decode cX7_wantsShut 46 = .ok (.invokevirtual 208, 3) := by decide +kernel
theorem d7_wantsShut_49 : decode cX7_wantsShut 49 = .ok (.ireturn, 1) := by decide +kernel
theorem d7_wantsShut_50 : decode cX7_wantsShut 50 = .ok (.aload_n 0, 1) := by decide +kernel
theorem d7_wantsShut_51 : decode cX7_wantsShut 51 = .ok (.iload_n 3, 1) := by decide +kernel
theorem d7_wantsShut_52 : decode cX7_wantsShut 52 = .ok (.invokevirtual 205, 3) := by decide +kernel
theorem d7_wantsShut_55 : decode cX7_wantsShut 55 = .ok (.ifCond .ne 19, 3) := by decide +kernel
theorem d7_wantsShut_58 : decode cX7_wantsShut 58 = .ok (.aload_n 0, 1) := by decide +kernel
theorem d7_wantsShut_59 : decode cX7_wantsShut 59 = .ok (.iload_n 3, 1) := by decide +kernel
theorem d7_wantsShut_60 : decode cX7_wantsShut 60 = .ok (.invokevirtual 208, 3) := by decide +kernel
theorem d7_wantsShut_63 : decode cX7_wantsShut 63 = .ok (.ifCond .ne 11, 3) := by decide +kernel
theorem d7_wantsShut_66 : decode cX7_wantsShut 66 = .ok (.aload_n 0, 1) := by decide +kernel
theorem d7_wantsShut_67 : decode cX7_wantsShut 67 = .ok (.iload_n 3, 1) := by decide +kernel
theorem d7_wantsShut_68 : decode cX7_wantsShut 68 = .ok (.invokevirtual 211, 3) := by decide +kernel
theorem d7_wantsShut_71 : decode cX7_wantsShut 71 = .ok (.ifCond .eq 7, 3) := by decide +kernel
theorem d7_wantsShut_74 : decode cX7_wantsShut 74 = .ok (.iconst 1, 1) := by decide +kernel
theorem d7_wantsShut_75 : decode cX7_wantsShut 75 = .ok (.goto 4, 3) := by decide +kernel
theorem d7_wantsShut_78 : decode cX7_wantsShut 78 = .ok (.iconst 0, 1) := by decide +kernel
theorem d7_wantsShut_79 : decode cX7_wantsShut 79 = .ok (.ireturn, 1) := by decide +kernel
theorem d7_wantsShut_80 : decode cX7_wantsShut 80 = .ok (.aload_n 0, 1) := by decide +kernel
theorem d7_wantsShut_81 : decode cX7_wantsShut 81 = .ok (.iload_n 3, 1) := by decide +kernel
theorem d7_wantsShut_82 : decode cX7_wantsShut 82 = .ok (.iload_n 2, 1) := by decide +kernel
theorem d7_wantsShut_83 : decode cX7_wantsShut 83 = .ok (.invokevirtual 214, 3) := by decide +kernel
theorem d7_wantsShut_86 : decode cX7_wantsShut 86 = .ok (.ireturn, 1) := by decide +kernel
def f7_wantsShut (σ : Mem) (x1 : Int32) (x2 : Int32) (x3 : Int32) : Option Int32 := if x1 = 0 then Option.bind (f7_inPlan σ x3) fun r2 => if r2 = 0 ∨ r2 = 1 then some r2 else none else if x1 = 1 then Option.bind (f7_inBell σ x3) fun r3 => if r3 = 0 ∨ r3 = 1 then some r3 else none else if x1 = 2 then Option.bind (f7_inSight σ x3) fun r4 => if r4 = 0 ∨ r4 = 1 then some r4 else none else if x1 = 3 then Option.bind (f7_inBell σ x3) fun r5 => if r5 = 0 then Option.bind (f7_inSight σ x3) fun r7 => if r7 = 0 then Option.bind (f7_inWait σ x3) fun r9 => if r9 = 0 then some 0 else some 1 else some 1 else some 1 else Option.bind (f7_inLead σ x3 x2) fun r5 => if r5 = 0 ∨ r5 = 1 then some r5 else none
set_option maxHeartbeats 4000000 in
set_option maxRecDepth 100000 in
theorem c7_wantsShut (l : Launch) {w : WV} {σ : Mem} {x1 : Int32} {x2 : Int32} {x3 : Int32} {r : Int32} (h0 : f7_wantsShut σ x1 x2 x3 = some r) : Met l yX7_wantsShut (wy yX7_wantsShut cX7_wantsShut 4 (some .boolean)) rm7_wantsShut (Pw EM LM w [.ref (w.2.2 0), .int x1, .int x2, .int x3] σ) (Qp (.int r)) 0 0 (fun _ => False) := by
  refine mk_met (by decide) (Nat.le_of_ble_eq_true rfl) ?_
  intro p e s m below meth c S hr hlk hK hR ls hl
  obtain ⟨hx, hb, hml, hown, hts⟩ := id S
  have hl : lv_has ls 4 [(0, .ref (w.2.2 0)), (1, .int x1), (2, .int x2), (3, .int x3)] := hl
  unfold f7_wantsShut at h0
  refine lv_iload_n hx hb d7_wantsShut_0 rfl (lv_at hl 1 rfl) ?_
  by_cases hc1 : x1 = 0
  · have h0 := og_t hc1 h0
    refine q_tabI (off := 31) (tgt := 32) S d7_wantsShut_1 hc1 (by decide) (by decide) (by decide) (by decide) ?_
    refine lv_aload_n hx hb d7_wantsShut_32 rfl (lv_at hl 0 rfl) ?_
    refine lv_iload_n hx hb d7_wantsShut_33 rfl (lv_at hl 3 rfl) ?_
    obtain ⟨r2, hr2, h0⟩ := og_b h0
    refine k7_202 S hK hR  hr2 ⟨Nat.zero_le _, Nat.zero_le _⟩ ⟨Nat.le_of_ble_eq_true rfl, Nat.le_of_ble_eq_true rfl⟩ hl.1 (Nat.le_of_ble_eq_true rfl) d7_wantsShut_34 ?_
    obtain ⟨hb0, h0⟩ := og_if h0
    exact q_zpure S hr hlk hb0 h0 d7_wantsShut_37
  · have h0 := og_f hc1 h0
    by_cases hc2 : x1 = 1
    · have h0 := og_t hc2 h0
      refine q_tabI (off := 37) (tgt := 38) S d7_wantsShut_1 hc2 (by decide) (by decide) (by decide) (by decide) ?_
      refine lv_aload_n hx hb d7_wantsShut_38 rfl (lv_at hl 0 rfl) ?_
      refine lv_iload_n hx hb d7_wantsShut_39 rfl (lv_at hl 3 rfl) ?_
      obtain ⟨r3, hr3, h0⟩ := og_b h0
      refine k7_205 S hK hR  hr3 ⟨Nat.zero_le _, Nat.zero_le _⟩ ⟨Nat.le_of_ble_eq_true rfl, Nat.le_of_ble_eq_true rfl⟩ hl.1 (Nat.le_of_ble_eq_true rfl) d7_wantsShut_40 ?_
      obtain ⟨hb0, h0⟩ := og_if h0
      exact q_zpure S hr hlk hb0 h0 d7_wantsShut_43
    · have h0 := og_f hc2 h0
      by_cases hc3 : x1 = 2
      · have h0 := og_t hc3 h0
        refine q_tabI (off := 43) (tgt := 44) S d7_wantsShut_1 hc3 (by decide) (by decide) (by decide) (by decide) ?_
        refine lv_aload_n hx hb d7_wantsShut_44 rfl (lv_at hl 0 rfl) ?_
        refine lv_iload_n hx hb d7_wantsShut_45 rfl (lv_at hl 3 rfl) ?_
        obtain ⟨r4, hr4, h0⟩ := og_b h0
        refine k7_208 S hK hR  hr4 ⟨Nat.zero_le _, Nat.zero_le _⟩ ⟨Nat.le_of_ble_eq_true rfl, Nat.le_of_ble_eq_true rfl⟩ hl.1 (Nat.le_of_ble_eq_true rfl) d7_wantsShut_46 ?_
        obtain ⟨hb0, h0⟩ := og_if h0
        exact q_zpure S hr hlk hb0 h0 d7_wantsShut_49
      · have h0 := og_f hc3 h0
        by_cases hc4 : x1 = 3
        · have h0 := og_t hc4 h0
          refine q_tabI (off := 49) (tgt := 50) S d7_wantsShut_1 hc4 (by decide) (by decide) (by decide) (by decide) ?_
          refine lv_aload_n hx hb d7_wantsShut_50 rfl (lv_at hl 0 rfl) ?_
          refine lv_iload_n hx hb d7_wantsShut_51 rfl (lv_at hl 3 rfl) ?_
          obtain ⟨r5, hr5, h0⟩ := og_b h0
          refine k7_205 S hK hR  hr5 ⟨Nat.zero_le _, Nat.zero_le _⟩ ⟨Nat.le_of_ble_eq_true rfl, Nat.le_of_ble_eq_true rfl⟩ hl.1 (Nat.le_of_ble_eq_true rfl) d7_wantsShut_52 ?_
          refine lv_if_ne (tgt := 74) hx hb d7_wantsShut_55 (by decide) (fun hc6 => ?_) (fun hc6 => ?_)
          · have h0 := og_f hc6 h0
            refine lv_iconst (v := 1) hx hb d7_wantsShut_74 (by decide) ?_
            refine lv_goto (tgt := 79) hx hb d7_wantsShut_75 (by decide) ?_
            exact q_zpure S hr hlk (Or.inr rfl) h0 d7_wantsShut_79
          · have h0 := og_t hc6 h0
            refine lv_aload_n hx hb d7_wantsShut_58 rfl (lv_at hl 0 rfl) ?_
            refine lv_iload_n hx hb d7_wantsShut_59 rfl (lv_at hl 3 rfl) ?_
            obtain ⟨r7, hr7, h0⟩ := og_b h0
            refine k7_208 S hK hR  hr7 ⟨Nat.zero_le _, Nat.zero_le _⟩ ⟨Nat.le_of_ble_eq_true rfl, Nat.le_of_ble_eq_true rfl⟩ hl.1 (Nat.le_of_ble_eq_true rfl) d7_wantsShut_60 ?_
            refine lv_if_ne (tgt := 74) hx hb d7_wantsShut_63 (by decide) (fun hc8 => ?_) (fun hc8 => ?_)
            · have h0 := og_f hc8 h0
              refine lv_iconst (v := 1) hx hb d7_wantsShut_74 (by decide) ?_
              refine lv_goto (tgt := 79) hx hb d7_wantsShut_75 (by decide) ?_
              exact q_zpure S hr hlk (Or.inr rfl) h0 d7_wantsShut_79
            · have h0 := og_t hc8 h0
              refine lv_aload_n hx hb d7_wantsShut_66 rfl (lv_at hl 0 rfl) ?_
              refine lv_iload_n hx hb d7_wantsShut_67 rfl (lv_at hl 3 rfl) ?_
              obtain ⟨r9, hr9, h0⟩ := og_b h0
              refine k7_211 S hK hR  hr9 ⟨Nat.zero_le _, Nat.zero_le _⟩ ⟨Nat.le_of_ble_eq_true rfl, Nat.le_of_ble_eq_true rfl⟩ hl.1 (Nat.le_of_ble_eq_true rfl) d7_wantsShut_68 ?_
              refine lv_if_eq (tgt := 78) hx hb d7_wantsShut_71 (by decide) (fun hc10 => ?_) (fun hc10 => ?_)
              · have h0 := og_t hc10 h0
                refine lv_iconst (v := 0) hx hb d7_wantsShut_78 (by decide) ?_
                exact q_zpure S hr hlk (Or.inl rfl) h0 d7_wantsShut_79
              · have h0 := og_f hc10 h0
                refine lv_iconst (v := 1) hx hb d7_wantsShut_74 (by decide) ?_
                refine lv_goto (tgt := 79) hx hb d7_wantsShut_75 (by decide) ?_
                exact q_zpure S hr hlk (Or.inr rfl) h0 d7_wantsShut_79
        · have h0 := og_f hc4 h0
          refine q_tabD (tgt := 80) S d7_wantsShut_1 [0, 1, 2, 3] (by decide) (by decide) (List.forall_mem_cons.mpr ⟨ne_toInt hc1 (by decide), List.forall_mem_cons.mpr ⟨ne_toInt hc2 (by decide), List.forall_mem_cons.mpr ⟨ne_toInt hc3 (by decide), List.forall_mem_cons.mpr ⟨ne_toInt hc4 (by decide), fun _ hq => absurd hq List.not_mem_nil⟩⟩⟩⟩) (by decide) ?_
          refine lv_aload_n hx hb d7_wantsShut_80 rfl (lv_at hl 0 rfl) ?_
          refine lv_iload_n hx hb d7_wantsShut_81 rfl (lv_at hl 3 rfl) ?_
          refine lv_iload_n hx hb d7_wantsShut_82 rfl (lv_at hl 2 rfl) ?_
          obtain ⟨r5, hr5, h0⟩ := og_b h0
          refine k7_214 S hK hR  hr5 ⟨Nat.zero_le _, Nat.zero_le _⟩ ⟨Nat.le_of_ble_eq_true rfl, Nat.le_of_ble_eq_true rfl⟩ hl.1 (Nat.le_of_ble_eq_true rfl) d7_wantsShut_83 ?_
          obtain ⟨hb0, h0⟩ := og_if h0
          exact q_zpure S hr hlk hb0 h0 d7_wantsShut_86
set_option maxHeartbeats 4000000 in
set_option maxRecDepth 100000 in
theorem k7_220 {p : Program} {l : Launch} {e : Env} {R : Room} {s : State} {m : MethodId} {args : Array Value} {below : List Frame} {meth : Method} {c : Code} {H : Heap} {locs : List Loc} {cells slots : Nat} {Q : State → Prop} {cc : ByteArray} {pc nL : Nat} {ls : Array Slot} {rest : List Value} {w : WV} {σ : Mem} {x1 : Int32} {x2 : Int32} {x3 : Int32} {r : Int32} (S : CallFix p m c cc nL s args gtbl RX7) (hK : KS LM w s) (hR : Rp EM LM w σ H) (h0 : f7_wantsShut σ x1 x2 x3 = some r) (hf : cells + 0 ≤ R.cells ∧ slots + 0 ≤ R.slots) (hRm : rm7_wantsShut.frames + 1 ≤ R.frames ∧ 8 + (4 + 11) + rm7_wantsShut.locals ≤ R.locals) (hl : ls.size = nL) (hW : (rest.map fun v => v.category).sum ≤ 8) (hdg : decode cc pc = .ok (.invokevirtual 220, 3)) (kk : W p l e R s m args below meth c H locs cells slots Q (F0 m (pc + 3) ls (.int r :: rest))) : W p l e R s m args below meth c H locs cells slots Q (F0 m pc ls (.int x3 :: .int x2 :: .int x1 :: .ref (w.2.2 0) :: rest)) := r_endp (run_V (n := 3) (As := [.int x1, .int x2, .int x3]) S hK hR (by decide) (eM_7 w _) rfl (gw_V (gt_at 1123 (by decide +kernel) (by decide +kernel)) (gt_at 1125 (by decide +kernel) (by decide +kernel)) (gt_at 57 (by decide +kernel) (by decide +kernel)) (gt_at 86 (by decide +kernel) (by decide +kernel)) (gt_at 1126 (by decide +kernel) (by decide +kernel))) (by decide +kernel) rfl (c7_wantsShut l h0) ⟨rfl, rfl⟩ hRm hf hl rfl hW hdg) kk
/-! FourTenGatesModel.moveGates(III)V -/
abbrev rm7_moveGates : Room := { frames := 4, cells := 0, slots := 0, locals := 90 }
theorem d7_moveGates_0 : decode cX7_moveGates 0 = .ok (.aload_n 0, 1) := by decide +kernel
theorem d7_moveGates_1 : decode cX7_moveGates 1 = .ok (.getfield 182, 3) := by decide +kernel
theorem d7_moveGates_4 : decode cX7_moveGates 4 = .ok (.iconst 1, 1) := by decide +kernel
theorem d7_moveGates_5 : decode cX7_moveGates 5 = .ok (.if_icmp .ne 46, 3) := by decide +kernel
theorem d7_moveGates_8 : decode cX7_moveGates 8 = .ok (.aload_n 0, 1) := by decide +kernel
theorem d7_moveGates_9 : decode cX7_moveGates 9 = .ok (.dup, 1) := by decide +kernel
theorem d7_moveGates_10 : decode cX7_moveGates 10 = .ok (.getfield 185, 3) := by decide +kernel
theorem d7_moveGates_13 : decode cX7_moveGates 13 = .ok (.iconst 1, 1) := by decide +kernel
theorem d7_moveGates_14 : decode cX7_moveGates 14 = .ok (.iadd, 1) := by decide +kernel
theorem d7_moveGates_15 : decode cX7_moveGates 15 = .ok (.putfield 185, 3) := by decide +kernel
theorem d7_moveGates_18 : decode cX7_moveGates 18 = .ok (.aload_n 0, 1) := by decide +kernel
theorem d7_moveGates_19 : decode cX7_moveGates 19 = .ok (.aload_n 0, 1) := by decide +kernel
theorem d7_moveGates_20 : decode cX7_moveGates 20 = .ok (.getfield 185, 3) := by decide +kernel
theorem d7_moveGates_23 : decode cX7_moveGates 23 = .ok (.aload_n 0, 1) := by decide +kernel
theorem d7_moveGates_24 : decode cX7_moveGates 24 = .ok (.getfield 31, 3) := by decide +kernel
theorem d7_moveGates_27 : decode cX7_moveGates 27 = .ok (.iconst 0, 1) := by decide +kernel
theorem d7_moveGates_28 : decode cX7_moveGates 28 = .ok (.iaload, 1) := by decide +kernel
theorem d7_moveGates_29 : decode cX7_moveGates 29 = .ok (.if_icmp .ge 7, 3) := by decide +kernel
theorem d7_moveGates_32 : decode cX7_moveGates 32 = .ok (.iconst 1, 1) := by decide +kernel
theorem d7_moveGates_33 : decode cX7_moveGates 33 = .ok (.goto 15, 3) := by decide +kernel
theorem d7_moveGates_36 : decode cX7_moveGates 36 = .ok (.aload_n 0, 1) := by decide +kernel
theorem d7_moveGates_37 : decode cX7_moveGates 37 = .ok (.getfield 217, 3) := by decide +kernel
theorem d7_moveGates_40 : decode cX7_moveGates 40 = .ok (.ifCond .eq 7, 3) := by decide +kernel
theorem d7_moveGates_43 : decode cX7_moveGates 43 = .ok (.iconst 2, 1) := by decide +kernel
theorem d7_moveGates_44 : decode cX7_moveGates 44 = .ok (.goto 4, 3) := by decide +kernel
theorem d7_moveGates_47 : decode cX7_moveGates 47 = .ok (.iconst 0, 1) := by decide +kernel
theorem d7_moveGates_48 : decode cX7_moveGates 48 = .ok (.putfield 182, 3) := by decide +kernel
theorem d7_moveGates_51 : decode cX7_moveGates 51 = .ok (.aload_n 0, 1) := by decide +kernel
theorem d7_moveGates_52 : decode cX7_moveGates 52 = .ok (.iload_n 1, 1) := by decide +kernel
theorem d7_moveGates_53 : decode cX7_moveGates 53 = .ok (.iload_n 2, 1) := by decide +kernel
theorem d7_moveGates_54 : decode cX7_moveGates 54 = .ok (.iload_n 3, 1) := by decide +kernel
theorem d7_moveGates_55 : decode cX7_moveGates 55 = .ok (.invokevirtual 220, 3) := by decide +kernel
theorem d7_moveGates_58 : decode cX7_moveGates 58 = .ok (.istore 4, 2) := by decide +kernel
theorem d7_moveGates_60 : decode cX7_moveGates 60 = .ok (.aload_n 0, 1) := by decide +kernel
theorem d7_moveGates_61 : decode cX7_moveGates 61 = .ok (.getfield 182, 3) := by decide +kernel
theorem d7_moveGates_64 : decode cX7_moveGates 64 = .ok (.ifCond .ne 20, 3) := by decide +kernel
theorem d7_moveGates_67 : decode cX7_moveGates 67 = .ok (.iload 4, 2) := by decide +kernel
theorem d7_moveGates_69 : decode cX7_moveGates 69 = .ok (.ifCond .eq 15, 3) := by decide +kernel
theorem d7_moveGates_72 : decode cX7_moveGates 72 = .ok (.iload_n 3, 1) := by decide +kernel
theorem d7_moveGates_73 : decode cX7_moveGates 73 = .ok (.aload_n 0, 1) := by decide +kernel
theorem d7_moveGates_74 : decode cX7_moveGates 74 = .ok (.getfield 192, 3) := by decide +kernel
theorem d7_moveGates_77 : decode cX7_moveGates 77 = .ok (.if_icmp .lt 7, 3) := by decide +kernel
theorem d7_moveGates_80 : decode cX7_moveGates 80 = .ok (.iconst 1, 1) := by decide +kernel
theorem d7_moveGates_81 : decode cX7_moveGates 81 = .ok (.goto 4, 3) := by decide +kernel
theorem d7_moveGates_84 : decode cX7_moveGates 84 = .ok (.iconst 0, 1) := by decide +kernel
theorem d7_moveGates_85 : decode cX7_moveGates 85 = .ok (.istore 5, 2) := by decide +kernel
theorem d7_moveGates_87 : decode cX7_moveGates 87 = .ok (.aload_n 0, 1) := by decide +kernel
theorem d7_moveGates_88 : decode cX7_moveGates 88 = .ok (.getfield 182, 3) := by decide +kernel
theorem d7_moveGates_91 : decode cX7_moveGates 91 = .ok (.iconst 2, 1) := by decide +kernel
theorem d7_moveGates_92 : decode cX7_moveGates 92 = .ok (.if_icmp .ne 27, 3) := by decide +kernel
theorem d7_moveGates_95 : decode cX7_moveGates 95 = .ok (.iload 4, 2) := by decide +kernel
theorem d7_moveGates_97 : decode cX7_moveGates 97 = .ok (.ifCond .ne 22, 3) := by decide +kernel
theorem d7_moveGates_100 : decode cX7_moveGates 100 = .ok (.aload_n 0, 1) := by decide +kernel
theorem d7_moveGates_101 : decode cX7_moveGates 101 = .ok (.iload_n 3, 1) := by decide +kernel
theorem d7_moveGates_102 : decode cX7_moveGates 102 = .ok (.invokevirtual 199, 3) := by decide +kernel
theorem d7_moveGates_105 : decode cX7_moveGates 105 = .ok (.ifCond .ne 14, 3) := by decide +kernel
theorem d7_moveGates_108 : decode cX7_moveGates 108 = .ok (.aload_n 0, 1) := by decide +kernel
theorem d7_moveGates_109 : decode cX7_moveGates 109 = .ok (.getfield 188, 3) := by decide +kernel
theorem d7_moveGates_112 : decode cX7_moveGates 112 = .ok (.ifCond .ne 7, 3) := by decide +kernel
theorem d7_moveGates_115 : decode cX7_moveGates 115 = .ok (.iconst 1, 1) := by decide +kernel
theorem d7_moveGates_116 : decode cX7_moveGates 116 = .ok (.goto 4, 3) := by decide +kernel
theorem d7_moveGates_119 : decode cX7_moveGates 119 = .ok (.iconst 0, 1) := by decide +kernel
theorem d7_moveGates_120 : decode cX7_moveGates 120 = .ok (.istore 6, 2) := by decide +kernel
theorem d7_moveGates_122 : decode cX7_moveGates 122 = .ok (.iload 5, 2) := by decide +kernel
theorem d7_moveGates_124 : decode cX7_moveGates 124 = .ok (.ifCond .ne 8, 3) := by decide +kernel
theorem d7_moveGates_127 : decode cX7_moveGates 127 = .ok (.iload 6, 2) := by decide +kernel
theorem d7_moveGates_129 : decode cX7_moveGates 129 = .ok (.ifCond .eq 19, 3) := by decide +kernel
theorem d7_moveGates_132 : decode cX7_moveGates 132 = .ok (.aload_n 0, 1) := by decide +kernel
theorem d7_moveGates_133 : decode cX7_moveGates 133 = .ok (.iconst 1, 1) := by decide +kernel
theorem d7_moveGates_134 : decode cX7_moveGates 134 = .ok (.putfield 182, 3) := by decide +kernel
theorem d7_moveGates_137 : decode cX7_moveGates 137 = .ok (.aload_n 0, 1) := by decide +kernel
theorem d7_moveGates_138 : decode cX7_moveGates 138 = .ok (.iconst 0, 1) := by decide +kernel
theorem d7_moveGates_139 : decode cX7_moveGates 139 = .ok (.putfield 185, 3) := by decide +kernel
theorem d7_moveGates_142 : decode cX7_moveGates 142 = .ok (.aload_n 0, 1) := by decide +kernel
theorem d7_moveGates_143 : decode cX7_moveGates 143 = .ok (.iload 5, 2) := by decide +kernel
theorem d7_moveGates_145 : decode cX7_moveGates 145 = .ok (.putfield 217, 3) := by decide +kernel
theorem d7_moveGates_148 : decode cX7_moveGates 148 = .ok (.return_, 1) := by decide +kernel
def f7_moveGates_b132 (σ : Mem) (x5 : Int32) : Option Mem := bm (mu σ 0 32 1) fun σ1 => bm (mu σ1 0 33 0) fun σ2 => if x5 = 0 ∨ x5 = 1 then (bm (mu σ2 0 34 x5) fun σ3 => some σ3) else none
set_option maxHeartbeats 4000000 in
set_option maxRecDepth 100000 in
theorem t7_moveGates_b132 {p : Program} {l : Launch} {e : Env} {s : State} {m : MethodId} {args : Array Value} {below : List Frame} {meth : Method} {c : Code} {w : WV} {σ' : Mem} (S : CallFix p m c cX7_moveGates 7 s args gtbl RX7) (hr : meth.sig.returnType = none) (hlk : meth.locks = false) (hK : KS LM w s) : ∀ (σ : Mem) (x5 : Int32), f7_moveGates_b132  σ x5 = some σ' → ∀ (H : Heap) (locs : List Loc), Rp EM LM w σ H → va_S (AW LM w) s.heap H locs → ∀ (ls : Array Slot), lv_has ls 7 [(0, .ref (w.2.2 0)), (5, .int x5)] → W p l e rm7_moveGates s m args below meth c H locs 0 0 (MQ below (Qw EM LM w σ' none) args s 0 0 (AW LM w)) (F0 m 132 ls []) := by
  obtain ⟨hx, hb, hml, hown, hts⟩ := id S
  intro σ x5 h0 H locs hR hS ls hl
  unfold f7_moveGates_b132 at h0
  refine lv_aload_n hx hb d7_moveGates_132 rfl (lv_at hl 0 rfl) ?_
  refine lv_iconst (v := 1) hx hb d7_moveGates_133 (by decide) ?_
  obtain ⟨σ1, hm1, h0⟩ := og_m h0
  refine u7_182 S hK hR hS hm1 d7_moveGates_134 (fun H locs hR hS => ?_)
  refine lv_aload_n hx hb d7_moveGates_137 rfl (lv_at hl 0 rfl) ?_
  refine lv_iconst (v := 0) hx hb d7_moveGates_138 (by decide) ?_
  obtain ⟨σ2, hm2, h0⟩ := og_m h0
  refine u7_185 S hK hR hS hm2 d7_moveGates_139 (fun H locs hR hS => ?_)
  refine lv_aload_n hx hb d7_moveGates_142 rfl (lv_at hl 0 rfl) ?_
  refine lv_iload hx hb d7_moveGates_143 (lv_at hl 1 rfl) ?_
  obtain ⟨hb4, h0⟩ := og_if h0
  obtain ⟨σ3, hm3, h0⟩ := og_m h0
  refine u7_217 S hK hR hS hb4 hm3 d7_moveGates_145 (fun H locs hR hS => ?_)
  exact q_vret S hr hlk hR hS h0 d7_moveGates_148
def f7_moveGates_b120 (σ : Mem) (x5 : Int32) (s0 : Int32) : Option Mem := if x5 = 0 then if s0 = 0 then some σ else f7_moveGates_b132 σ x5 else f7_moveGates_b132 σ x5
set_option maxHeartbeats 4000000 in
set_option maxRecDepth 100000 in
theorem t7_moveGates_b120 {p : Program} {l : Launch} {e : Env} {s : State} {m : MethodId} {args : Array Value} {below : List Frame} {meth : Method} {c : Code} {w : WV} {σ' : Mem} (S : CallFix p m c cX7_moveGates 7 s args gtbl RX7) (hr : meth.sig.returnType = none) (hlk : meth.locks = false) (hK : KS LM w s) : ∀ (σ : Mem) (x5 : Int32) (s0 : Int32), f7_moveGates_b120  σ x5 s0 = some σ' → ∀ (H : Heap) (locs : List Loc), Rp EM LM w σ H → va_S (AW LM w) s.heap H locs → ∀ (ls : Array Slot), lv_has ls 7 [(0, .ref (w.2.2 0)), (5, .int x5)] → W p l e rm7_moveGates s m args below meth c H locs 0 0 (MQ below (Qw EM LM w σ' none) args s 0 0 (AW LM w)) (F0 m 120 ls [.int s0]) := by
  obtain ⟨hx, hb, hml, hown, hts⟩ := id S
  intro σ x5 s0 h0 H locs hR hS ls hl
  unfold f7_moveGates_b120 at h0
  refine lv_istore (lv' := [(6, .int s0), (0, .ref (w.2.2 0)), (5, .int x5)]) hx hb d7_moveGates_120 hl (by decide) rfl (fun ls hl => ?_)
  refine lv_iload hx hb d7_moveGates_122 (lv_at hl 2 rfl) ?_
  refine lv_if_ne (tgt := 132) hx hb d7_moveGates_124 (by decide) (fun hc1 => ?_) (fun hc1 => ?_)
  · have h0 := og_f hc1 h0
    exact t7_moveGates_b132 S hr hlk hK σ x5 h0 _ _ hR hS _ (lv_sub hl [1, 2] rfl)
  · have h0 := og_t hc1 h0
    refine lv_iload hx hb d7_moveGates_127 (lv_at hl 0 rfl) ?_
    refine lv_if_eq (tgt := 148) hx hb d7_moveGates_129 (by decide) (fun hc2 => ?_) (fun hc2 => ?_)
    · have h0 := og_t hc2 h0
      exact q_vret S hr hlk hR hS h0 d7_moveGates_148
    · have h0 := og_f hc2 h0
      exact t7_moveGates_b132 S hr hlk hK σ x5 h0 _ _ hR hS _ (lv_sub hl [1, 2] rfl)
def f7_moveGates_b119 (σ : Mem) (x5 : Int32) : Option Mem := f7_moveGates_b120 σ x5 0
set_option maxHeartbeats 4000000 in
set_option maxRecDepth 100000 in
theorem t7_moveGates_b119 {p : Program} {l : Launch} {e : Env} {s : State} {m : MethodId} {args : Array Value} {below : List Frame} {meth : Method} {c : Code} {w : WV} {σ' : Mem} (S : CallFix p m c cX7_moveGates 7 s args gtbl RX7) (hr : meth.sig.returnType = none) (hlk : meth.locks = false) (hK : KS LM w s) : ∀ (σ : Mem) (x5 : Int32), f7_moveGates_b119  σ x5 = some σ' → ∀ (H : Heap) (locs : List Loc), Rp EM LM w σ H → va_S (AW LM w) s.heap H locs → ∀ (ls : Array Slot), lv_has ls 7 [(0, .ref (w.2.2 0)), (5, .int x5)] → W p l e rm7_moveGates s m args below meth c H locs 0 0 (MQ below (Qw EM LM w σ' none) args s 0 0 (AW LM w)) (F0 m 119 ls []) := by
  obtain ⟨hx, hb, hml, hown, hts⟩ := id S
  intro σ x5 h0 H locs hR hS ls hl
  unfold f7_moveGates_b119 at h0
  refine lv_iconst (v := 0) hx hb d7_moveGates_119 (by decide) ?_
  exact t7_moveGates_b120 S hr hlk hK σ x5 0 h0 _ _ hR hS _ (lv_sub hl [0, 1] rfl)
def f7_moveGates_b85 (σ : Mem) (x3 : Int32) (x4 : Int32) (s0 : Int32) : Option Mem := if (σ 0 32) = 2 then if x4 = 0 then Option.bind (f7_isPassing σ x3) fun r3 => if r3 = 0 then if (σ 0 35) = 0 then f7_moveGates_b120 σ s0 1 else f7_moveGates_b119 σ s0 else f7_moveGates_b119 σ s0 else f7_moveGates_b119 σ s0 else f7_moveGates_b119 σ s0
set_option maxHeartbeats 4000000 in
set_option maxRecDepth 100000 in
theorem t7_moveGates_b85 {p : Program} {l : Launch} {e : Env} {s : State} {m : MethodId} {args : Array Value} {below : List Frame} {meth : Method} {c : Code} {w : WV} {σ' : Mem} (S : CallFix p m c cX7_moveGates 7 s args gtbl RX7) (hr : meth.sig.returnType = none) (hlk : meth.locks = false) (hK : KS LM w s) : ∀ (σ : Mem) (x3 : Int32) (x4 : Int32) (s0 : Int32), f7_moveGates_b85  σ x3 x4 s0 = some σ' → ∀ (H : Heap) (locs : List Loc), Rp EM LM w σ H → va_S (AW LM w) s.heap H locs → ∀ (ls : Array Slot), lv_has ls 7 [(0, .ref (w.2.2 0)), (3, .int x3), (4, .int x4)] → W p l e rm7_moveGates s m args below meth c H locs 0 0 (MQ below (Qw EM LM w σ' none) args s 0 0 (AW LM w)) (F0 m 85 ls [.int s0]) := by
  obtain ⟨hx, hb, hml, hown, hts⟩ := id S
  intro σ x3 x4 s0 h0 H locs hR hS ls hl
  unfold f7_moveGates_b85 at h0
  refine lv_istore (lv' := [(5, .int s0), (0, .ref (w.2.2 0)), (3, .int x3), (4, .int x4)]) hx hb d7_moveGates_85 hl (by decide) rfl (fun ls hl => ?_)
  refine lv_aload_n hx hb d7_moveGates_87 rfl (lv_at hl 1 rfl) ?_
  refine g7_182 S hK hR d7_moveGates_88 ?_
  refine lv_iconst (v := 2) hx hb d7_moveGates_91 (by decide) ?_
  refine lv_icmp_ne (tgt := 119) hx hb d7_moveGates_92 (by decide) (fun hc1 => ?_) (fun hc1 => ?_)
  · have h0 := og_f hc1 h0
    exact t7_moveGates_b119 S hr hlk hK σ s0 h0 _ _ hR hS _ (lv_sub hl [1, 0] rfl)
  · have h0 := og_t hc1 h0
    refine lv_iload hx hb d7_moveGates_95 (lv_at hl 3 rfl) ?_
    refine lv_if_ne (tgt := 119) hx hb d7_moveGates_97 (by decide) (fun hc2 => ?_) (fun hc2 => ?_)
    · have h0 := og_f hc2 h0
      exact t7_moveGates_b119 S hr hlk hK σ s0 h0 _ _ hR hS _ (lv_sub hl [1, 0] rfl)
    · have h0 := og_t hc2 h0
      refine lv_aload_n hx hb d7_moveGates_100 rfl (lv_at hl 1 rfl) ?_
      refine lv_iload_n hx hb d7_moveGates_101 rfl (lv_at hl 2 rfl) ?_
      obtain ⟨r3, hr3, h0⟩ := og_b h0
      refine k7_199 S hK hR  hr3 ⟨Nat.zero_le _, Nat.zero_le _⟩ ⟨Nat.le_of_ble_eq_true rfl, Nat.le_of_ble_eq_true rfl⟩ hl.1 (Nat.le_of_ble_eq_true rfl) d7_moveGates_102 ?_
      refine lv_if_ne (tgt := 119) hx hb d7_moveGates_105 (by decide) (fun hc4 => ?_) (fun hc4 => ?_)
      · have h0 := og_f hc4 h0
        exact t7_moveGates_b119 S hr hlk hK σ s0 h0 _ _ hR hS _ (lv_sub hl [1, 0] rfl)
      · have h0 := og_t hc4 h0
        refine lv_aload_n hx hb d7_moveGates_108 rfl (lv_at hl 1 rfl) ?_
        refine g7_188 S hK hR d7_moveGates_109 ?_
        refine lv_if_ne (tgt := 119) hx hb d7_moveGates_112 (by decide) (fun hc5 => ?_) (fun hc5 => ?_)
        · have h0 := og_f hc5 h0
          exact t7_moveGates_b119 S hr hlk hK σ s0 h0 _ _ hR hS _ (lv_sub hl [1, 0] rfl)
        · have h0 := og_t hc5 h0
          refine lv_iconst (v := 1) hx hb d7_moveGates_115 (by decide) ?_
          refine lv_goto (tgt := 120) hx hb d7_moveGates_116 (by decide) ?_
          exact t7_moveGates_b120 S hr hlk hK σ s0 1 h0 _ _ hR hS _ (lv_sub hl [1, 0] rfl)
def f7_moveGates_b84 (σ : Mem) (x3 : Int32) (x4 : Int32) : Option Mem := f7_moveGates_b85 σ x3 x4 0
set_option maxHeartbeats 4000000 in
set_option maxRecDepth 100000 in
theorem t7_moveGates_b84 {p : Program} {l : Launch} {e : Env} {s : State} {m : MethodId} {args : Array Value} {below : List Frame} {meth : Method} {c : Code} {w : WV} {σ' : Mem} (S : CallFix p m c cX7_moveGates 7 s args gtbl RX7) (hr : meth.sig.returnType = none) (hlk : meth.locks = false) (hK : KS LM w s) : ∀ (σ : Mem) (x3 : Int32) (x4 : Int32), f7_moveGates_b84  σ x3 x4 = some σ' → ∀ (H : Heap) (locs : List Loc), Rp EM LM w σ H → va_S (AW LM w) s.heap H locs → ∀ (ls : Array Slot), lv_has ls 7 [(0, .ref (w.2.2 0)), (3, .int x3), (4, .int x4)] → W p l e rm7_moveGates s m args below meth c H locs 0 0 (MQ below (Qw EM LM w σ' none) args s 0 0 (AW LM w)) (F0 m 84 ls []) := by
  obtain ⟨hx, hb, hml, hown, hts⟩ := id S
  intro σ x3 x4 h0 H locs hR hS ls hl
  unfold f7_moveGates_b84 at h0
  refine lv_iconst (v := 0) hx hb d7_moveGates_84 (by decide) ?_
  exact t7_moveGates_b85 S hr hlk hK σ x3 x4 0 h0 _ _ hR hS _ (lv_sub hl [0, 1, 2] rfl)
def f7_moveGates_b51 (σ : Mem) (x1 : Int32) (x2 : Int32) (x3 : Int32) : Option Mem := Option.bind (f7_wantsShut σ x1 x2 x3) fun r1 => if (σ 0 32) = 0 then if r1 = 0 then f7_moveGates_b84 σ x3 r1 else if x3 < (σ 0 36) then f7_moveGates_b84 σ x3 r1 else f7_moveGates_b85 σ x3 r1 1 else f7_moveGates_b84 σ x3 r1
set_option maxHeartbeats 4000000 in
set_option maxRecDepth 100000 in
theorem t7_moveGates_b51 {p : Program} {l : Launch} {e : Env} {s : State} {m : MethodId} {args : Array Value} {below : List Frame} {meth : Method} {c : Code} {w : WV} {σ' : Mem} (S : CallFix p m c cX7_moveGates 7 s args gtbl RX7) (hr : meth.sig.returnType = none) (hlk : meth.locks = false) (hK : KS LM w s) : ∀ (σ : Mem) (x1 : Int32) (x2 : Int32) (x3 : Int32), f7_moveGates_b51  σ x1 x2 x3 = some σ' → ∀ (H : Heap) (locs : List Loc), Rp EM LM w σ H → va_S (AW LM w) s.heap H locs → ∀ (ls : Array Slot), lv_has ls 7 [(0, .ref (w.2.2 0)), (1, .int x1), (2, .int x2), (3, .int x3)] → W p l e rm7_moveGates s m args below meth c H locs 0 0 (MQ below (Qw EM LM w σ' none) args s 0 0 (AW LM w)) (F0 m 51 ls []) := by
  obtain ⟨hx, hb, hml, hown, hts⟩ := id S
  intro σ x1 x2 x3 h0 H locs hR hS ls hl
  unfold f7_moveGates_b51 at h0
  refine lv_aload_n hx hb d7_moveGates_51 rfl (lv_at hl 0 rfl) ?_
  refine lv_iload_n hx hb d7_moveGates_52 rfl (lv_at hl 1 rfl) ?_
  refine lv_iload_n hx hb d7_moveGates_53 rfl (lv_at hl 2 rfl) ?_
  refine lv_iload_n hx hb d7_moveGates_54 rfl (lv_at hl 3 rfl) ?_
  obtain ⟨r1, hr1, h0⟩ := og_b h0
  refine k7_220 S hK hR  hr1 ⟨Nat.zero_le _, Nat.zero_le _⟩ ⟨Nat.le_of_ble_eq_true rfl, Nat.le_of_ble_eq_true rfl⟩ hl.1 (Nat.le_of_ble_eq_true rfl) d7_moveGates_55 ?_
  refine lv_istore (lv' := [(4, .int r1), (0, .ref (w.2.2 0)), (1, .int x1), (2, .int x2), (3, .int x3)]) hx hb d7_moveGates_58 hl (by decide) rfl (fun ls hl => ?_)
  refine lv_aload_n hx hb d7_moveGates_60 rfl (lv_at hl 1 rfl) ?_
  refine g7_182 S hK hR d7_moveGates_61 ?_
  refine lv_if_ne (tgt := 84) hx hb d7_moveGates_64 (by decide) (fun hc2 => ?_) (fun hc2 => ?_)
  · have h0 := og_f hc2 h0
    exact t7_moveGates_b84 S hr hlk hK σ x3 r1 h0 _ _ hR hS _ (lv_sub hl [1, 4, 0] rfl)
  · have h0 := og_t hc2 h0
    refine lv_iload hx hb d7_moveGates_67 (lv_at hl 0 rfl) ?_
    refine lv_if_eq (tgt := 84) hx hb d7_moveGates_69 (by decide) (fun hc3 => ?_) (fun hc3 => ?_)
    · have h0 := og_t hc3 h0
      exact t7_moveGates_b84 S hr hlk hK σ x3 r1 h0 _ _ hR hS _ (lv_sub hl [1, 4, 0] rfl)
    · have h0 := og_f hc3 h0
      refine lv_iload_n hx hb d7_moveGates_72 rfl (lv_at hl 4 rfl) ?_
      refine lv_aload_n hx hb d7_moveGates_73 rfl (lv_at hl 1 rfl) ?_
      refine g7_192 S hK hR d7_moveGates_74 ?_
      refine lv_icmp_lt (tgt := 84) hx hb d7_moveGates_77 (by decide) (fun hc4 => ?_) (fun hc4 => ?_)
      · have h0 := og_t hc4 h0
        exact t7_moveGates_b84 S hr hlk hK σ x3 r1 h0 _ _ hR hS _ (lv_sub hl [1, 4, 0] rfl)
      · have h0 := og_f hc4 h0
        refine lv_iconst (v := 1) hx hb d7_moveGates_80 (by decide) ?_
        refine lv_goto (tgt := 85) hx hb d7_moveGates_81 (by decide) ?_
        exact t7_moveGates_b85 S hr hlk hK σ x3 r1 1 h0 _ _ hR hS _ (lv_sub hl [1, 4, 0] rfl)
def f7_moveGates_b48 (σ : Mem) (x1 : Int32) (x2 : Int32) (x3 : Int32) (s1 : Int32) : Option Mem := bm (mu σ 0 32 s1) fun σ1 => f7_moveGates_b51 σ1 x1 x2 x3
set_option maxHeartbeats 4000000 in
set_option maxRecDepth 100000 in
theorem t7_moveGates_b48 {p : Program} {l : Launch} {e : Env} {s : State} {m : MethodId} {args : Array Value} {below : List Frame} {meth : Method} {c : Code} {w : WV} {σ' : Mem} (S : CallFix p m c cX7_moveGates 7 s args gtbl RX7) (hr : meth.sig.returnType = none) (hlk : meth.locks = false) (hK : KS LM w s) : ∀ (σ : Mem) (x1 : Int32) (x2 : Int32) (x3 : Int32) (s1 : Int32), f7_moveGates_b48  σ x1 x2 x3 s1 = some σ' → ∀ (H : Heap) (locs : List Loc), Rp EM LM w σ H → va_S (AW LM w) s.heap H locs → ∀ (ls : Array Slot), lv_has ls 7 [(0, .ref (w.2.2 0)), (1, .int x1), (2, .int x2), (3, .int x3)] → W p l e rm7_moveGates s m args below meth c H locs 0 0 (MQ below (Qw EM LM w σ' none) args s 0 0 (AW LM w)) (F0 m 48 ls [.int s1, .ref (w.2.2 0)]) := by
  obtain ⟨hx, hb, hml, hown, hts⟩ := id S
  intro σ x1 x2 x3 s1 h0 H locs hR hS ls hl
  unfold f7_moveGates_b48 at h0
  obtain ⟨σ1, hm1, h0⟩ := og_m h0
  refine u7_182 S hK hR hS hm1 d7_moveGates_48 (fun H locs hR hS => ?_)
  exact t7_moveGates_b51 S hr hlk hK σ1 x1 x2 x3 h0 _ _ hR hS _ (lv_sub hl [0, 1, 2, 3] rfl)
def f7_moveGates (σ : Mem) (x1 : Int32) (x2 : Int32) (x3 : Int32) : Option Mem := if (σ 0 32) = 1 then bm (mu σ 0 33 ((σ 0 33) + 1)) fun σ2 => if (σ2 9 0) ≤ (σ2 0 33) then if (σ2 0 34) = 0 then f7_moveGates_b48 σ2 x1 x2 x3 0 else f7_moveGates_b48 σ2 x1 x2 x3 2 else f7_moveGates_b48 σ2 x1 x2 x3 1 else f7_moveGates_b51 σ x1 x2 x3
set_option maxHeartbeats 4000000 in
set_option maxRecDepth 100000 in
theorem c7_moveGates (l : Launch) {w : WV} {σ : Mem} {x1 : Int32} {x2 : Int32} {x3 : Int32} {σ' : Mem} (h0 : f7_moveGates σ x1 x2 x3 = some σ') : Met l yX7_moveGates (wy yX7_moveGates cX7_moveGates 7 none) rm7_moveGates (Pw EM LM w [.ref (w.2.2 0), .int x1, .int x2, .int x3] σ) (Qw EM LM w σ' none) 0 0 (AW LM w) := by
  refine mk_met (by decide) (Nat.le_of_ble_eq_true rfl) ?_
  intro p e s m below meth c S hr hlk hK hR ls hl
  obtain ⟨hx, hb, hml, hown, hts⟩ := id S
  have hl : lv_has ls 7 [(0, .ref (w.2.2 0)), (1, .int x1), (2, .int x2), (3, .int x3)] := hl
  have hS : va_S (AW LM w) s.heap s.heap [] := va_S.rf
  unfold f7_moveGates at h0
  refine lv_aload_n hx hb d7_moveGates_0 rfl (lv_at hl 0 rfl) ?_
  refine g7_182 S hK hR d7_moveGates_1 ?_
  refine lv_iconst (v := 1) hx hb d7_moveGates_4 (by decide) ?_
  refine lv_icmp_ne (tgt := 51) hx hb d7_moveGates_5 (by decide) (fun hc1 => ?_) (fun hc1 => ?_)
  · have h0 := og_f hc1 h0
    exact t7_moveGates_b51 S hr hlk hK σ x1 x2 x3 h0 _ _ hR hS _ (lv_sub hl [0, 1, 2, 3] rfl)
  · have h0 := og_t hc1 h0
    refine lv_aload_n hx hb d7_moveGates_8 rfl (lv_at hl 0 rfl) ?_
    refine lv_dup hx hb d7_moveGates_9 rfl ?_
    refine g7_185 S hK hR d7_moveGates_10 ?_
    refine lv_iconst (v := 1) hx hb d7_moveGates_13 (by decide) ?_
    refine lv_iadd hx hb d7_moveGates_14 ?_
    obtain ⟨σ2, hm2, h0⟩ := og_m h0
    refine u7_185 S hK hR hS hm2 d7_moveGates_15 (fun H locs hR hS => ?_)
    refine lv_aload_n hx hb d7_moveGates_18 rfl (lv_at hl 0 rfl) ?_
    refine lv_aload_n hx hb d7_moveGates_19 rfl (lv_at hl 0 rfl) ?_
    refine g7_185 S hK hR d7_moveGates_20 ?_
    refine lv_aload_n hx hb d7_moveGates_23 rfl (lv_at hl 0 rfl) ?_
    refine g7_31 S hK hR d7_moveGates_24 ?_
    refine lv_iconst (v := 0) hx hb d7_moveGates_27 (by decide) ?_
    refine q_ld (k := 0) S hK hR (by decide) (eM_108 w _) (vin (by decide)) (by decide) d7_moveGates_28 ?_
    refine lv_icmp_ge (tgt := 36) hx hb d7_moveGates_29 (by decide) (fun hc3 => ?_) (fun hc3 => ?_)
    · have h0 := og_t hc3 h0
      refine lv_aload_n hx hb d7_moveGates_36 rfl (lv_at hl 0 rfl) ?_
      refine g7_217 S hK hR d7_moveGates_37 ?_
      refine lv_if_eq (tgt := 47) hx hb d7_moveGates_40 (by decide) (fun hc4 => ?_) (fun hc4 => ?_)
      · have h0 := og_t hc4 h0
        refine lv_iconst (v := 0) hx hb d7_moveGates_47 (by decide) ?_
        exact t7_moveGates_b48 S hr hlk hK σ2 x1 x2 x3 0 h0 _ _ hR hS _ (lv_sub hl [0, 1, 2, 3] rfl)
      · have h0 := og_f hc4 h0
        refine lv_iconst (v := 2) hx hb d7_moveGates_43 (by decide) ?_
        refine lv_goto (tgt := 48) hx hb d7_moveGates_44 (by decide) ?_
        exact t7_moveGates_b48 S hr hlk hK σ2 x1 x2 x3 2 h0 _ _ hR hS _ (lv_sub hl [0, 1, 2, 3] rfl)
    · have h0 := og_f hc3 h0
      refine lv_iconst (v := 1) hx hb d7_moveGates_32 (by decide) ?_
      refine lv_goto (tgt := 48) hx hb d7_moveGates_33 (by decide) ?_
      exact t7_moveGates_b48 S hr hlk hK σ2 x1 x2 x3 1 h0 _ _ hR hS _ (lv_sub hl [0, 1, 2, 3] rfl)
set_option maxHeartbeats 4000000 in
set_option maxRecDepth 100000 in
theorem k7_236 {p : Program} {l : Launch} {e : Env} {R : Room} {s : State} {m : MethodId} {args : Array Value} {below : List Frame} {meth : Method} {c : Code} {H : Heap} {locs : List Loc} {cells slots : Nat} {Q : State → Prop} {cc : ByteArray} {pc nL : Nat} {ls : Array Slot} {rest : List Value} {w : WV} {σ : Mem} {x1 : Int32} {x2 : Int32} {x3 : Int32} {σ1 : Mem} (S : CallFix p m c cc nL s args gtbl RX7) (hK : KS LM w s) (hR : Rp EM LM w σ H) (hS : va_S (AW LM w) s.heap H locs) (h0 : f7_moveGates σ x1 x2 x3 = some σ1) (hf : cells + 0 ≤ R.cells ∧ slots + 0 ≤ R.slots) (hRm : rm7_moveGates.frames + 1 ≤ R.frames ∧ 8 + (7 + 11) + rm7_moveGates.locals ≤ R.locals) (hl : ls.size = nL) (hW : (rest.map fun v => v.category).sum ≤ 8) (hdg : decode cc pc = .ok (.invokevirtual 236, 3)) (kk : ∀ (H1 : Heap) (locs1 : List Loc), Rp EM LM w σ1 H1 → va_S (AW LM w) s.heap H1 locs1 → W p l e R s m args below meth c H1 locs1 cells slots Q (F0 m (pc + 3) ls (rest))) : W p l e R s m args below meth c H locs cells slots Q (F0 m pc ls (.int x3 :: .int x2 :: .int x1 :: .ref (w.2.2 0) :: rest)) := r_end hS (run_V (n := 3) (As := [.int x1, .int x2, .int x3]) S hK hR (by decide) (eM_7 w _) rfl (gw_V (gt_at 1119 (by decide +kernel) (by decide +kernel)) (gt_at 1121 (by decide +kernel) (by decide +kernel)) (gt_at 56 (by decide +kernel) (by decide +kernel)) (gt_at 86 (by decide +kernel) (by decide +kernel)) (gt_at 1122 (by decide +kernel) (by decide +kernel))) (by decide +kernel) rfl (c7_moveGates l h0) ⟨rfl, rfl⟩ hRm hf hl rfl hW hdg) kk
/-! FourTenGatesModel.goTrains(I)V -/
abbrev rm7_goTrains : Room := { frames := 1, cells := 0, slots := 0, locals := 23 }
theorem d7_goTrains_0 : decode cX7_goTrains 0 = .ok (.aload_n 0, 1) := by decide +kernel
theorem d7_goTrains_1 : decode cX7_goTrains 1 = .ok (.iconst 0, 1) := by decide +kernel
theorem d7_goTrains_2 : decode cX7_goTrains 2 = .ok (.putfield 188, 3) := by decide +kernel
theorem d7_goTrains_5 : decode cX7_goTrains 5 = .ok (.iconst 0, 1) := by decide +kernel
theorem d7_goTrains_6 : decode cX7_goTrains 6 = .ok (.istore_n 2, 1) := by decide +kernel
theorem d7_goTrains_7 : decode cX7_goTrains 7 = .ok (.iload_n 2, 1) := by decide +kernel
theorem d7_goTrains_8 : decode cX7_goTrains 8 = .ok (.aload_n 0, 1) := by decide +kernel
theorem d7_goTrains_9 : decode cX7_goTrains 9 = .ok (.getfield 13, 3) := by decide +kernel
theorem d7_goTrains_12 : decode cX7_goTrains 12 = .ok (.iconst 0, 1) := by decide +kernel
theorem d7_goTrains_13 : decode cX7_goTrains 13 = .ok (.iaload, 1) := by decide +kernel
theorem d7_goTrains_14 : decode cX7_goTrains 14 = .ok (.if_icmp .ge 76, 3) := by decide +kernel
theorem d7_goTrains_17 : decode cX7_goTrains 17 = .ok (.aload_n 0, 1) := by decide +kernel
theorem d7_goTrains_18 : decode cX7_goTrains 18 = .ok (.iload_n 2, 1) := by decide +kernel
theorem d7_goTrains_19 : decode cX7_goTrains 19 = .ok (.invokevirtual 170, 3) := by decide +kernel
theorem d7_goTrains_22 : decode cX7_goTrains 22 = .ok (.iload_n 1, 1) := by decide +kernel
theorem d7_goTrains_23 : decode cX7_goTrains 23 = .ok (.if_icmp .gt 61, 3) := by decide +kernel
theorem d7_goTrains_26 : decode cX7_goTrains 26 = .ok (.aload_n 0, 1) := by decide +kernel
theorem d7_goTrains_27 : decode cX7_goTrains 27 = .ok (.getfield 76, 3) := by decide +kernel
theorem d7_goTrains_30 : decode cX7_goTrains 30 = .ok (.iload_n 2, 1) := by decide +kernel
theorem d7_goTrains_31 : decode cX7_goTrains 31 = .ok (.iaload, 1) := by decide +kernel
theorem d7_goTrains_32 : decode cX7_goTrains 32 = .ok (.ifCond .ge 52, 3) := by decide +kernel
theorem d7_goTrains_35 : decode cX7_goTrains 35 = .ok (.aload_n 0, 1) := by decide +kernel
theorem d7_goTrains_36 : decode cX7_goTrains 36 = .ok (.getfield 182, 3) := by decide +kernel
theorem d7_goTrains_39 : decode cX7_goTrains 39 = .ok (.iconst 2, 1) := by decide +kernel
theorem d7_goTrains_40 : decode cX7_goTrains 40 = .ok (.if_icmp .ne 29, 3) := by decide +kernel
theorem d7_goTrains_43 : decode cX7_goTrains 43 = .ok (.aload_n 0, 1) := by decide +kernel
theorem d7_goTrains_44 : decode cX7_goTrains 44 = .ok (.iload_n 1, 1) := by decide +kernel
theorem d7_goTrains_45 : decode cX7_goTrains 45 = .ok (.invokevirtual 199, 3) := by decide +kernel
theorem d7_goTrains_48 : decode cX7_goTrains 48 = .ok (.ifCond .ne 21, 3) := by decide +kernel
theorem d7_goTrains_51 : decode cX7_goTrains 51 = .ok (.iload_n 1, 1) := by decide +kernel
theorem d7_goTrains_52 : decode cX7_goTrains 52 = .ok (.aload_n 0, 1) := by decide +kernel
theorem d7_goTrains_53 : decode cX7_goTrains 53 = .ok (.getfield 192, 3) := by decide +kernel
theorem d7_goTrains_56 : decode cX7_goTrains 56 = .ok (.if_icmp .lt 13, 3) := by decide +kernel
theorem d7_goTrains_59 : decode cX7_goTrains 59 = .ok (.aload_n 0, 1) := by decide +kernel
theorem d7_goTrains_60 : decode cX7_goTrains 60 = .ok (.getfield 76, 3) := by decide +kernel
theorem d7_goTrains_63 : decode cX7_goTrains 63 = .ok (.iload_n 2, 1) := by decide +kernel
theorem d7_goTrains_64 : decode cX7_goTrains 64 = .ok (.iload_n 1, 1) := by decide +kernel
theorem d7_goTrains_65 : decode cX7_goTrains 65 = .ok (.iastore, 1) := by decide +kernel
theorem d7_goTrains_66 : decode cX7_goTrains 66 = .ok (.goto 18, 3) := by decide +kernel
theorem d7_goTrains_69 : decode cX7_goTrains 69 = .ok (.aload_n 0, 1) := by decide +kernel
theorem d7_goTrains_70 : decode cX7_goTrains 70 = .ok (.getfield 79, 3) := by decide +kernel
theorem d7_goTrains_73 : decode cX7_goTrains 73 = .ok (.iload_n 2, 1) := by decide +kernel
theorem d7_goTrains_74 : decode cX7_goTrains 74 = .ok (.dup2, 1) := by decide +kernel
theorem d7_goTrains_75 : decode cX7_goTrains 75 = .ok (.iaload, 1) := by decide +kernel
theorem d7_goTrains_76 : decode cX7_goTrains 76 = .ok (.iconst 1, 1) := by decide +kernel
theorem d7_goTrains_77 : decode cX7_goTrains 77 = .ok (.iadd, 1) := by decide +kernel
theorem d7_goTrains_78 : decode cX7_goTrains 78 = .ok (.iastore, 1) := by decide +kernel
theorem d7_goTrains_79 : decode cX7_goTrains 79 = .ok (.aload_n 0, 1) := by decide +kernel
theorem d7_goTrains_80 : decode cX7_goTrains 80 = .ok (.iconst 1, 1) := by decide +kernel
theorem d7_goTrains_81 : decode cX7_goTrains 81 = .ok (.putfield 188, 3) := by decide +kernel
theorem d7_goTrains_84 : decode cX7_goTrains 84 = .ok (.iinc 2 1, 3) := by decide +kernel
theorem d7_goTrains_87 : decode cX7_goTrains 87 = .ok (.goto (-80), 3) := by decide +kernel
theorem d7_goTrains_90 : decode cX7_goTrains 90 = .ok (.return_, 1) := by decide +kernel
def f7_goTrains_b69 (k7 : Mem → Int32 → Int32 → Option Mem) (σ : Mem) (x1 : Int32) (x2 : Int32) : Option Mem := if ¬ (x2 < 0 ∨ 6 ≤ x2.toNatClampNeg) then if ¬ (x2 < 0 ∨ 6 ≤ x2.toNatClampNeg) then (bm (mu σ 29 x2.toNatClampNeg ((σ 29 x2.toNatClampNeg) + 1)) fun σ3 => bm (mu σ3 0 35 1) fun σ4 => k7 σ4 x1 (x2 + 1)) else none else none
set_option maxHeartbeats 4000000 in
set_option maxRecDepth 100000 in
theorem t7_goTrains_b69 {p : Program} {l : Launch} {e : Env} {s : State} {m : MethodId} {args : Array Value} {below : List Frame} {meth : Method} {c : Code} {w : WV} {σ' : Mem} {k7 : Mem → Int32 → Int32 → Option Mem} (S : CallFix p m c cX7_goTrains 3 s args gtbl RX7) (hr : meth.sig.returnType = none) (hlk : meth.locks = false) (hK : KS LM w s) (hk7 : ∀ (σ : Mem) (x1 : Int32) (x2 : Int32), k7 σ x1 x2 = some σ' → ∀ (H : Heap) (locs : List Loc), Rp EM LM w σ H → va_S (AW LM w) s.heap H locs → ∀ (ls : Array Slot), lv_has ls 3 [(0, .ref (w.2.2 0)), (1, .int x1), (2, .int x2)] → W p l e rm7_goTrains s m args below meth c H locs 0 0 (MQ below (Qw EM LM w σ' none) args s 0 0 (AW LM w)) (F0 m 7 ls [])) : ∀ (σ : Mem) (x1 : Int32) (x2 : Int32), f7_goTrains_b69 k7 σ x1 x2 = some σ' → ∀ (H : Heap) (locs : List Loc), Rp EM LM w σ H → va_S (AW LM w) s.heap H locs → ∀ (ls : Array Slot), lv_has ls 3 [(0, .ref (w.2.2 0)), (1, .int x1), (2, .int x2)] → W p l e rm7_goTrains s m args below meth c H locs 0 0 (MQ below (Qw EM LM w σ' none) args s 0 0 (AW LM w)) (F0 m 69 ls []) := by
  obtain ⟨hx, hb, hml, hown, hts⟩ := id S
  intro σ x1 x2 h0 H locs hR hS ls hl
  unfold f7_goTrains_b69 at h0
  refine lv_aload_n hx hb d7_goTrains_69 rfl (lv_at hl 0 rfl) ?_
  refine g7_79 S hK hR d7_goTrains_70 ?_
  refine lv_iload_n hx hb d7_goTrains_73 rfl (lv_at hl 2 rfl) ?_
  refine lv_dup2_11 hx hb d7_goTrains_74 rfl rfl ?_
  obtain ⟨hi1, h0⟩ := og_if h0
  refine q_ld (k := x2.toNatClampNeg) S hK hR (by decide) (eM_128 w _) hi1 rfl d7_goTrains_75 ?_
  refine lv_iconst (v := 1) hx hb d7_goTrains_76 (by decide) ?_
  refine lv_iadd hx hb d7_goTrains_77 ?_
  obtain ⟨hi2, h0⟩ := og_if h0
  obtain ⟨σ3, hm3, h0⟩ := og_m h0
  refine q_st S hK hR hS (by decide) (eM_128 w) hi2 rfl hm3 d7_goTrains_78 (fun H locs hR hS => ?_)
  refine lv_aload_n hx hb d7_goTrains_79 rfl (lv_at hl 0 rfl) ?_
  refine lv_iconst (v := 1) hx hb d7_goTrains_80 (by decide) ?_
  obtain ⟨σ4, hm4, h0⟩ := og_m h0
  refine u7_188 S hK hR hS (Or.inr rfl) hm4 d7_goTrains_81 (fun H locs hR hS => ?_)
  refine lv_iinc (v := x2 + 1) (lv' := [(2, .int (x2 + 1)), (0, .ref (w.2.2 0)), (1, .int x1)]) hx hb d7_goTrains_84 hl (k := 2) rfl (ii1 _) (by decide) rfl (fun ls hl => ?_)
  refine lv_goto (tgt := 7) hx hb d7_goTrains_87 (by decide) ?_
  exact hk7 σ4 x1 (x2 + 1) h0 _ _ hR hS _ (lv_sub hl [1, 2, 0] rfl)
def f7_goTrains_b7 : Nat → Mem → Int32 → Int32 → Option Mem
  | 0, _, _, _ => none
  | n + 1, σ, x1, x2 => if (σ 3 0) ≤ x2 then some σ else Option.bind (f7_comesAt σ x2) fun r2 => if x1 < r2 then f7_goTrains_b7 n σ x1 (x2 + 1) else if ¬ (x2 < 0 ∨ 6 ≤ x2.toNatClampNeg) then if 0 ≤ (σ 28 x2.toNatClampNeg) then f7_goTrains_b7 n σ x1 (x2 + 1) else if (σ 0 32) = 2 then Option.bind (f7_isPassing σ x1) fun r7 => if r7 = 0 then if x1 < (σ 0 36) then f7_goTrains_b69 (f7_goTrains_b7 n) σ x1 x2 else if ¬ (x2 < 0 ∨ 6 ≤ x2.toNatClampNeg) then (bm (mu σ 28 x2.toNatClampNeg x1) fun σ11 => f7_goTrains_b7 n σ11 x1 (x2 + 1)) else none else f7_goTrains_b69 (f7_goTrains_b7 n) σ x1 x2 else f7_goTrains_b69 (f7_goTrains_b7 n) σ x1 x2 else none
set_option maxHeartbeats 4000000 in
set_option maxRecDepth 100000 in
theorem t7_goTrains_b7 {p : Program} {l : Launch} {e : Env} {s : State} {m : MethodId} {args : Array Value} {below : List Frame} {meth : Method} {c : Code} {w : WV} {σ' : Mem} (S : CallFix p m c cX7_goTrains 3 s args gtbl RX7) (hr : meth.sig.returnType = none) (hlk : meth.locks = false) (hK : KS LM w s) : ∀ (n : Nat), ∀ (σ : Mem) (x1 : Int32) (x2 : Int32), f7_goTrains_b7  n σ x1 x2 = some σ' → ∀ (H : Heap) (locs : List Loc), Rp EM LM w σ H → va_S (AW LM w) s.heap H locs → ∀ (ls : Array Slot), lv_has ls 3 [(0, .ref (w.2.2 0)), (1, .int x1), (2, .int x2)] → W p l e rm7_goTrains s m args below meth c H locs 0 0 (MQ below (Qw EM LM w σ' none) args s 0 0 (AW LM w)) (F0 m 7 ls []) := by
  obtain ⟨hx, hb, hml, hown, hts⟩ := id S
  intro n
  induction n with
  | zero =>
    intro σ x1 x2 h0
    cases (show none = _ from h0)
  | succ n ih =>
    intro σ x1 x2 h0 H locs hR hS ls hl
    rw [f7_goTrains_b7] at h0
    refine lv_iload_n hx hb d7_goTrains_7 rfl (lv_at hl 2 rfl) ?_
    refine lv_aload_n hx hb d7_goTrains_8 rfl (lv_at hl 0 rfl) ?_
    refine g7_13 S hK hR d7_goTrains_9 ?_
    refine lv_iconst (v := 0) hx hb d7_goTrains_12 (by decide) ?_
    refine q_ld (k := 0) S hK hR (by decide) (eM_102 w _) (vin (by decide)) (by decide) d7_goTrains_13 ?_
    refine lv_icmp_ge (tgt := 90) hx hb d7_goTrains_14 (by decide) (fun hc1 => ?_) (fun hc1 => ?_)
    · have h0 := og_t hc1 h0
      exact q_vret S hr hlk hR hS h0 d7_goTrains_90
    · have h0 := og_f hc1 h0
      refine lv_aload_n hx hb d7_goTrains_17 rfl (lv_at hl 0 rfl) ?_
      refine lv_iload_n hx hb d7_goTrains_18 rfl (lv_at hl 2 rfl) ?_
      obtain ⟨r2, hr2, h0⟩ := og_b h0
      refine k7_170 S hK hR  hr2 ⟨Nat.zero_le _, Nat.zero_le _⟩ ⟨Nat.le_of_ble_eq_true rfl, Nat.le_of_ble_eq_true rfl⟩ hl.1 (Nat.le_of_ble_eq_true rfl) d7_goTrains_19 ?_
      refine lv_iload_n hx hb d7_goTrains_22 rfl (lv_at hl 1 rfl) ?_
      refine lv_icmp_gt (tgt := 84) hx hb d7_goTrains_23 (by decide) (fun hc3 => ?_) (fun hc3 => ?_)
      · have h0 := og_t hc3 h0
        refine lv_iinc (v := x2 + 1) (lv' := [(2, .int (x2 + 1)), (0, .ref (w.2.2 0)), (1, .int x1)]) hx hb d7_goTrains_84 hl (k := 2) rfl (ii1 _) (by decide) rfl (fun ls hl => ?_)
        refine lv_goto (tgt := 7) hx hb d7_goTrains_87 (by decide) ?_
        exact ih σ x1 (x2 + 1) h0 _ _ hR hS _ (lv_sub hl [1, 2, 0] rfl)
      · have h0 := og_f hc3 h0
        refine lv_aload_n hx hb d7_goTrains_26 rfl (lv_at hl 0 rfl) ?_
        refine g7_76 S hK hR d7_goTrains_27 ?_
        refine lv_iload_n hx hb d7_goTrains_30 rfl (lv_at hl 2 rfl) ?_
        obtain ⟨hi4, h0⟩ := og_if h0
        refine q_ld (k := x2.toNatClampNeg) S hK hR (by decide) (eM_127 w _) hi4 rfl d7_goTrains_31 ?_
        refine lv_if_ge (tgt := 84) hx hb d7_goTrains_32 (by decide) (fun hc5 => ?_) (fun hc5 => ?_)
        · have h0 := og_t hc5 h0
          refine lv_iinc (v := x2 + 1) (lv' := [(2, .int (x2 + 1)), (0, .ref (w.2.2 0)), (1, .int x1)]) hx hb d7_goTrains_84 hl (k := 2) rfl (ii1 _) (by decide) rfl (fun ls hl => ?_)
          refine lv_goto (tgt := 7) hx hb d7_goTrains_87 (by decide) ?_
          exact ih σ x1 (x2 + 1) h0 _ _ hR hS _ (lv_sub hl [1, 2, 0] rfl)
        · have h0 := og_f hc5 h0
          refine lv_aload_n hx hb d7_goTrains_35 rfl (lv_at hl 0 rfl) ?_
          refine g7_182 S hK hR d7_goTrains_36 ?_
          refine lv_iconst (v := 2) hx hb d7_goTrains_39 (by decide) ?_
          refine lv_icmp_ne (tgt := 69) hx hb d7_goTrains_40 (by decide) (fun hc6 => ?_) (fun hc6 => ?_)
          · have h0 := og_f hc6 h0
            exact t7_goTrains_b69 S hr hlk hK ih σ x1 x2 h0 _ _ hR hS _ (lv_sub hl [0, 1, 2] rfl)
          · have h0 := og_t hc6 h0
            refine lv_aload_n hx hb d7_goTrains_43 rfl (lv_at hl 0 rfl) ?_
            refine lv_iload_n hx hb d7_goTrains_44 rfl (lv_at hl 1 rfl) ?_
            obtain ⟨r7, hr7, h0⟩ := og_b h0
            refine k7_199 S hK hR  hr7 ⟨Nat.zero_le _, Nat.zero_le _⟩ ⟨Nat.le_of_ble_eq_true rfl, Nat.le_of_ble_eq_true rfl⟩ hl.1 (Nat.le_of_ble_eq_true rfl) d7_goTrains_45 ?_
            refine lv_if_ne (tgt := 69) hx hb d7_goTrains_48 (by decide) (fun hc8 => ?_) (fun hc8 => ?_)
            · have h0 := og_f hc8 h0
              exact t7_goTrains_b69 S hr hlk hK ih σ x1 x2 h0 _ _ hR hS _ (lv_sub hl [0, 1, 2] rfl)
            · have h0 := og_t hc8 h0
              refine lv_iload_n hx hb d7_goTrains_51 rfl (lv_at hl 1 rfl) ?_
              refine lv_aload_n hx hb d7_goTrains_52 rfl (lv_at hl 0 rfl) ?_
              refine g7_192 S hK hR d7_goTrains_53 ?_
              refine lv_icmp_lt (tgt := 69) hx hb d7_goTrains_56 (by decide) (fun hc9 => ?_) (fun hc9 => ?_)
              · have h0 := og_t hc9 h0
                exact t7_goTrains_b69 S hr hlk hK ih σ x1 x2 h0 _ _ hR hS _ (lv_sub hl [0, 1, 2] rfl)
              · have h0 := og_f hc9 h0
                refine lv_aload_n hx hb d7_goTrains_59 rfl (lv_at hl 0 rfl) ?_
                refine g7_76 S hK hR d7_goTrains_60 ?_
                refine lv_iload_n hx hb d7_goTrains_63 rfl (lv_at hl 2 rfl) ?_
                refine lv_iload_n hx hb d7_goTrains_64 rfl (lv_at hl 1 rfl) ?_
                obtain ⟨hi10, h0⟩ := og_if h0
                obtain ⟨σ11, hm11, h0⟩ := og_m h0
                refine q_st S hK hR hS (by decide) (eM_127 w) hi10 rfl hm11 d7_goTrains_65 (fun H locs hR hS => ?_)
                refine lv_goto (tgt := 84) hx hb d7_goTrains_66 (by decide) ?_
                refine lv_iinc (v := x2 + 1) (lv' := [(2, .int (x2 + 1)), (0, .ref (w.2.2 0)), (1, .int x1)]) hx hb d7_goTrains_84 hl (k := 2) rfl (ii1 _) (by decide) rfl (fun ls hl => ?_)
                refine lv_goto (tgt := 7) hx hb d7_goTrains_87 (by decide) ?_
                exact ih σ11 x1 (x2 + 1) h0 _ _ hR hS _ (lv_sub hl [1, 2, 0] rfl)
def f7_goTrains (σ : Mem) (x1 : Int32) : Option Mem := bm (mu σ 0 35 0) fun σ1 => f7_goTrains_b7 1000 σ1 x1 0
set_option maxHeartbeats 4000000 in
set_option maxRecDepth 100000 in
theorem c7_goTrains (l : Launch) {w : WV} {σ : Mem} {x1 : Int32} {σ' : Mem} (h0 : f7_goTrains σ x1 = some σ') : Met l yX7_goTrains (wy yX7_goTrains cX7_goTrains 3 none) rm7_goTrains (Pw EM LM w [.ref (w.2.2 0), .int x1] σ) (Qw EM LM w σ' none) 0 0 (AW LM w) := by
  refine mk_met (by decide) (Nat.le_of_ble_eq_true rfl) ?_
  intro p e s m below meth c S hr hlk hK hR ls hl
  obtain ⟨hx, hb, hml, hown, hts⟩ := id S
  have hl : lv_has ls 3 [(0, .ref (w.2.2 0)), (1, .int x1)] := hl
  have hS : va_S (AW LM w) s.heap s.heap [] := va_S.rf
  unfold f7_goTrains at h0
  refine lv_aload_n hx hb d7_goTrains_0 rfl (lv_at hl 0 rfl) ?_
  refine lv_iconst (v := 0) hx hb d7_goTrains_1 (by decide) ?_
  obtain ⟨σ1, hm1, h0⟩ := og_m h0
  refine u7_188 S hK hR hS (Or.inl rfl) hm1 d7_goTrains_2 (fun H locs hR hS => ?_)
  refine lv_iconst (v := 0) hx hb d7_goTrains_5 (by decide) ?_
  refine lv_istore_n (lv' := [(2, .int 0), (0, .ref (w.2.2 0)), (1, .int x1)]) hx hb d7_goTrains_6 rfl hl (by decide) rfl (fun ls hl => ?_)
  exact t7_goTrains_b7 S hr hlk hK 1000 σ1 x1 0 h0 _ _ hR hS _ (lv_sub hl [1, 2, 0] rfl)
set_option maxHeartbeats 4000000 in
set_option maxRecDepth 100000 in
theorem k7_239 {p : Program} {l : Launch} {e : Env} {R : Room} {s : State} {m : MethodId} {args : Array Value} {below : List Frame} {meth : Method} {c : Code} {H : Heap} {locs : List Loc} {cells slots : Nat} {Q : State → Prop} {cc : ByteArray} {pc nL : Nat} {ls : Array Slot} {rest : List Value} {w : WV} {σ : Mem} {x1 : Int32} {σ1 : Mem} (S : CallFix p m c cc nL s args gtbl RX7) (hK : KS LM w s) (hR : Rp EM LM w σ H) (hS : va_S (AW LM w) s.heap H locs) (h0 : f7_goTrains σ x1 = some σ1) (hf : cells + 0 ≤ R.cells ∧ slots + 0 ≤ R.slots) (hRm : rm7_goTrains.frames + 1 ≤ R.frames ∧ 8 + (3 + 11) + rm7_goTrains.locals ≤ R.locals) (hl : ls.size = nL) (hW : (rest.map fun v => v.category).sum ≤ 8) (hdg : decode cc pc = .ok (.invokevirtual 239, 3)) (kk : ∀ (H1 : Heap) (locs1 : List Loc), Rp EM LM w σ1 H1 → va_S (AW LM w) s.heap H1 locs1 → W p l e R s m args below meth c H1 locs1 cells slots Q (F0 m (pc + 3) ls (rest))) : W p l e R s m args below meth c H locs cells slots Q (F0 m pc ls (.int x1 :: .ref (w.2.2 0) :: rest)) := r_end hS (run_V (n := 1) (As := [.int x1]) S hK hR (by decide) (eM_7 w _) rfl (gw_V (gt_at 1155 (by decide +kernel) (by decide +kernel)) (gt_at 1157 (by decide +kernel) (by decide +kernel)) (gt_at 65 (by decide +kernel) (by decide +kernel)) (gt_at 86 (by decide +kernel) (by decide +kernel)) (gt_at 1158 (by decide +kernel) (by decide +kernel))) (by decide +kernel) rfl (c7_goTrains l h0) ⟨rfl, rfl⟩ hRm hf hl rfl hW hdg) kk
/-! FourTenGatesModel.isWaiting(II)Z -/
abbrev rm7_isWaiting : Room := { frames := 0, cells := 0, slots := 0, locals := 0 }
theorem d7_isWaiting_0 : decode cX7_isWaiting 0 = .ok (.bipush 6, 2) := by decide +kernel
theorem d7_isWaiting_2 : decode cX7_isWaiting 2 = .ok (.aload_n 0, 1) := by decide +kernel
theorem d7_isWaiting_3 : decode cX7_isWaiting 3 = .ok (.getfield 25, 3) := by decide +kernel
theorem d7_isWaiting_6 : decode cX7_isWaiting 6 = .ok (.iload_n 1, 1) := by decide +kernel
theorem d7_isWaiting_7 : decode cX7_isWaiting 7 = .ok (.iaload, 1) := by decide +kernel
theorem d7_isWaiting_8 : decode cX7_isWaiting 8 = .ok (.imul, 1) := by decide +kernel
theorem d7_isWaiting_9 : decode cX7_isWaiting 9 = .ok (.iload_n 2, 1) := by decide +kernel
theorem d7_isWaiting_10 : decode cX7_isWaiting 10 = .ok (.if_icmp .gt 25, 3) := by decide +kernel
theorem d7_isWaiting_13 : decode cX7_isWaiting 13 = .ok (.aload_n 0, 1) := by decide +kernel
theorem d7_isWaiting_14 : decode cX7_isWaiting 14 = .ok (.getfield 82, 3) := by decide +kernel
theorem d7_isWaiting_17 : decode cX7_isWaiting 17 = .ok (.iload_n 1, 1) := by decide +kernel
theorem d7_isWaiting_18 : decode cX7_isWaiting 18 = .ok (.iaload, 1) := by decide +kernel
theorem d7_isWaiting_19 : decode cX7_isWaiting 19 = .ok (.ifCond .ge 16, 3) := by decide +kernel
theorem d7_isWaiting_22 : decode cX7_isWaiting 22 = .ok (.aload_n 0, 1) := by decide +kernel
theorem d7_isWaiting_23 : decode cX7_isWaiting 23 = .ok (.getfield 88, 3) := by decide +kernel
theorem d7_isWaiting_26 : decode cX7_isWaiting 26 = .ok (.iload_n 1, 1) := by decide +kernel
theorem d7_isWaiting_27 : decode cX7_isWaiting 27 = .ok (.baload, 1) := by decide +kernel
theorem d7_isWaiting_28 : decode cX7_isWaiting 28 = .ok (.ifCond .ne 7, 3) := by decide +kernel
theorem d7_isWaiting_31 : decode cX7_isWaiting 31 = .ok (.iconst 1, 1) := by decide +kernel
theorem d7_isWaiting_32 : decode cX7_isWaiting 32 = .ok (.goto 4, 3) := by decide +kernel
theorem d7_isWaiting_35 : decode cX7_isWaiting 35 = .ok (.iconst 0, 1) := by decide +kernel
theorem d7_isWaiting_36 : decode cX7_isWaiting 36 = .ok (.ireturn, 1) := by decide +kernel
def f7_isWaiting (σ : Mem) (x1 : Int32) (x2 : Int32) : Option Int32 := if ¬ (x1 < 0 ∨ 16 ≤ x1.toNatClampNeg) then if x2 < (6 * (σ 7 x1.toNatClampNeg)) then some 0 else if ¬ (x1 < 0 ∨ 8 ≤ x1.toNatClampNeg) then if 0 ≤ (σ 30 x1.toNatClampNeg) then some 0 else if ¬ (x1 < 0 ∨ 8 ≤ x1.toNatClampNeg) then if (σ 32 x1.toNatClampNeg) = 0 then some 1 else some 0 else none else none else none
set_option maxHeartbeats 4000000 in
set_option maxRecDepth 100000 in
theorem c7_isWaiting (l : Launch) {w : WV} {σ : Mem} {x1 : Int32} {x2 : Int32} {r : Int32} (h0 : f7_isWaiting σ x1 x2 = some r) : Met l yX7_isWaiting (wy yX7_isWaiting cX7_isWaiting 3 (some .boolean)) rm7_isWaiting (Pw EM LM w [.ref (w.2.2 0), .int x1, .int x2] σ) (Qp (.int r)) 0 0 (fun _ => False) := by
  refine mk_met (by decide) (Nat.le_of_ble_eq_true rfl) ?_
  intro p e s m below meth c S hr hlk hK hR ls hl
  obtain ⟨hx, hb, hml, hown, hts⟩ := id S
  have hl : lv_has ls 3 [(0, .ref (w.2.2 0)), (1, .int x1), (2, .int x2)] := hl
  unfold f7_isWaiting at h0
  refine lv_bipush (v := 6) hx hb d7_isWaiting_0 (by decide) ?_
  refine lv_aload_n hx hb d7_isWaiting_2 rfl (lv_at hl 0 rfl) ?_
  refine g7_25 S hK hR d7_isWaiting_3 ?_
  refine lv_iload_n hx hb d7_isWaiting_6 rfl (lv_at hl 1 rfl) ?_
  obtain ⟨hi1, h0⟩ := og_if h0
  refine q_ld (k := x1.toNatClampNeg) S hK hR (by decide) (eM_106 w _) hi1 rfl d7_isWaiting_7 ?_
  refine lv_imul hx hb d7_isWaiting_8 ?_
  refine lv_iload_n hx hb d7_isWaiting_9 rfl (lv_at hl 2 rfl) ?_
  refine lv_icmp_gt (tgt := 35) hx hb d7_isWaiting_10 (by decide) (fun hc2 => ?_) (fun hc2 => ?_)
  · have h0 := og_t hc2 h0
    refine lv_iconst (v := 0) hx hb d7_isWaiting_35 (by decide) ?_
    exact q_zpure S hr hlk (Or.inl rfl) h0 d7_isWaiting_36
  · have h0 := og_f hc2 h0
    refine lv_aload_n hx hb d7_isWaiting_13 rfl (lv_at hl 0 rfl) ?_
    refine g7_82 S hK hR d7_isWaiting_14 ?_
    refine lv_iload_n hx hb d7_isWaiting_17 rfl (lv_at hl 1 rfl) ?_
    obtain ⟨hi3, h0⟩ := og_if h0
    refine q_ld (k := x1.toNatClampNeg) S hK hR (by decide) (eM_129 w _) hi3 rfl d7_isWaiting_18 ?_
    refine lv_if_ge (tgt := 35) hx hb d7_isWaiting_19 (by decide) (fun hc4 => ?_) (fun hc4 => ?_)
    · have h0 := og_t hc4 h0
      refine lv_iconst (v := 0) hx hb d7_isWaiting_35 (by decide) ?_
      exact q_zpure S hr hlk (Or.inl rfl) h0 d7_isWaiting_36
    · have h0 := og_f hc4 h0
      refine lv_aload_n hx hb d7_isWaiting_22 rfl (lv_at hl 0 rfl) ?_
      refine g7_88 S hK hR d7_isWaiting_23 ?_
      refine lv_iload_n hx hb d7_isWaiting_26 rfl (lv_at hl 1 rfl) ?_
      obtain ⟨hi5, h0⟩ := og_if h0
      refine r_zld S hK hR (by decide) (eM_131 w _) hi5 d7_isWaiting_27 ?_
      refine lv_if_ne (tgt := 35) hx hb d7_isWaiting_28 (by decide) (fun hc6 => ?_) (fun hc6 => ?_)
      · have h0 := og_f hc6 h0
        refine lv_iconst (v := 0) hx hb d7_isWaiting_35 (by decide) ?_
        exact q_zpure S hr hlk (Or.inl rfl) h0 d7_isWaiting_36
      · have h0 := og_t hc6 h0
        refine lv_iconst (v := 1) hx hb d7_isWaiting_31 (by decide) ?_
        refine lv_goto (tgt := 36) hx hb d7_isWaiting_32 (by decide) ?_
        exact q_zpure S hr hlk (Or.inr rfl) h0 d7_isWaiting_36
set_option maxHeartbeats 4000000 in
set_option maxRecDepth 100000 in
theorem k7_224 {p : Program} {l : Launch} {e : Env} {R : Room} {s : State} {m : MethodId} {args : Array Value} {below : List Frame} {meth : Method} {c : Code} {H : Heap} {locs : List Loc} {cells slots : Nat} {Q : State → Prop} {cc : ByteArray} {pc nL : Nat} {ls : Array Slot} {rest : List Value} {w : WV} {σ : Mem} {x1 : Int32} {x2 : Int32} {r : Int32} (S : CallFix p m c cc nL s args gtbl RX7) (hK : KS LM w s) (hR : Rp EM LM w σ H) (h0 : f7_isWaiting σ x1 x2 = some r) (hf : cells + 0 ≤ R.cells ∧ slots + 0 ≤ R.slots) (hRm : rm7_isWaiting.frames + 1 ≤ R.frames ∧ 8 + (3 + 11) + rm7_isWaiting.locals ≤ R.locals) (hl : ls.size = nL) (hW : (rest.map fun v => v.category).sum ≤ 8) (hdg : decode cc pc = .ok (.invokevirtual 224, 3)) (kk : W p l e R s m args below meth c H locs cells slots Q (F0 m (pc + 3) ls (.int r :: rest))) : W p l e R s m args below meth c H locs cells slots Q (F0 m pc ls (.int x2 :: .int x1 :: .ref (w.2.2 0) :: rest)) := r_endp (run_V (n := 2) (As := [.int x1, .int x2]) S hK hR (by decide) (eM_7 w _) rfl (gw_V (gt_at 1167 (by decide +kernel) (by decide +kernel)) (gt_at 1169 (by decide +kernel) (by decide +kernel)) (gt_at 68 (by decide +kernel) (by decide +kernel)) (gt_at 86 (by decide +kernel) (by decide +kernel)) (gt_at 1170 (by decide +kernel) (by decide +kernel))) (by decide +kernel) rfl (c7_isWaiting l h0) ⟨rfl, rfl⟩ hRm hf hl rfl hW hdg) kk
/-! FourTenGatesModel.canCross(I)Z -/
abbrev rm7_canCross : Room := { frames := 0, cells := 0, slots := 0, locals := 0 }
theorem d7_canCross_0 : decode cX7_canCross 0 = .ok (.aload_n 0, 1) := by decide +kernel
theorem d7_canCross_1 : decode cX7_canCross 1 = .ok (.getfield 182, 3) := by decide +kernel
theorem d7_canCross_4 : decode cX7_canCross 4 = .ok (.ifCond .eq 21, 3) := by decide +kernel
theorem d7_canCross_7 : decode cX7_canCross 7 = .ok (.aload_n 0, 1) := by decide +kernel
theorem d7_canCross_8 : decode cX7_canCross 8 = .ok (.getfield 182, 3) := by decide +kernel
theorem d7_canCross_11 : decode cX7_canCross 11 = .ok (.iconst 1, 1) := by decide +kernel
theorem d7_canCross_12 : decode cX7_canCross 12 = .ok (.if_icmp .ne 17, 3) := by decide +kernel
theorem d7_canCross_15 : decode cX7_canCross 15 = .ok (.aload_n 0, 1) := by decide +kernel
theorem d7_canCross_16 : decode cX7_canCross 16 = .ok (.getfield 28, 3) := by decide +kernel
theorem d7_canCross_19 : decode cX7_canCross 19 = .ok (.iload_n 1, 1) := by decide +kernel
theorem d7_canCross_20 : decode cX7_canCross 20 = .ok (.iaload, 1) := by decide +kernel
theorem d7_canCross_21 : decode cX7_canCross 21 = .ok (.iconst 3, 1) := by decide +kernel
theorem d7_canCross_22 : decode cX7_canCross 22 = .ok (.if_icmp .ne 7, 3) := by decide +kernel
theorem d7_canCross_25 : decode cX7_canCross 25 = .ok (.iconst 1, 1) := by decide +kernel
theorem d7_canCross_26 : decode cX7_canCross 26 = .ok (.goto 4, 3) := by decide +kernel
theorem d7_canCross_29 : decode cX7_canCross 29 = .ok (.iconst 0, 1) := by decide +kernel
theorem d7_canCross_30 : decode cX7_canCross 30 = .ok (.ireturn, 1) := by decide +kernel
def f7_canCross (σ : Mem) (x1 : Int32) : Option Int32 := if (σ 0 32) = 0 then some 1 else if (σ 0 32) = 1 then if ¬ (x1 < 0 ∨ 16 ≤ x1.toNatClampNeg) then if (σ 8 x1.toNatClampNeg) = 3 then some 1 else some 0 else none else some 0
set_option maxHeartbeats 4000000 in
set_option maxRecDepth 100000 in
theorem c7_canCross (l : Launch) {w : WV} {σ : Mem} {x1 : Int32} {r : Int32} (h0 : f7_canCross σ x1 = some r) : Met l yX7_canCross (wy yX7_canCross cX7_canCross 2 (some .boolean)) rm7_canCross (Pw EM LM w [.ref (w.2.2 0), .int x1] σ) (Qp (.int r)) 0 0 (fun _ => False) := by
  refine mk_met (by decide) (Nat.le_of_ble_eq_true rfl) ?_
  intro p e s m below meth c S hr hlk hK hR ls hl
  obtain ⟨hx, hb, hml, hown, hts⟩ := id S
  have hl : lv_has ls 2 [(0, .ref (w.2.2 0)), (1, .int x1)] := hl
  unfold f7_canCross at h0
  refine lv_aload_n hx hb d7_canCross_0 rfl (lv_at hl 0 rfl) ?_
  refine g7_182 S hK hR d7_canCross_1 ?_
  refine lv_if_eq (tgt := 25) hx hb d7_canCross_4 (by decide) (fun hc1 => ?_) (fun hc1 => ?_)
  · have h0 := og_t hc1 h0
    refine lv_iconst (v := 1) hx hb d7_canCross_25 (by decide) ?_
    refine lv_goto (tgt := 30) hx hb d7_canCross_26 (by decide) ?_
    exact q_zpure S hr hlk (Or.inr rfl) h0 d7_canCross_30
  · have h0 := og_f hc1 h0
    refine lv_aload_n hx hb d7_canCross_7 rfl (lv_at hl 0 rfl) ?_
    refine g7_182 S hK hR d7_canCross_8 ?_
    refine lv_iconst (v := 1) hx hb d7_canCross_11 (by decide) ?_
    refine lv_icmp_ne (tgt := 29) hx hb d7_canCross_12 (by decide) (fun hc2 => ?_) (fun hc2 => ?_)
    · have h0 := og_f hc2 h0
      refine lv_iconst (v := 0) hx hb d7_canCross_29 (by decide) ?_
      exact q_zpure S hr hlk (Or.inl rfl) h0 d7_canCross_30
    · have h0 := og_t hc2 h0
      refine lv_aload_n hx hb d7_canCross_15 rfl (lv_at hl 0 rfl) ?_
      refine g7_28 S hK hR d7_canCross_16 ?_
      refine lv_iload_n hx hb d7_canCross_19 rfl (lv_at hl 1 rfl) ?_
      obtain ⟨hi3, h0⟩ := og_if h0
      refine q_ld (k := x1.toNatClampNeg) S hK hR (by decide) (eM_107 w _) hi3 rfl d7_canCross_20 ?_
      refine lv_iconst (v := 3) hx hb d7_canCross_21 (by decide) ?_
      refine lv_icmp_ne (tgt := 29) hx hb d7_canCross_22 (by decide) (fun hc4 => ?_) (fun hc4 => ?_)
      · have h0 := og_f hc4 h0
        refine lv_iconst (v := 0) hx hb d7_canCross_29 (by decide) ?_
        exact q_zpure S hr hlk (Or.inl rfl) h0 d7_canCross_30
      · have h0 := og_t hc4 h0
        refine lv_iconst (v := 1) hx hb d7_canCross_25 (by decide) ?_
        refine lv_goto (tgt := 30) hx hb d7_canCross_26 (by decide) ?_
        exact q_zpure S hr hlk (Or.inr rfl) h0 d7_canCross_30
set_option maxHeartbeats 4000000 in
set_option maxRecDepth 100000 in
theorem k7_227 {p : Program} {l : Launch} {e : Env} {R : Room} {s : State} {m : MethodId} {args : Array Value} {below : List Frame} {meth : Method} {c : Code} {H : Heap} {locs : List Loc} {cells slots : Nat} {Q : State → Prop} {cc : ByteArray} {pc nL : Nat} {ls : Array Slot} {rest : List Value} {w : WV} {σ : Mem} {x1 : Int32} {r : Int32} (S : CallFix p m c cc nL s args gtbl RX7) (hK : KS LM w s) (hR : Rp EM LM w σ H) (h0 : f7_canCross σ x1 = some r) (hf : cells + 0 ≤ R.cells ∧ slots + 0 ≤ R.slots) (hRm : rm7_canCross.frames + 1 ≤ R.frames ∧ 8 + (2 + 11) + rm7_canCross.locals ≤ R.locals) (hl : ls.size = nL) (hW : (rest.map fun v => v.category).sum ≤ 8) (hdg : decode cc pc = .ok (.invokevirtual 227, 3)) (kk : W p l e R s m args below meth c H locs cells slots Q (F0 m (pc + 3) ls (.int r :: rest))) : W p l e R s m args below meth c H locs cells slots Q (F0 m pc ls (.int x1 :: .ref (w.2.2 0) :: rest)) := r_endp (run_V (n := 1) (As := [.int x1]) S hK hR (by decide) (eM_7 w _) rfl (gw_V (gt_at 1171 (by decide +kernel) (by decide +kernel)) (gt_at 1173 (by decide +kernel) (by decide +kernel)) (gt_at 69 (by decide +kernel) (by decide +kernel)) (gt_at 86 (by decide +kernel) (by decide +kernel)) (gt_at 1174 (by decide +kernel) (by decide +kernel))) (by decide +kernel) rfl (c7_canCross l h0) ⟨rfl, rfl⟩ hRm hf hl rfl hW hdg) kk
/-! FourTenGatesModel.nextUser(I)I -/
abbrev rm7_nextUser : Room := { frames := 1, cells := 0, slots := 0, locals := 22 }
theorem d7_nextUser_0 : decode cX7_nextUser 0 = .ok (.bipush (-4), 2) := by decide +kernel
theorem d7_nextUser_2 : decode cX7_nextUser 2 = .ok (.istore_n 2, 1) := by decide +kernel
theorem d7_nextUser_3 : decode cX7_nextUser 3 = .ok (.iconst 0, 1) := by decide +kernel
theorem d7_nextUser_4 : decode cX7_nextUser 4 = .ok (.istore_n 3, 1) := by decide +kernel
theorem d7_nextUser_5 : decode cX7_nextUser 5 = .ok (.iload_n 3, 1) := by decide +kernel
theorem d7_nextUser_6 : decode cX7_nextUser 6 = .ok (.aload_n 0, 1) := by decide +kernel
theorem d7_nextUser_7 : decode cX7_nextUser 7 = .ok (.getfield 22, 3) := by decide +kernel
theorem d7_nextUser_10 : decode cX7_nextUser 10 = .ok (.iconst 0, 1) := by decide +kernel
theorem d7_nextUser_11 : decode cX7_nextUser 11 = .ok (.iaload, 1) := by decide +kernel
theorem d7_nextUser_12 : decode cX7_nextUser 12 = .ok (.if_icmp .ge 52, 3) := by decide +kernel
theorem d7_nextUser_15 : decode cX7_nextUser 15 = .ok (.aload_n 0, 1) := by decide +kernel
theorem d7_nextUser_16 : decode cX7_nextUser 16 = .ok (.iload_n 3, 1) := by decide +kernel
theorem d7_nextUser_17 : decode cX7_nextUser 17 = .ok (.iload_n 1, 1) := by decide +kernel
theorem d7_nextUser_18 : decode cX7_nextUser 18 = .ok (.invokevirtual 224, 3) := by decide +kernel
theorem d7_nextUser_21 : decode cX7_nextUser 21 = .ok (.ifCond .eq 37, 3) := by decide +kernel
theorem d7_nextUser_24 : decode cX7_nextUser 24 = .ok (.aload_n 0, 1) := by decide +kernel
theorem d7_nextUser_25 : decode cX7_nextUser 25 = .ok (.iload_n 3, 1) := by decide +kernel
theorem d7_nextUser_26 : decode cX7_nextUser 26 = .ok (.invokevirtual 227, 3) := by decide +kernel
theorem d7_nextUser_29 : decode cX7_nextUser 29 = .ok (.ifCond .eq 29, 3) := by decide +kernel
theorem d7_nextUser_32 : decode cX7_nextUser 32 = .ok (.iload_n 2, 1) := by decide +kernel
theorem d7_nextUser_33 : decode cX7_nextUser 33 = .ok (.ifCond .lt 23, 3) := by decide +kernel
theorem d7_nextUser_36 : decode cX7_nextUser 36 = .ok (.aload_n 0, 1) := by decide +kernel
theorem d7_nextUser_37 : decode cX7_nextUser 37 = .ok (.getfield 28, 3) := by decide +kernel
theorem d7_nextUser_40 : decode cX7_nextUser 40 = .ok (.iload_n 3, 1) := by decide +kernel
theorem d7_nextUser_41 : decode cX7_nextUser 41 = .ok (.iaload, 1) := by decide +kernel
theorem d7_nextUser_42 : decode cX7_nextUser 42 = .ok (.iconst 2, 1) := by decide +kernel
theorem d7_nextUser_43 : decode cX7_nextUser 43 = .ok (.if_icmp .ne 15, 3) := by decide +kernel
theorem d7_nextUser_46 : decode cX7_nextUser 46 = .ok (.aload_n 0, 1) := by decide +kernel
theorem d7_nextUser_47 : decode cX7_nextUser 47 = .ok (.getfield 28, 3) := by decide +kernel
theorem d7_nextUser_50 : decode cX7_nextUser 50 = .ok (.iload_n 2, 1) := by decide +kernel
theorem d7_nextUser_51 : decode cX7_nextUser 51 = .ok (.iaload, 1) := by decide +kernel
theorem d7_nextUser_52 : decode cX7_nextUser 52 = .ok (.iconst 2, 1) := by decide +kernel
theorem d7_nextUser_53 : decode cX7_nextUser 53 = .ok (.if_icmp .eq 5, 3) := by decide +kernel
theorem d7_nextUser_56 : decode cX7_nextUser 56 = .ok (.iload_n 3, 1) := by decide +kernel
theorem d7_nextUser_57 : decode cX7_nextUser 57 = .ok (.istore_n 2, 1) := by decide +kernel
theorem d7_nextUser_58 : decode cX7_nextUser 58 = .ok (.iinc 3 1, 3) := by decide +kernel
theorem d7_nextUser_61 : decode cX7_nextUser 61 = .ok (.goto (-56), 3) := by decide +kernel
theorem d7_nextUser_64 : decode cX7_nextUser 64 = .ok (.iload_n 2, 1) := by decide +kernel
theorem d7_nextUser_65 : decode cX7_nextUser 65 = .ok (.ireturn, 1) := by decide +kernel
def f7_nextUser_b5 (σ : Mem) : Nat → Int32 → Int32 → Int32 → Option Int32
  | 0, _, _, _ => none
  | n + 1, x1, x2, x3 => if (σ 6 0) ≤ x3 then some x2 else Option.bind (f7_isWaiting σ x3 x1) fun r2 => if r2 = 0 then f7_nextUser_b5 σ n x1 x2 (x3 + 1) else Option.bind (f7_canCross σ x3) fun r4 => if r4 = 0 then f7_nextUser_b5 σ n x1 x2 (x3 + 1) else if x2 < 0 then f7_nextUser_b5 σ n x1 x3 (x3 + 1) else if ¬ (x3 < 0 ∨ 16 ≤ x3.toNatClampNeg) then if (σ 8 x3.toNatClampNeg) = 2 then if ¬ (x2 < 0 ∨ 16 ≤ x2.toNatClampNeg) then if (σ 8 x2.toNatClampNeg) = 2 then f7_nextUser_b5 σ n x1 x2 (x3 + 1) else f7_nextUser_b5 σ n x1 x3 (x3 + 1) else none else f7_nextUser_b5 σ n x1 x2 (x3 + 1) else none
set_option maxHeartbeats 4000000 in
set_option maxRecDepth 100000 in
theorem t7_nextUser_b5 {p : Program} {l : Launch} {e : Env} {s : State} {m : MethodId} {args : Array Value} {below : List Frame} {meth : Method} {c : Code} {w : WV} {σ : Mem} {r : Int32} (S : CallFix p m c cX7_nextUser 4 s args gtbl RX7) (hr : meth.sig.returnType = (some .int)) (hlk : meth.locks = false) (hK : KS LM w s) (hR : Rp EM LM w σ s.heap) : ∀ (n : Nat), ∀ (x1 : Int32) (x2 : Int32) (x3 : Int32), f7_nextUser_b5 σ n x1 x2 x3 = some r → ∀ (ls : Array Slot), lv_has ls 4 [(0, .ref (w.2.2 0)), (1, .int x1), (2, .int x2), (3, .int x3)] → W p l e rm7_nextUser s m args below meth c s.heap [] 0 0 (MQ below (Qp (.int r)) args s 0 0 (fun _ => False)) (F0 m 5 ls []) := by
  obtain ⟨hx, hb, hml, hown, hts⟩ := id S
  intro n
  induction n with
  | zero =>
    intro x1 x2 x3 h0
    cases (show none = _ from h0)
  | succ n ih =>
    intro x1 x2 x3 h0 ls hl
    rw [f7_nextUser_b5] at h0
    refine lv_iload_n hx hb d7_nextUser_5 rfl (lv_at hl 3 rfl) ?_
    refine lv_aload_n hx hb d7_nextUser_6 rfl (lv_at hl 0 rfl) ?_
    refine g7_22 S hK hR d7_nextUser_7 ?_
    refine lv_iconst (v := 0) hx hb d7_nextUser_10 (by decide) ?_
    refine q_ld (k := 0) S hK hR (by decide) (eM_105 w _) (vin (by decide)) (by decide) d7_nextUser_11 ?_
    refine lv_icmp_ge (tgt := 64) hx hb d7_nextUser_12 (by decide) (fun hc1 => ?_) (fun hc1 => ?_)
    · have h0 := og_t hc1 h0
      refine lv_iload_n hx hb d7_nextUser_64 rfl (lv_at hl 2 rfl) ?_
      exact q_ipure S hr hlk h0 d7_nextUser_65
    · have h0 := og_f hc1 h0
      refine lv_aload_n hx hb d7_nextUser_15 rfl (lv_at hl 0 rfl) ?_
      refine lv_iload_n hx hb d7_nextUser_16 rfl (lv_at hl 3 rfl) ?_
      refine lv_iload_n hx hb d7_nextUser_17 rfl (lv_at hl 1 rfl) ?_
      obtain ⟨r2, hr2, h0⟩ := og_b h0
      refine k7_224 S hK hR  hr2 ⟨Nat.zero_le _, Nat.zero_le _⟩ ⟨Nat.le_of_ble_eq_true rfl, Nat.le_of_ble_eq_true rfl⟩ hl.1 (Nat.le_of_ble_eq_true rfl) d7_nextUser_18 ?_
      refine lv_if_eq (tgt := 58) hx hb d7_nextUser_21 (by decide) (fun hc3 => ?_) (fun hc3 => ?_)
      · have h0 := og_t hc3 h0
        refine lv_iinc (v := x3 + 1) (lv' := [(3, .int (x3 + 1)), (0, .ref (w.2.2 0)), (1, .int x1), (2, .int x2)]) hx hb d7_nextUser_58 hl (k := 3) rfl (ii1 _) (by decide) rfl (fun ls hl => ?_)
        refine lv_goto (tgt := 5) hx hb d7_nextUser_61 (by decide) ?_
        exact ih x1 x2 (x3 + 1) h0 _ (lv_sub hl [1, 2, 3, 0] rfl)
      · have h0 := og_f hc3 h0
        refine lv_aload_n hx hb d7_nextUser_24 rfl (lv_at hl 0 rfl) ?_
        refine lv_iload_n hx hb d7_nextUser_25 rfl (lv_at hl 3 rfl) ?_
        obtain ⟨r4, hr4, h0⟩ := og_b h0
        refine k7_227 S hK hR  hr4 ⟨Nat.zero_le _, Nat.zero_le _⟩ ⟨Nat.le_of_ble_eq_true rfl, Nat.le_of_ble_eq_true rfl⟩ hl.1 (Nat.le_of_ble_eq_true rfl) d7_nextUser_26 ?_
        refine lv_if_eq (tgt := 58) hx hb d7_nextUser_29 (by decide) (fun hc5 => ?_) (fun hc5 => ?_)
        · have h0 := og_t hc5 h0
          refine lv_iinc (v := x3 + 1) (lv' := [(3, .int (x3 + 1)), (0, .ref (w.2.2 0)), (1, .int x1), (2, .int x2)]) hx hb d7_nextUser_58 hl (k := 3) rfl (ii1 _) (by decide) rfl (fun ls hl => ?_)
          refine lv_goto (tgt := 5) hx hb d7_nextUser_61 (by decide) ?_
          exact ih x1 x2 (x3 + 1) h0 _ (lv_sub hl [1, 2, 3, 0] rfl)
        · have h0 := og_f hc5 h0
          refine lv_iload_n hx hb d7_nextUser_32 rfl (lv_at hl 2 rfl) ?_
          refine lv_if_lt (tgt := 56) hx hb d7_nextUser_33 (by decide) (fun hc6 => ?_) (fun hc6 => ?_)
          · have h0 := og_t hc6 h0
            refine lv_iload_n hx hb d7_nextUser_56 rfl (lv_at hl 3 rfl) ?_
            refine lv_istore_n (lv' := [(2, .int x3), (0, .ref (w.2.2 0)), (1, .int x1), (3, .int x3)]) hx hb d7_nextUser_57 rfl hl (by decide) rfl (fun ls hl => ?_)
            refine lv_iinc (v := x3 + 1) (lv' := [(3, .int (x3 + 1)), (2, .int x3), (0, .ref (w.2.2 0)), (1, .int x1)]) hx hb d7_nextUser_58 hl (k := 3) rfl (ii1 _) (by decide) rfl (fun ls hl => ?_)
            refine lv_goto (tgt := 5) hx hb d7_nextUser_61 (by decide) ?_
            exact ih x1 x3 (x3 + 1) h0 _ (lv_sub hl [2, 3, 1, 0] rfl)
          · have h0 := og_f hc6 h0
            refine lv_aload_n hx hb d7_nextUser_36 rfl (lv_at hl 0 rfl) ?_
            refine g7_28 S hK hR d7_nextUser_37 ?_
            refine lv_iload_n hx hb d7_nextUser_40 rfl (lv_at hl 3 rfl) ?_
            obtain ⟨hi7, h0⟩ := og_if h0
            refine q_ld (k := x3.toNatClampNeg) S hK hR (by decide) (eM_107 w _) hi7 rfl d7_nextUser_41 ?_
            refine lv_iconst (v := 2) hx hb d7_nextUser_42 (by decide) ?_
            refine lv_icmp_ne (tgt := 58) hx hb d7_nextUser_43 (by decide) (fun hc8 => ?_) (fun hc8 => ?_)
            · have h0 := og_f hc8 h0
              refine lv_iinc (v := x3 + 1) (lv' := [(3, .int (x3 + 1)), (0, .ref (w.2.2 0)), (1, .int x1), (2, .int x2)]) hx hb d7_nextUser_58 hl (k := 3) rfl (ii1 _) (by decide) rfl (fun ls hl => ?_)
              refine lv_goto (tgt := 5) hx hb d7_nextUser_61 (by decide) ?_
              exact ih x1 x2 (x3 + 1) h0 _ (lv_sub hl [1, 2, 3, 0] rfl)
            · have h0 := og_t hc8 h0
              refine lv_aload_n hx hb d7_nextUser_46 rfl (lv_at hl 0 rfl) ?_
              refine g7_28 S hK hR d7_nextUser_47 ?_
              refine lv_iload_n hx hb d7_nextUser_50 rfl (lv_at hl 2 rfl) ?_
              obtain ⟨hi9, h0⟩ := og_if h0
              refine q_ld (k := x2.toNatClampNeg) S hK hR (by decide) (eM_107 w _) hi9 rfl d7_nextUser_51 ?_
              refine lv_iconst (v := 2) hx hb d7_nextUser_52 (by decide) ?_
              refine lv_icmp_eq (tgt := 58) hx hb d7_nextUser_53 (by decide) (fun hc10 => ?_) (fun hc10 => ?_)
              · have h0 := og_t hc10 h0
                refine lv_iinc (v := x3 + 1) (lv' := [(3, .int (x3 + 1)), (0, .ref (w.2.2 0)), (1, .int x1), (2, .int x2)]) hx hb d7_nextUser_58 hl (k := 3) rfl (ii1 _) (by decide) rfl (fun ls hl => ?_)
                refine lv_goto (tgt := 5) hx hb d7_nextUser_61 (by decide) ?_
                exact ih x1 x2 (x3 + 1) h0 _ (lv_sub hl [1, 2, 3, 0] rfl)
              · have h0 := og_f hc10 h0
                refine lv_iload_n hx hb d7_nextUser_56 rfl (lv_at hl 3 rfl) ?_
                refine lv_istore_n (lv' := [(2, .int x3), (0, .ref (w.2.2 0)), (1, .int x1), (3, .int x3)]) hx hb d7_nextUser_57 rfl hl (by decide) rfl (fun ls hl => ?_)
                refine lv_iinc (v := x3 + 1) (lv' := [(3, .int (x3 + 1)), (2, .int x3), (0, .ref (w.2.2 0)), (1, .int x1)]) hx hb d7_nextUser_58 hl (k := 3) rfl (ii1 _) (by decide) rfl (fun ls hl => ?_)
                refine lv_goto (tgt := 5) hx hb d7_nextUser_61 (by decide) ?_
                exact ih x1 x3 (x3 + 1) h0 _ (lv_sub hl [2, 3, 1, 0] rfl)
def f7_nextUser (σ : Mem) (x1 : Int32) : Option Int32 := f7_nextUser_b5 σ 1000 x1 (-4) 0
set_option maxHeartbeats 4000000 in
set_option maxRecDepth 100000 in
theorem c7_nextUser (l : Launch) {w : WV} {σ : Mem} {x1 : Int32} {r : Int32} (h0 : f7_nextUser σ x1 = some r) : Met l yX7_nextUser (wy yX7_nextUser cX7_nextUser 4 (some .int)) rm7_nextUser (Pw EM LM w [.ref (w.2.2 0), .int x1] σ) (Qp (.int r)) 0 0 (fun _ => False) := by
  refine mk_met (by decide) (Nat.le_of_ble_eq_true rfl) ?_
  intro p e s m below meth c S hr hlk hK hR ls hl
  obtain ⟨hx, hb, hml, hown, hts⟩ := id S
  have hl : lv_has ls 4 [(0, .ref (w.2.2 0)), (1, .int x1)] := hl
  unfold f7_nextUser at h0
  refine lv_bipush (v := (-4)) hx hb d7_nextUser_0 (by decide) ?_
  refine lv_istore_n (lv' := [(2, .int (-4)), (0, .ref (w.2.2 0)), (1, .int x1)]) hx hb d7_nextUser_2 rfl hl (by decide) rfl (fun ls hl => ?_)
  refine lv_iconst (v := 0) hx hb d7_nextUser_3 (by decide) ?_
  refine lv_istore_n (lv' := [(3, .int 0), (2, .int (-4)), (0, .ref (w.2.2 0)), (1, .int x1)]) hx hb d7_nextUser_4 rfl hl (by decide) rfl (fun ls hl => ?_)
  exact t7_nextUser_b5 S hr hlk hK hR 1000 x1 (-4) 0 h0 _ (lv_sub hl [2, 3, 1, 0] rfl)
set_option maxHeartbeats 4000000 in
set_option maxRecDepth 100000 in
theorem k7_230 {p : Program} {l : Launch} {e : Env} {R : Room} {s : State} {m : MethodId} {args : Array Value} {below : List Frame} {meth : Method} {c : Code} {H : Heap} {locs : List Loc} {cells slots : Nat} {Q : State → Prop} {cc : ByteArray} {pc nL : Nat} {ls : Array Slot} {rest : List Value} {w : WV} {σ : Mem} {x1 : Int32} {r : Int32} (S : CallFix p m c cc nL s args gtbl RX7) (hK : KS LM w s) (hR : Rp EM LM w σ H) (h0 : f7_nextUser σ x1 = some r) (hf : cells + 0 ≤ R.cells ∧ slots + 0 ≤ R.slots) (hRm : rm7_nextUser.frames + 1 ≤ R.frames ∧ 8 + (4 + 11) + rm7_nextUser.locals ≤ R.locals) (hl : ls.size = nL) (hW : (rest.map fun v => v.category).sum ≤ 8) (hdg : decode cc pc = .ok (.invokevirtual 230, 3)) (kk : W p l e R s m args below meth c H locs cells slots Q (F0 m (pc + 3) ls (.int r :: rest))) : W p l e R s m args below meth c H locs cells slots Q (F0 m pc ls (.int x1 :: .ref (w.2.2 0) :: rest)) := r_endp (run_V (n := 1) (As := [.int x1]) S hK hR (by decide) (eM_7 w _) rfl (gw_V (gt_at 1163 (by decide +kernel) (by decide +kernel)) (gt_at 1165 (by decide +kernel) (by decide +kernel)) (gt_at 67 (by decide +kernel) (by decide +kernel)) (gt_at 86 (by decide +kernel) (by decide +kernel)) (gt_at 1166 (by decide +kernel) (by decide +kernel))) (by decide +kernel) rfl (c7_nextUser l h0) ⟨rfl, rfl⟩ hRm hf hl rfl hW hdg) kk
end
section
/-! FourTenGatesModel.goUsers(I)V -/
abbrev rm7_goUsers : Room := { frames := 2, cells := 0, slots := 0, locals := 45 }
theorem d7_goUsers_0 : decode cX7_goUsers 0 = .ok (.iload_n 1, 1) := by decide +kernel
theorem d7_goUsers_1 : decode cX7_goUsers 1 = .ok (.aload_n 0, 1) := by decide +kernel
theorem d7_goUsers_2 : decode cX7_goUsers 2 = .ok (.getfield 192, 3) := by decide +kernel
theorem d7_goUsers_5 : decode cX7_goUsers 5 = .ok (.if_icmp .lt 19, 3) := by decide +kernel
theorem d7_goUsers_8 : decode cX7_goUsers 8 = .ok (.aload_n 0, 1) := by decide +kernel
theorem d7_goUsers_9 : decode cX7_goUsers 9 = .ok (.iload_n 1, 1) := by decide +kernel
theorem d7_goUsers_10 : decode cX7_goUsers 10 = .ok (.invokevirtual 199, 3) := by decide +kernel
theorem d7_goUsers_13 : decode cX7_goUsers 13 = .ok (.ifCond .ne 11, 3) := by decide +kernel
theorem d7_goUsers_16 : decode cX7_goUsers 16 = .ok (.aload_n 0, 1) := by decide +kernel
theorem d7_goUsers_17 : decode cX7_goUsers 17 = .ok (.iload_n 1, 1) := by decide +kernel
theorem d7_goUsers_18 : decode cX7_goUsers 18 = .ok (.invokevirtual 230, 3) := by decide +kernel
theorem d7_goUsers_21 : decode cX7_goUsers 21 = .ok (.goto 5, 3) := by decide +kernel
theorem d7_goUsers_24 : decode cX7_goUsers 24 = .ok (.bipush (-4), 2) := by decide +kernel
theorem d7_goUsers_26 : decode cX7_goUsers 26 = .ok (.istore_n 2, 1) := by decide +kernel
theorem d7_goUsers_27 : decode cX7_goUsers 27 = .ok (.iload_n 2, 1) := by decide +kernel
theorem d7_goUsers_28 : decode cX7_goUsers 28 = .ok (.ifCond .lt 45, 3) := by decide +kernel
theorem d7_goUsers_31 : decode cX7_goUsers 31 = .ok (.aload_n 0, 1) := by decide +kernel
theorem d7_goUsers_32 : decode cX7_goUsers 32 = .ok (.getfield 82, 3) := by decide +kernel
theorem d7_goUsers_35 : decode cX7_goUsers 35 = .ok (.iload_n 2, 1) := by decide +kernel
theorem d7_goUsers_36 : decode cX7_goUsers 36 = .ok (.iload_n 1, 1) := by decide +kernel
theorem d7_goUsers_37 : decode cX7_goUsers 37 = .ok (.iastore, 1) := by decide +kernel
theorem d7_goUsers_38 : decode cX7_goUsers 38 = .ok (.aload_n 0, 1) := by decide +kernel
theorem d7_goUsers_39 : decode cX7_goUsers 39 = .ok (.iload_n 1, 1) := by decide +kernel
theorem d7_goUsers_40 : decode cX7_goUsers 40 = .ok (.aload_n 0, 1) := by decide +kernel
theorem d7_goUsers_41 : decode cX7_goUsers 41 = .ok (.getfield 28, 3) := by decide +kernel
theorem d7_goUsers_44 : decode cX7_goUsers 44 = .ok (.iload_n 2, 1) := by decide +kernel
theorem d7_goUsers_45 : decode cX7_goUsers 45 = .ok (.iaload, 1) := by decide +kernel
theorem d7_goUsers_46 : decode cX7_goUsers 46 = .ok (.ifCond .ne 7, 3) := by decide +kernel
theorem d7_goUsers_49 : decode cX7_goUsers 49 = .ok (.iconst 2, 1) := by decide +kernel
theorem d7_goUsers_50 : decode cX7_goUsers 50 = .ok (.goto 19, 3) := by decide +kernel
theorem d7_goUsers_53 : decode cX7_goUsers 53 = .ok (.aload_n 0, 1) := by decide +kernel
theorem d7_goUsers_54 : decode cX7_goUsers 54 = .ok (.getfield 28, 3) := by decide +kernel
theorem d7_goUsers_57 : decode cX7_goUsers 57 = .ok (.iload_n 2, 1) := by decide +kernel
theorem d7_goUsers_58 : decode cX7_goUsers 58 = .ok (.iaload, 1) := by decide +kernel
theorem d7_goUsers_59 : decode cX7_goUsers 59 = .ok (.iconst 1, 1) := by decide +kernel
theorem d7_goUsers_60 : decode cX7_goUsers 60 = .ok (.if_icmp .ne 8, 3) := by decide +kernel
theorem d7_goUsers_63 : decode cX7_goUsers 63 = .ok (.bipush 30, 2) := by decide +kernel
theorem d7_goUsers_65 : decode cX7_goUsers 65 = .ok (.goto 4, 3) := by decide +kernel
theorem d7_goUsers_68 : decode cX7_goUsers 68 = .ok (.iconst 1, 1) := by decide +kernel
theorem d7_goUsers_69 : decode cX7_goUsers 69 = .ok (.iadd, 1) := by decide +kernel
theorem d7_goUsers_70 : decode cX7_goUsers 70 = .ok (.putfield 192, 3) := by decide +kernel
theorem d7_goUsers_73 : decode cX7_goUsers 73 = .ok (.iconst 0, 1) := by decide +kernel
theorem d7_goUsers_74 : decode cX7_goUsers 74 = .ok (.istore_n 3, 1) := by decide +kernel
theorem d7_goUsers_75 : decode cX7_goUsers 75 = .ok (.iload_n 3, 1) := by decide +kernel
theorem d7_goUsers_76 : decode cX7_goUsers 76 = .ok (.aload_n 0, 1) := by decide +kernel
theorem d7_goUsers_77 : decode cX7_goUsers 77 = .ok (.getfield 22, 3) := by decide +kernel
theorem d7_goUsers_80 : decode cX7_goUsers 80 = .ok (.iconst 0, 1) := by decide +kernel
theorem d7_goUsers_81 : decode cX7_goUsers 81 = .ok (.iaload, 1) := by decide +kernel
theorem d7_goUsers_82 : decode cX7_goUsers 82 = .ok (.if_icmp .ge 54, 3) := by decide +kernel
theorem d7_goUsers_85 : decode cX7_goUsers 85 = .ok (.aload_n 0, 1) := by decide +kernel
theorem d7_goUsers_86 : decode cX7_goUsers 86 = .ok (.iload_n 3, 1) := by decide +kernel
theorem d7_goUsers_87 : decode cX7_goUsers 87 = .ok (.iload_n 1, 1) := by decide +kernel
theorem d7_goUsers_88 : decode cX7_goUsers 88 = .ok (.invokevirtual 224, 3) := by decide +kernel
theorem d7_goUsers_91 : decode cX7_goUsers 91 = .ok (.ifCond .eq 39, 3) := by decide +kernel
theorem d7_goUsers_94 : decode cX7_goUsers 94 = .ok (.aload_n 0, 1) := by decide +kernel
theorem d7_goUsers_95 : decode cX7_goUsers 95 = .ok (.getfield 85, 3) := by decide +kernel
theorem d7_goUsers_98 : decode cX7_goUsers 98 = .ok (.iload_n 3, 1) := by decide +kernel
theorem d7_goUsers_99 : decode cX7_goUsers 99 = .ok (.dup2, 1) := by decide +kernel
theorem d7_goUsers_100 : decode cX7_goUsers 100 = .ok (.iaload, 1) := by decide +kernel
theorem d7_goUsers_101 : decode cX7_goUsers 101 = .ok (.iconst 1, 1) := by decide +kernel
theorem d7_goUsers_102 : decode cX7_goUsers 102 = .ok (.iadd, 1) := by decide +kernel
theorem d7_goUsers_103 : decode cX7_goUsers 103 = .ok (.iastore, 1) := by decide +kernel
theorem d7_goUsers_104 : decode cX7_goUsers 104 = .ok (.aload_n 0, 1) := by decide +kernel
theorem d7_goUsers_105 : decode cX7_goUsers 105 = .ok (.getfield 88, 3) := by decide +kernel
theorem d7_goUsers_108 : decode cX7_goUsers 108 = .ok (.iload_n 3, 1) := by decide +kernel
theorem d7_goUsers_109 : decode cX7_goUsers 109 = .ok (.aload_n 0, 1) := by decide +kernel
theorem d7_goUsers_110 : decode cX7_goUsers 110 = .ok (.getfield 85, 3) := by decide +kernel
theorem d7_goUsers_113 : decode cX7_goUsers 113 = .ok (.iload_n 3, 1) := by decide +kernel
theorem d7_goUsers_114 : decode cX7_goUsers 114 = .ok (.iaload, 1) := by decide +kernel
theorem d7_goUsers_115 : decode cX7_goUsers 115 = .ok (.aload_n 0, 1) := by decide +kernel
theorem d7_goUsers_116 : decode cX7_goUsers 116 = .ok (.getfield 31, 3) := by decide +kernel
theorem d7_goUsers_119 : decode cX7_goUsers 119 = .ok (.iconst 2, 1) := by decide +kernel
theorem d7_goUsers_120 : decode cX7_goUsers 120 = .ok (.iaload, 1) := by decide +kernel
theorem d7_goUsers_121 : decode cX7_goUsers 121 = .ok (.if_icmp .ne 7, 3) := by decide +kernel
theorem d7_goUsers_124 : decode cX7_goUsers 124 = .ok (.iconst 1, 1) := by decide +kernel
theorem d7_goUsers_125 : decode cX7_goUsers 125 = .ok (.goto 4, 3) := by decide +kernel
theorem d7_goUsers_128 : decode cX7_goUsers 128 = .ok (.iconst 0, 1) := by decide +kernel
theorem d7_goUsers_129 : decode cX7_goUsers 129 = .ok (.bastore, 1) := by decide +kernel
theorem d7_goUsers_130 : decode cX7_goUsers 130 = .ok (.iinc 3 1, 3) := by decide +kernel
theorem d7_goUsers_133 : decode cX7_goUsers 133 = .ok (.goto (-58), 3) := by decide +kernel
theorem d7_goUsers_136 : decode cX7_goUsers 136 = .ok (.return_, 1) := by decide +kernel
def f7_goUsers_b129 (k75 : Mem → Int32 → Int32 → Option Mem) (σ : Mem) (x1 : Int32) (x3 : Int32) (s1 : Int32) (s2 : Int32) : Option Mem := if ¬ (s1 < 0 ∨ 8 ≤ s1.toNatClampNeg) then (if s2 = 0 ∨ s2 = 1 then (bm (mu σ 32 s1.toNatClampNeg s2) fun σ3 => k75 σ3 x1 (x3 + 1)) else none) else none
set_option maxHeartbeats 4000000 in
set_option maxRecDepth 100000 in
theorem t7_goUsers_b129 {p : Program} {l : Launch} {e : Env} {s : State} {m : MethodId} {args : Array Value} {below : List Frame} {meth : Method} {c : Code} {w : WV} {σ' : Mem} {k75 : Mem → Int32 → Int32 → Option Mem} (S : CallFix p m c cX7_goUsers 4 s args gtbl RX7) (hr : meth.sig.returnType = none) (hlk : meth.locks = false) (hK : KS LM w s) (hk75 : ∀ (σ : Mem) (x1 : Int32) (x3 : Int32), k75 σ x1 x3 = some σ' → ∀ (H : Heap) (locs : List Loc), Rp EM LM w σ H → va_S (AW LM w) s.heap H locs → ∀ (ls : Array Slot), lv_has ls 4 [(0, .ref (w.2.2 0)), (1, .int x1), (3, .int x3)] → W p l e rm7_goUsers s m args below meth c H locs 0 0 (MQ below (Qw EM LM w σ' none) args s 0 0 (AW LM w)) (F0 m 75 ls [])) : ∀ (σ : Mem) (x1 : Int32) (x3 : Int32) (s1 : Int32) (s2 : Int32), f7_goUsers_b129 k75 σ x1 x3 s1 s2 = some σ' → ∀ (H : Heap) (locs : List Loc), Rp EM LM w σ H → va_S (AW LM w) s.heap H locs → ∀ (ls : Array Slot), lv_has ls 4 [(0, .ref (w.2.2 0)), (1, .int x1), (3, .int x3)] → W p l e rm7_goUsers s m args below meth c H locs 0 0 (MQ below (Qw EM LM w σ' none) args s 0 0 (AW LM w)) (F0 m 129 ls [.int s2, .int s1, .ref (w.2.2 32)]) := by
  obtain ⟨hx, hb, hml, hown, hts⟩ := id S
  intro σ x1 x3 s1 s2 h0 H locs hR hS ls hl
  unfold f7_goUsers_b129 at h0
  obtain ⟨hi1, h0⟩ := og_if h0
  obtain ⟨hb2, h0⟩ := og_if h0
  obtain ⟨σ3, hm3, h0⟩ := og_m h0
  refine q_zst S hK hR hS (by decide) (eM_131 w) hb2 hi1 rfl hm3 d7_goUsers_129 (fun H locs hR hS => ?_)
  refine lv_iinc (v := x3 + 1) (lv' := [(3, .int (x3 + 1)), (0, .ref (w.2.2 0)), (1, .int x1)]) hx hb d7_goUsers_130 hl (k := 2) rfl (ii1 _) (by decide) rfl (fun ls hl => ?_)
  refine lv_goto (tgt := 75) hx hb d7_goUsers_133 (by decide) ?_
  exact hk75 σ3 x1 (x3 + 1) h0 _ _ hR hS _ (lv_sub hl [1, 2, 0] rfl)
def f7_goUsers_b75 : Nat → Mem → Int32 → Int32 → Option Mem
  | 0, _, _, _ => none
  | n + 1, σ, x1, x3 => if (σ 6 0) ≤ x3 then some σ else Option.bind (f7_isWaiting σ x3 x1) fun r2 => if r2 = 0 then f7_goUsers_b75 n σ x1 (x3 + 1) else if ¬ (x3 < 0 ∨ 8 ≤ x3.toNatClampNeg) then if ¬ (x3 < 0 ∨ 8 ≤ x3.toNatClampNeg) then (bm (mu σ 31 x3.toNatClampNeg ((σ 31 x3.toNatClampNeg) + 1)) fun σ6 => if ¬ (x3 < 0 ∨ 8 ≤ x3.toNatClampNeg) then if (σ6 31 x3.toNatClampNeg) = (σ6 9 2) then f7_goUsers_b129 (f7_goUsers_b75 n) σ6 x1 x3 x3 1 else f7_goUsers_b129 (f7_goUsers_b75 n) σ6 x1 x3 x3 0 else none) else none else none
set_option maxHeartbeats 4000000 in
set_option maxRecDepth 100000 in
theorem t7_goUsers_b75 {p : Program} {l : Launch} {e : Env} {s : State} {m : MethodId} {args : Array Value} {below : List Frame} {meth : Method} {c : Code} {w : WV} {σ' : Mem} (S : CallFix p m c cX7_goUsers 4 s args gtbl RX7) (hr : meth.sig.returnType = none) (hlk : meth.locks = false) (hK : KS LM w s) : ∀ (n : Nat), ∀ (σ : Mem) (x1 : Int32) (x3 : Int32), f7_goUsers_b75  n σ x1 x3 = some σ' → ∀ (H : Heap) (locs : List Loc), Rp EM LM w σ H → va_S (AW LM w) s.heap H locs → ∀ (ls : Array Slot), lv_has ls 4 [(0, .ref (w.2.2 0)), (1, .int x1), (3, .int x3)] → W p l e rm7_goUsers s m args below meth c H locs 0 0 (MQ below (Qw EM LM w σ' none) args s 0 0 (AW LM w)) (F0 m 75 ls []) := by
  obtain ⟨hx, hb, hml, hown, hts⟩ := id S
  intro n
  induction n with
  | zero =>
    intro σ x1 x3 h0
    cases (show none = _ from h0)
  | succ n ih =>
    intro σ x1 x3 h0 H locs hR hS ls hl
    rw [f7_goUsers_b75] at h0
    refine lv_iload_n hx hb d7_goUsers_75 rfl (lv_at hl 2 rfl) ?_
    refine lv_aload_n hx hb d7_goUsers_76 rfl (lv_at hl 0 rfl) ?_
    refine g7_22 S hK hR d7_goUsers_77 ?_
    refine lv_iconst (v := 0) hx hb d7_goUsers_80 (by decide) ?_
    refine q_ld (k := 0) S hK hR (by decide) (eM_105 w _) (vin (by decide)) (by decide) d7_goUsers_81 ?_
    refine lv_icmp_ge (tgt := 136) hx hb d7_goUsers_82 (by decide) (fun hc1 => ?_) (fun hc1 => ?_)
    · have h0 := og_t hc1 h0
      exact q_vret S hr hlk hR hS h0 d7_goUsers_136
    · have h0 := og_f hc1 h0
      refine lv_aload_n hx hb d7_goUsers_85 rfl (lv_at hl 0 rfl) ?_
      refine lv_iload_n hx hb d7_goUsers_86 rfl (lv_at hl 2 rfl) ?_
      refine lv_iload_n hx hb d7_goUsers_87 rfl (lv_at hl 1 rfl) ?_
      obtain ⟨r2, hr2, h0⟩ := og_b h0
      refine k7_224 S hK hR  hr2 ⟨Nat.zero_le _, Nat.zero_le _⟩ ⟨Nat.le_of_ble_eq_true rfl, Nat.le_of_ble_eq_true rfl⟩ hl.1 (Nat.le_of_ble_eq_true rfl) d7_goUsers_88 ?_
      refine lv_if_eq (tgt := 130) hx hb d7_goUsers_91 (by decide) (fun hc3 => ?_) (fun hc3 => ?_)
      · have h0 := og_t hc3 h0
        refine lv_iinc (v := x3 + 1) (lv' := [(3, .int (x3 + 1)), (0, .ref (w.2.2 0)), (1, .int x1)]) hx hb d7_goUsers_130 hl (k := 2) rfl (ii1 _) (by decide) rfl (fun ls hl => ?_)
        refine lv_goto (tgt := 75) hx hb d7_goUsers_133 (by decide) ?_
        exact ih σ x1 (x3 + 1) h0 _ _ hR hS _ (lv_sub hl [1, 2, 0] rfl)
      · have h0 := og_f hc3 h0
        refine lv_aload_n hx hb d7_goUsers_94 rfl (lv_at hl 0 rfl) ?_
        refine g7_85 S hK hR d7_goUsers_95 ?_
        refine lv_iload_n hx hb d7_goUsers_98 rfl (lv_at hl 2 rfl) ?_
        refine lv_dup2_11 hx hb d7_goUsers_99 rfl rfl ?_
        obtain ⟨hi4, h0⟩ := og_if h0
        refine q_ld (k := x3.toNatClampNeg) S hK hR (by decide) (eM_130 w _) hi4 rfl d7_goUsers_100 ?_
        refine lv_iconst (v := 1) hx hb d7_goUsers_101 (by decide) ?_
        refine lv_iadd hx hb d7_goUsers_102 ?_
        obtain ⟨hi5, h0⟩ := og_if h0
        obtain ⟨σ6, hm6, h0⟩ := og_m h0
        refine q_st S hK hR hS (by decide) (eM_130 w) hi5 rfl hm6 d7_goUsers_103 (fun H locs hR hS => ?_)
        refine lv_aload_n hx hb d7_goUsers_104 rfl (lv_at hl 0 rfl) ?_
        refine g7_88 S hK hR d7_goUsers_105 ?_
        refine lv_iload_n hx hb d7_goUsers_108 rfl (lv_at hl 2 rfl) ?_
        refine lv_aload_n hx hb d7_goUsers_109 rfl (lv_at hl 0 rfl) ?_
        refine g7_85 S hK hR d7_goUsers_110 ?_
        refine lv_iload_n hx hb d7_goUsers_113 rfl (lv_at hl 2 rfl) ?_
        obtain ⟨hi7, h0⟩ := og_if h0
        refine q_ld (k := x3.toNatClampNeg) S hK hR (by decide) (eM_130 w _) hi7 rfl d7_goUsers_114 ?_
        refine lv_aload_n hx hb d7_goUsers_115 rfl (lv_at hl 0 rfl) ?_
        refine g7_31 S hK hR d7_goUsers_116 ?_
        refine lv_iconst (v := 2) hx hb d7_goUsers_119 (by decide) ?_
        refine q_ld (k := 2) S hK hR (by decide) (eM_108 w _) (vin (by decide)) (by decide) d7_goUsers_120 ?_
        refine lv_icmp_ne (tgt := 128) hx hb d7_goUsers_121 (by decide) (fun hc8 => ?_) (fun hc8 => ?_)
        · have h0 := og_f hc8 h0
          refine lv_iconst (v := 0) hx hb d7_goUsers_128 (by decide) ?_
          exact t7_goUsers_b129 S hr hlk hK ih σ6 x1 x3 x3 0 h0 _ _ hR hS _ (lv_sub hl [0, 1, 2] rfl)
        · have h0 := og_t hc8 h0
          refine lv_iconst (v := 1) hx hb d7_goUsers_124 (by decide) ?_
          refine lv_goto (tgt := 129) hx hb d7_goUsers_125 (by decide) ?_
          exact t7_goUsers_b129 S hr hlk hK ih σ6 x1 x3 x3 1 h0 _ _ hR hS _ (lv_sub hl [0, 1, 2] rfl)
def f7_goUsers_b69 (σ : Mem) (x1 : Int32) (s1 : Int32) (s2 : Int32) : Option Mem := bm (mu σ 0 36 (s1 + s2)) fun σ1 => f7_goUsers_b75 1000 σ1 x1 0
set_option maxHeartbeats 4000000 in
set_option maxRecDepth 100000 in
theorem t7_goUsers_b69 {p : Program} {l : Launch} {e : Env} {s : State} {m : MethodId} {args : Array Value} {below : List Frame} {meth : Method} {c : Code} {w : WV} {σ' : Mem} (S : CallFix p m c cX7_goUsers 4 s args gtbl RX7) (hr : meth.sig.returnType = none) (hlk : meth.locks = false) (hK : KS LM w s) : ∀ (σ : Mem) (x1 : Int32) (s1 : Int32) (s2 : Int32), f7_goUsers_b69  σ x1 s1 s2 = some σ' → ∀ (H : Heap) (locs : List Loc), Rp EM LM w σ H → va_S (AW LM w) s.heap H locs → ∀ (ls : Array Slot), lv_has ls 4 [(0, .ref (w.2.2 0)), (1, .int x1)] → W p l e rm7_goUsers s m args below meth c H locs 0 0 (MQ below (Qw EM LM w σ' none) args s 0 0 (AW LM w)) (F0 m 69 ls [.int s2, .int s1, .ref (w.2.2 0)]) := by
  obtain ⟨hx, hb, hml, hown, hts⟩ := id S
  intro σ x1 s1 s2 h0 H locs hR hS ls hl
  unfold f7_goUsers_b69 at h0
  refine lv_iadd hx hb d7_goUsers_69 ?_
  obtain ⟨σ1, hm1, h0⟩ := og_m h0
  refine u7_192 S hK hR hS hm1 d7_goUsers_70 (fun H locs hR hS => ?_)
  refine lv_iconst (v := 0) hx hb d7_goUsers_73 (by decide) ?_
  refine lv_istore_n (lv' := [(3, .int 0), (0, .ref (w.2.2 0)), (1, .int x1)]) hx hb d7_goUsers_74 rfl hl (by decide) rfl (fun ls hl => ?_)
  exact t7_goUsers_b75 S hr hlk hK 1000 σ1 x1 0 h0 _ _ hR hS _ (lv_sub hl [1, 2, 0] rfl)
def f7_goUsers_b26 (σ : Mem) (x1 : Int32) (s0 : Int32) : Option Mem := if s0 < 0 then f7_goUsers_b75 1000 σ x1 0 else if ¬ (s0 < 0 ∨ 8 ≤ s0.toNatClampNeg) then (bm (mu σ 30 s0.toNatClampNeg x1) fun σ3 => if ¬ (s0 < 0 ∨ 16 ≤ s0.toNatClampNeg) then if (σ3 8 s0.toNatClampNeg) = 0 then f7_goUsers_b69 σ3 x1 x1 2 else if ¬ (s0 < 0 ∨ 16 ≤ s0.toNatClampNeg) then if (σ3 8 s0.toNatClampNeg) = 1 then f7_goUsers_b69 σ3 x1 x1 30 else f7_goUsers_b69 σ3 x1 x1 1 else none else none) else none
set_option maxHeartbeats 4000000 in
set_option maxRecDepth 100000 in
theorem t7_goUsers_b26 {p : Program} {l : Launch} {e : Env} {s : State} {m : MethodId} {args : Array Value} {below : List Frame} {meth : Method} {c : Code} {w : WV} {σ' : Mem} (S : CallFix p m c cX7_goUsers 4 s args gtbl RX7) (hr : meth.sig.returnType = none) (hlk : meth.locks = false) (hK : KS LM w s) : ∀ (σ : Mem) (x1 : Int32) (s0 : Int32), f7_goUsers_b26  σ x1 s0 = some σ' → ∀ (H : Heap) (locs : List Loc), Rp EM LM w σ H → va_S (AW LM w) s.heap H locs → ∀ (ls : Array Slot), lv_has ls 4 [(0, .ref (w.2.2 0)), (1, .int x1)] → W p l e rm7_goUsers s m args below meth c H locs 0 0 (MQ below (Qw EM LM w σ' none) args s 0 0 (AW LM w)) (F0 m 26 ls [.int s0]) := by
  obtain ⟨hx, hb, hml, hown, hts⟩ := id S
  intro σ x1 s0 h0 H locs hR hS ls hl
  unfold f7_goUsers_b26 at h0
  refine lv_istore_n (lv' := [(2, .int s0), (0, .ref (w.2.2 0)), (1, .int x1)]) hx hb d7_goUsers_26 rfl hl (by decide) rfl (fun ls hl => ?_)
  refine lv_iload_n hx hb d7_goUsers_27 rfl (lv_at hl 0 rfl) ?_
  refine lv_if_lt (tgt := 73) hx hb d7_goUsers_28 (by decide) (fun hc1 => ?_) (fun hc1 => ?_)
  · have h0 := og_t hc1 h0
    refine lv_iconst (v := 0) hx hb d7_goUsers_73 (by decide) ?_
    refine lv_istore_n (lv' := [(3, .int 0), (2, .int s0), (0, .ref (w.2.2 0)), (1, .int x1)]) hx hb d7_goUsers_74 rfl hl (by decide) rfl (fun ls hl => ?_)
    exact t7_goUsers_b75 S hr hlk hK 1000 σ x1 0 h0 _ _ hR hS _ (lv_sub hl [2, 3, 0] rfl)
  · have h0 := og_f hc1 h0
    refine lv_aload_n hx hb d7_goUsers_31 rfl (lv_at hl 1 rfl) ?_
    refine g7_82 S hK hR d7_goUsers_32 ?_
    refine lv_iload_n hx hb d7_goUsers_35 rfl (lv_at hl 0 rfl) ?_
    refine lv_iload_n hx hb d7_goUsers_36 rfl (lv_at hl 2 rfl) ?_
    obtain ⟨hi2, h0⟩ := og_if h0
    obtain ⟨σ3, hm3, h0⟩ := og_m h0
    refine q_st S hK hR hS (by decide) (eM_129 w) hi2 rfl hm3 d7_goUsers_37 (fun H locs hR hS => ?_)
    refine lv_aload_n hx hb d7_goUsers_38 rfl (lv_at hl 1 rfl) ?_
    refine lv_iload_n hx hb d7_goUsers_39 rfl (lv_at hl 2 rfl) ?_
    refine lv_aload_n hx hb d7_goUsers_40 rfl (lv_at hl 1 rfl) ?_
    refine g7_28 S hK hR d7_goUsers_41 ?_
    refine lv_iload_n hx hb d7_goUsers_44 rfl (lv_at hl 0 rfl) ?_
    obtain ⟨hi4, h0⟩ := og_if h0
    refine q_ld (k := s0.toNatClampNeg) S hK hR (by decide) (eM_107 w _) hi4 rfl d7_goUsers_45 ?_
    refine lv_if_ne (tgt := 53) hx hb d7_goUsers_46 (by decide) (fun hc5 => ?_) (fun hc5 => ?_)
    · have h0 := og_f hc5 h0
      refine lv_aload_n hx hb d7_goUsers_53 rfl (lv_at hl 1 rfl) ?_
      refine g7_28 S hK hR d7_goUsers_54 ?_
      refine lv_iload_n hx hb d7_goUsers_57 rfl (lv_at hl 0 rfl) ?_
      obtain ⟨hi6, h0⟩ := og_if h0
      refine q_ld (k := s0.toNatClampNeg) S hK hR (by decide) (eM_107 w _) hi6 rfl d7_goUsers_58 ?_
      refine lv_iconst (v := 1) hx hb d7_goUsers_59 (by decide) ?_
      refine lv_icmp_ne (tgt := 68) hx hb d7_goUsers_60 (by decide) (fun hc7 => ?_) (fun hc7 => ?_)
      · have h0 := og_f hc7 h0
        refine lv_iconst (v := 1) hx hb d7_goUsers_68 (by decide) ?_
        exact t7_goUsers_b69 S hr hlk hK σ3 x1 x1 1 h0 _ _ hR hS _ (lv_sub hl [1, 2] rfl)
      · have h0 := og_t hc7 h0
        refine lv_bipush (v := 30) hx hb d7_goUsers_63 (by decide) ?_
        refine lv_goto (tgt := 69) hx hb d7_goUsers_65 (by decide) ?_
        exact t7_goUsers_b69 S hr hlk hK σ3 x1 x1 30 h0 _ _ hR hS _ (lv_sub hl [1, 2] rfl)
    · have h0 := og_t hc5 h0
      refine lv_iconst (v := 2) hx hb d7_goUsers_49 (by decide) ?_
      refine lv_goto (tgt := 69) hx hb d7_goUsers_50 (by decide) ?_
      exact t7_goUsers_b69 S hr hlk hK σ3 x1 x1 2 h0 _ _ hR hS _ (lv_sub hl [1, 2] rfl)
def f7_goUsers_b24 (σ : Mem) (x1 : Int32) : Option Mem := f7_goUsers_b26 σ x1 (-4)
set_option maxHeartbeats 4000000 in
set_option maxRecDepth 100000 in
theorem t7_goUsers_b24 {p : Program} {l : Launch} {e : Env} {s : State} {m : MethodId} {args : Array Value} {below : List Frame} {meth : Method} {c : Code} {w : WV} {σ' : Mem} (S : CallFix p m c cX7_goUsers 4 s args gtbl RX7) (hr : meth.sig.returnType = none) (hlk : meth.locks = false) (hK : KS LM w s) : ∀ (σ : Mem) (x1 : Int32), f7_goUsers_b24  σ x1 = some σ' → ∀ (H : Heap) (locs : List Loc), Rp EM LM w σ H → va_S (AW LM w) s.heap H locs → ∀ (ls : Array Slot), lv_has ls 4 [(0, .ref (w.2.2 0)), (1, .int x1)] → W p l e rm7_goUsers s m args below meth c H locs 0 0 (MQ below (Qw EM LM w σ' none) args s 0 0 (AW LM w)) (F0 m 24 ls []) := by
  obtain ⟨hx, hb, hml, hown, hts⟩ := id S
  intro σ x1 h0 H locs hR hS ls hl
  unfold f7_goUsers_b24 at h0
  refine lv_bipush (v := (-4)) hx hb d7_goUsers_24 (by decide) ?_
  exact t7_goUsers_b26 S hr hlk hK σ x1 (-4) h0 _ _ hR hS _ (lv_sub hl [0, 1] rfl)
def f7_goUsers (σ : Mem) (x1 : Int32) : Option Mem := if x1 < (σ 0 36) then f7_goUsers_b24 σ x1 else Option.bind (f7_isPassing σ x1) fun r2 => if r2 = 0 then Option.bind (f7_nextUser σ x1) fun r4 => f7_goUsers_b26 σ x1 r4 else f7_goUsers_b24 σ x1
set_option maxHeartbeats 4000000 in
set_option maxRecDepth 100000 in
theorem c7_goUsers (l : Launch) {w : WV} {σ : Mem} {x1 : Int32} {σ' : Mem} (h0 : f7_goUsers σ x1 = some σ') : Met l yX7_goUsers (wy yX7_goUsers cX7_goUsers 4 none) rm7_goUsers (Pw EM LM w [.ref (w.2.2 0), .int x1] σ) (Qw EM LM w σ' none) 0 0 (AW LM w) := by
  refine mk_met (by decide) (Nat.le_of_ble_eq_true rfl) ?_
  intro p e s m below meth c S hr hlk hK hR ls hl
  obtain ⟨hx, hb, hml, hown, hts⟩ := id S
  have hl : lv_has ls 4 [(0, .ref (w.2.2 0)), (1, .int x1)] := hl
  have hS : va_S (AW LM w) s.heap s.heap [] := va_S.rf
  unfold f7_goUsers at h0
  refine lv_iload_n hx hb d7_goUsers_0 rfl (lv_at hl 1 rfl) ?_
  refine lv_aload_n hx hb d7_goUsers_1 rfl (lv_at hl 0 rfl) ?_
  refine g7_192 S hK hR d7_goUsers_2 ?_
  refine lv_icmp_lt (tgt := 24) hx hb d7_goUsers_5 (by decide) (fun hc1 => ?_) (fun hc1 => ?_)
  · have h0 := og_t hc1 h0
    exact t7_goUsers_b24 S hr hlk hK σ x1 h0 _ _ hR hS _ (lv_sub hl [0, 1] rfl)
  · have h0 := og_f hc1 h0
    refine lv_aload_n hx hb d7_goUsers_8 rfl (lv_at hl 0 rfl) ?_
    refine lv_iload_n hx hb d7_goUsers_9 rfl (lv_at hl 1 rfl) ?_
    obtain ⟨r2, hr2, h0⟩ := og_b h0
    refine k7_199 S hK hR  hr2 ⟨Nat.zero_le _, Nat.zero_le _⟩ ⟨Nat.le_of_ble_eq_true rfl, Nat.le_of_ble_eq_true rfl⟩ hl.1 (Nat.le_of_ble_eq_true rfl) d7_goUsers_10 ?_
    refine lv_if_ne (tgt := 24) hx hb d7_goUsers_13 (by decide) (fun hc3 => ?_) (fun hc3 => ?_)
    · have h0 := og_f hc3 h0
      exact t7_goUsers_b24 S hr hlk hK σ x1 h0 _ _ hR hS _ (lv_sub hl [0, 1] rfl)
    · have h0 := og_t hc3 h0
      refine lv_aload_n hx hb d7_goUsers_16 rfl (lv_at hl 0 rfl) ?_
      refine lv_iload_n hx hb d7_goUsers_17 rfl (lv_at hl 1 rfl) ?_
      obtain ⟨r4, hr4, h0⟩ := og_b h0
      refine k7_230 S hK hR  hr4 ⟨Nat.zero_le _, Nat.zero_le _⟩ ⟨Nat.le_of_ble_eq_true rfl, Nat.le_of_ble_eq_true rfl⟩ hl.1 (Nat.le_of_ble_eq_true rfl) d7_goUsers_18 ?_
      refine lv_goto (tgt := 26) hx hb d7_goUsers_21 (by decide) ?_
      exact t7_goUsers_b26 S hr hlk hK σ x1 r4 h0 _ _ hR hS _ (lv_sub hl [0, 1] rfl)
set_option maxHeartbeats 4000000 in
set_option maxRecDepth 100000 in
theorem k7_242 {p : Program} {l : Launch} {e : Env} {R : Room} {s : State} {m : MethodId} {args : Array Value} {below : List Frame} {meth : Method} {c : Code} {H : Heap} {locs : List Loc} {cells slots : Nat} {Q : State → Prop} {cc : ByteArray} {pc nL : Nat} {ls : Array Slot} {rest : List Value} {w : WV} {σ : Mem} {x1 : Int32} {σ1 : Mem} (S : CallFix p m c cc nL s args gtbl RX7) (hK : KS LM w s) (hR : Rp EM LM w σ H) (hS : va_S (AW LM w) s.heap H locs) (h0 : f7_goUsers σ x1 = some σ1) (hf : cells + 0 ≤ R.cells ∧ slots + 0 ≤ R.slots) (hRm : rm7_goUsers.frames + 1 ≤ R.frames ∧ 8 + (4 + 11) + rm7_goUsers.locals ≤ R.locals) (hl : ls.size = nL) (hW : (rest.map fun v => v.category).sum ≤ 8) (hdg : decode cc pc = .ok (.invokevirtual 242, 3)) (kk : ∀ (H1 : Heap) (locs1 : List Loc), Rp EM LM w σ1 H1 → va_S (AW LM w) s.heap H1 locs1 → W p l e R s m args below meth c H1 locs1 cells slots Q (F0 m (pc + 3) ls (rest))) : W p l e R s m args below meth c H locs cells slots Q (F0 m pc ls (.int x1 :: .ref (w.2.2 0) :: rest)) := r_end hS (run_V (n := 1) (As := [.int x1]) S hK hR (by decide) (eM_7 w _) rfl (gw_V (gt_at 1159 (by decide +kernel) (by decide +kernel)) (gt_at 1161 (by decide +kernel) (by decide +kernel)) (gt_at 66 (by decide +kernel) (by decide +kernel)) (gt_at 86 (by decide +kernel) (by decide +kernel)) (gt_at 1162 (by decide +kernel) (by decide +kernel))) (by decide +kernel) rfl (c7_goUsers l h0) ⟨rfl, rfl⟩ hRm hf hl rfl hW hdg) kk
/-! FourTenGatesModel.goHour(II)V -/
abbrev rm7_goHour : Room := { frames := 5, cells := 0, slots := 0, locals := 116 }
theorem d7_goHour_0 : decode cX7_goHour 0 = .ok (.aload_n 0, 1) := by decide +kernel
theorem d7_goHour_1 : decode cX7_goHour 1 = .ok (.invokevirtual 233, 3) := by decide +kernel
theorem d7_goHour_4 : decode cX7_goHour 4 = .ok (.iconst 0, 1) := by decide +kernel
theorem d7_goHour_5 : decode cX7_goHour 5 = .ok (.istore_n 3, 1) := by decide +kernel
theorem d7_goHour_6 : decode cX7_goHour 6 = .ok (.iload_n 3, 1) := by decide +kernel
theorem d7_goHour_7 : decode cX7_goHour 7 = .ok (.sipush 360, 3) := by decide +kernel
theorem d7_goHour_10 : decode cX7_goHour 10 = .ok (.if_icmp .ge 36, 3) := by decide +kernel
theorem d7_goHour_13 : decode cX7_goHour 13 = .ok (.aload_n 0, 1) := by decide +kernel
theorem d7_goHour_14 : decode cX7_goHour 14 = .ok (.iload_n 1, 1) := by decide +kernel
theorem d7_goHour_15 : decode cX7_goHour 15 = .ok (.iload_n 2, 1) := by decide +kernel
theorem d7_goHour_16 : decode cX7_goHour 16 = .ok (.iload_n 3, 1) := by decide +kernel
theorem d7_goHour_17 : decode cX7_goHour 17 = .ok (.invokevirtual 236, 3) := by decide +kernel
theorem d7_goHour_20 : decode cX7_goHour 20 = .ok (.aload_n 0, 1) := by decide +kernel
theorem d7_goHour_21 : decode cX7_goHour 21 = .ok (.iload_n 3, 1) := by decide +kernel
theorem d7_goHour_22 : decode cX7_goHour 22 = .ok (.invokevirtual 239, 3) := by decide +kernel
theorem d7_goHour_25 : decode cX7_goHour 25 = .ok (.aload_n 0, 1) := by decide +kernel
theorem d7_goHour_26 : decode cX7_goHour 26 = .ok (.iload_n 3, 1) := by decide +kernel
theorem d7_goHour_27 : decode cX7_goHour 27 = .ok (.invokevirtual 242, 3) := by decide +kernel
theorem d7_goHour_30 : decode cX7_goHour 30 = .ok (.aload_n 0, 1) := by decide +kernel
theorem d7_goHour_31 : decode cX7_goHour 31 = .ok (.getfield 73, 3) := by decide +kernel
theorem d7_goHour_34 : decode cX7_goHour 34 = .ok (.iload_n 3, 1) := by decide +kernel
theorem d7_goHour_35 : decode cX7_goHour 35 = .ok (.aload_n 0, 1) := by decide +kernel
theorem d7_goHour_36 : decode cX7_goHour 36 = .ok (.getfield 182, 3) := by decide +kernel
theorem d7_goHour_39 : decode cX7_goHour 39 = .ok (.iastore, 1) := by decide +kernel
theorem d7_goHour_40 : decode cX7_goHour 40 = .ok (.iinc 3 1, 3) := by decide +kernel
theorem d7_goHour_43 : decode cX7_goHour 43 = .ok (.goto (-37), 3) := by decide +kernel
theorem d7_goHour_46 : decode cX7_goHour 46 = .ok (.return_, 1) := by decide +kernel
def f7_goHour_b6 : Nat → Mem → Int32 → Int32 → Int32 → Option Mem
  | 0, _, _, _, _ => none
  | n + 1, σ, x1, x2, x3 => if 360 ≤ x3 then some σ else Option.bind (f7_moveGates σ x1 x2 x3) fun σ2 => Option.bind (f7_goTrains σ2 x3) fun σ3 => Option.bind (f7_goUsers σ3 x3) fun σ4 => if ¬ (x3 < 0 ∨ 360 ≤ x3.toNatClampNeg) then (bm (mu σ4 27 x3.toNatClampNeg (σ4 0 32)) fun σ6 => f7_goHour_b6 n σ6 x1 x2 (x3 + 1)) else none
set_option maxHeartbeats 4000000 in
set_option maxRecDepth 100000 in
theorem t7_goHour_b6 {p : Program} {l : Launch} {e : Env} {s : State} {m : MethodId} {args : Array Value} {below : List Frame} {meth : Method} {c : Code} {w : WV} {σ' : Mem} (S : CallFix p m c cX7_goHour 4 s args gtbl RX7) (hr : meth.sig.returnType = none) (hlk : meth.locks = false) (hK : KS LM w s) : ∀ (n : Nat), ∀ (σ : Mem) (x1 : Int32) (x2 : Int32) (x3 : Int32), f7_goHour_b6  n σ x1 x2 x3 = some σ' → ∀ (H : Heap) (locs : List Loc), Rp EM LM w σ H → va_S (AW LM w) s.heap H locs → ∀ (ls : Array Slot), lv_has ls 4 [(0, .ref (w.2.2 0)), (1, .int x1), (2, .int x2), (3, .int x3)] → W p l e rm7_goHour s m args below meth c H locs 0 0 (MQ below (Qw EM LM w σ' none) args s 0 0 (AW LM w)) (F0 m 6 ls []) := by
  obtain ⟨hx, hb, hml, hown, hts⟩ := id S
  intro n
  induction n with
  | zero =>
    intro σ x1 x2 x3 h0
    cases (show none = _ from h0)
  | succ n ih =>
    intro σ x1 x2 x3 h0 H locs hR hS ls hl
    rw [f7_goHour_b6] at h0
    refine lv_iload_n hx hb d7_goHour_6 rfl (lv_at hl 3 rfl) ?_
    refine lv_sipush (v := 360) hx hb d7_goHour_7 (by decide) ?_
    refine lv_icmp_ge (tgt := 46) hx hb d7_goHour_10 (by decide) (fun hc1 => ?_) (fun hc1 => ?_)
    · have h0 := og_t hc1 h0
      exact q_vret S hr hlk hR hS h0 d7_goHour_46
    · have h0 := og_f hc1 h0
      refine lv_aload_n hx hb d7_goHour_13 rfl (lv_at hl 0 rfl) ?_
      refine lv_iload_n hx hb d7_goHour_14 rfl (lv_at hl 1 rfl) ?_
      refine lv_iload_n hx hb d7_goHour_15 rfl (lv_at hl 2 rfl) ?_
      refine lv_iload_n hx hb d7_goHour_16 rfl (lv_at hl 3 rfl) ?_
      obtain ⟨σ2, hr2, h0⟩ := og_b h0
      refine k7_236 S hK hR hS  hr2 ⟨Nat.zero_le _, Nat.zero_le _⟩ ⟨Nat.le_of_ble_eq_true rfl, Nat.le_of_ble_eq_true rfl⟩ hl.1 (Nat.le_of_ble_eq_true rfl) d7_goHour_17 (fun H locs hR hS => ?_)
      refine lv_aload_n hx hb d7_goHour_20 rfl (lv_at hl 0 rfl) ?_
      refine lv_iload_n hx hb d7_goHour_21 rfl (lv_at hl 3 rfl) ?_
      obtain ⟨σ3, hr3, h0⟩ := og_b h0
      refine k7_239 S hK hR hS  hr3 ⟨Nat.zero_le _, Nat.zero_le _⟩ ⟨Nat.le_of_ble_eq_true rfl, Nat.le_of_ble_eq_true rfl⟩ hl.1 (Nat.le_of_ble_eq_true rfl) d7_goHour_22 (fun H locs hR hS => ?_)
      refine lv_aload_n hx hb d7_goHour_25 rfl (lv_at hl 0 rfl) ?_
      refine lv_iload_n hx hb d7_goHour_26 rfl (lv_at hl 3 rfl) ?_
      obtain ⟨σ4, hr4, h0⟩ := og_b h0
      refine k7_242 S hK hR hS  hr4 ⟨Nat.zero_le _, Nat.zero_le _⟩ ⟨Nat.le_of_ble_eq_true rfl, Nat.le_of_ble_eq_true rfl⟩ hl.1 (Nat.le_of_ble_eq_true rfl) d7_goHour_27 (fun H locs hR hS => ?_)
      refine lv_aload_n hx hb d7_goHour_30 rfl (lv_at hl 0 rfl) ?_
      refine g7_73 S hK hR d7_goHour_31 ?_
      refine lv_iload_n hx hb d7_goHour_34 rfl (lv_at hl 3 rfl) ?_
      refine lv_aload_n hx hb d7_goHour_35 rfl (lv_at hl 0 rfl) ?_
      refine g7_182 S hK hR d7_goHour_36 ?_
      obtain ⟨hi5, h0⟩ := og_if h0
      obtain ⟨σ6, hm6, h0⟩ := og_m h0
      refine q_st S hK hR hS (by decide) (eM_126 w) hi5 rfl hm6 d7_goHour_39 (fun H locs hR hS => ?_)
      refine lv_iinc (v := x3 + 1) (lv' := [(3, .int (x3 + 1)), (0, .ref (w.2.2 0)), (1, .int x1), (2, .int x2)]) hx hb d7_goHour_40 hl (k := 3) rfl (ii1 _) (by decide) rfl (fun ls hl => ?_)
      refine lv_goto (tgt := 6) hx hb d7_goHour_43 (by decide) ?_
      exact ih σ6 x1 x2 (x3 + 1) h0 _ _ hR hS _ (lv_sub hl [1, 2, 3, 0] rfl)
def f7_goHour (σ : Mem) (x1 : Int32) (x2 : Int32) : Option Mem := Option.bind (f7_beginHour σ) fun σ1 => f7_goHour_b6 1000 σ1 x1 x2 0
set_option maxHeartbeats 4000000 in
set_option maxRecDepth 100000 in
theorem c7_goHour (l : Launch) {w : WV} {σ : Mem} {x1 : Int32} {x2 : Int32} {σ' : Mem} (h0 : f7_goHour σ x1 x2 = some σ') : Met l yX7_goHour (wy yX7_goHour cX7_goHour 4 none) rm7_goHour (Pw EM LM w [.ref (w.2.2 0), .int x1, .int x2] σ) (Qw EM LM w σ' none) 0 0 (AW LM w) := by
  refine mk_met (by decide) (Nat.le_of_ble_eq_true rfl) ?_
  intro p e s m below meth c S hr hlk hK hR ls hl
  obtain ⟨hx, hb, hml, hown, hts⟩ := id S
  have hl : lv_has ls 4 [(0, .ref (w.2.2 0)), (1, .int x1), (2, .int x2)] := hl
  have hS : va_S (AW LM w) s.heap s.heap [] := va_S.rf
  unfold f7_goHour at h0
  refine lv_aload_n hx hb d7_goHour_0 rfl (lv_at hl 0 rfl) ?_
  obtain ⟨σ1, hr1, h0⟩ := og_b h0
  refine k7_233 S hK hR hS  hr1 ⟨Nat.zero_le _, Nat.zero_le _⟩ ⟨Nat.le_of_ble_eq_true rfl, Nat.le_of_ble_eq_true rfl⟩ hl.1 (Nat.le_of_ble_eq_true rfl) d7_goHour_1 (fun H locs hR hS => ?_)
  refine lv_iconst (v := 0) hx hb d7_goHour_4 (by decide) ?_
  refine lv_istore_n (lv' := [(3, .int 0), (0, .ref (w.2.2 0)), (1, .int x1), (2, .int x2)]) hx hb d7_goHour_5 rfl hl (by decide) rfl (fun ls hl => ?_)
  exact t7_goHour_b6 S hr hlk hK 1000 σ1 x1 x2 0 h0 _ _ hR hS _ (lv_sub hl [1, 2, 3, 0] rfl)
set_option maxHeartbeats 4000000 in
set_option maxRecDepth 100000 in
theorem k7_245 {p : Program} {l : Launch} {e : Env} {R : Room} {s : State} {m : MethodId} {args : Array Value} {below : List Frame} {meth : Method} {c : Code} {H : Heap} {locs : List Loc} {cells slots : Nat} {Q : State → Prop} {cc : ByteArray} {pc nL : Nat} {ls : Array Slot} {rest : List Value} {w : WV} {σ : Mem} {x1 : Int32} {x2 : Int32} {σ1 : Mem} (S : CallFix p m c cc nL s args gtbl RX7) (hK : KS LM w s) (hR : Rp EM LM w σ H) (hS : va_S (AW LM w) s.heap H locs) (h0 : f7_goHour σ x1 x2 = some σ1) (hf : cells + 0 ≤ R.cells ∧ slots + 0 ≤ R.slots) (hRm : rm7_goHour.frames + 1 ≤ R.frames ∧ 8 + (4 + 11) + rm7_goHour.locals ≤ R.locals) (hl : ls.size = nL) (hW : (rest.map fun v => v.category).sum ≤ 8) (hdg : decode cc pc = .ok (.invokevirtual 245, 3)) (kk : ∀ (H1 : Heap) (locs1 : List Loc), Rp EM LM w σ1 H1 → va_S (AW LM w) s.heap H1 locs1 → W p l e R s m args below meth c H1 locs1 cells slots Q (F0 m (pc + 3) ls (rest))) : W p l e R s m args below meth c H locs cells slots Q (F0 m pc ls (.int x2 :: .int x1 :: .ref (w.2.2 0) :: rest)) := r_end hS (run_V (n := 2) (As := [.int x1, .int x2]) S hK hR (by decide) (eM_7 w _) rfl (gw_V (gt_at 1111 (by decide +kernel) (by decide +kernel)) (gt_at 1113 (by decide +kernel) (by decide +kernel)) (gt_at 54 (by decide +kernel) (by decide +kernel)) (gt_at 86 (by decide +kernel) (by decide +kernel)) (gt_at 1114 (by decide +kernel) (by decide +kernel))) (by decide +kernel) rfl (c7_goHour l h0) ⟨rfl, rfl⟩ hRm hf hl rfl hW hdg) kk
/-! FourTenGatesModel.costNow()I -/
abbrev rm7_costNow : Room := { frames := 0, cells := 0, slots := 0, locals := 0 }
theorem d7_costNow_0 : decode cX7_costNow 0 = .ok (.iconst 0, 1) := by decide +kernel
theorem d7_costNow_1 : decode cX7_costNow 1 = .ok (.istore_n 1, 1) := by decide +kernel
theorem d7_costNow_2 : decode cX7_costNow 2 = .ok (.iconst 0, 1) := by decide +kernel
theorem d7_costNow_3 : decode cX7_costNow 3 = .ok (.istore_n 2, 1) := by decide +kernel
theorem d7_costNow_4 : decode cX7_costNow 4 = .ok (.iload_n 2, 1) := by decide +kernel
theorem d7_costNow_5 : decode cX7_costNow 5 = .ok (.aload_n 0, 1) := by decide +kernel
theorem d7_costNow_6 : decode cX7_costNow 6 = .ok (.getfield 13, 3) := by decide +kernel
theorem d7_costNow_9 : decode cX7_costNow 9 = .ok (.iconst 0, 1) := by decide +kernel
theorem d7_costNow_10 : decode cX7_costNow 10 = .ok (.iaload, 1) := by decide +kernel
theorem d7_costNow_11 : decode cX7_costNow 11 = .ok (.if_icmp .ge 25, 3) := by decide +kernel
theorem d7_costNow_14 : decode cX7_costNow 14 = .ok (.iload_n 1, 1) := by decide +kernel
theorem d7_costNow_15 : decode cX7_costNow 15 = .ok (.aload_n 0, 1) := by decide +kernel
theorem d7_costNow_16 : decode cX7_costNow 16 = .ok (.getfield 31, 3) := by decide +kernel
theorem d7_costNow_19 : decode cX7_costNow 19 = .ok (.iconst 1, 1) := by decide +kernel
theorem d7_costNow_20 : decode cX7_costNow 20 = .ok (.iaload, 1) := by decide +kernel
theorem d7_costNow_21 : decode cX7_costNow 21 = .ok (.aload_n 0, 1) := by decide +kernel
theorem d7_costNow_22 : decode cX7_costNow 22 = .ok (.getfield 79, 3) := by decide +kernel
theorem d7_costNow_25 : decode cX7_costNow 25 = .ok (.iload_n 2, 1) := by decide +kernel
theorem d7_costNow_26 : decode cX7_costNow 26 = .ok (.iaload, 1) := by decide +kernel
theorem d7_costNow_27 : decode cX7_costNow 27 = .ok (.imul, 1) := by decide +kernel
theorem d7_costNow_28 : decode cX7_costNow 28 = .ok (.iadd, 1) := by decide +kernel
theorem d7_costNow_29 : decode cX7_costNow 29 = .ok (.istore_n 1, 1) := by decide +kernel
theorem d7_costNow_30 : decode cX7_costNow 30 = .ok (.iinc 2 1, 3) := by decide +kernel
theorem d7_costNow_33 : decode cX7_costNow 33 = .ok (.goto (-29), 3) := by decide +kernel
theorem d7_costNow_36 : decode cX7_costNow 36 = .ok (.iconst 0, 1) := by decide +kernel
theorem d7_costNow_37 : decode cX7_costNow 37 = .ok (.istore_n 2, 1) := by decide +kernel
theorem d7_costNow_38 : decode cX7_costNow 38 = .ok (.iload_n 2, 1) := by decide +kernel
theorem d7_costNow_39 : decode cX7_costNow 39 = .ok (.aload_n 0, 1) := by decide +kernel
theorem d7_costNow_40 : decode cX7_costNow 40 = .ok (.getfield 22, 3) := by decide +kernel
theorem d7_costNow_43 : decode cX7_costNow 43 = .ok (.iconst 0, 1) := by decide +kernel
theorem d7_costNow_44 : decode cX7_costNow 44 = .ok (.iaload, 1) := by decide +kernel
theorem d7_costNow_45 : decode cX7_costNow 45 = .ok (.if_icmp .ge 50, 3) := by decide +kernel
theorem d7_costNow_48 : decode cX7_costNow 48 = .ok (.iload_n 1, 1) := by decide +kernel
theorem d7_costNow_49 : decode cX7_costNow 49 = .ok (.aload_n 0, 1) := by decide +kernel
theorem d7_costNow_50 : decode cX7_costNow 50 = .ok (.getfield 34, 3) := by decide +kernel
theorem d7_costNow_53 : decode cX7_costNow 53 = .ok (.aload_n 0, 1) := by decide +kernel
theorem d7_costNow_54 : decode cX7_costNow 54 = .ok (.getfield 28, 3) := by decide +kernel
theorem d7_costNow_57 : decode cX7_costNow 57 = .ok (.iload_n 2, 1) := by decide +kernel
theorem d7_costNow_58 : decode cX7_costNow 58 = .ok (.iaload, 1) := by decide +kernel
theorem d7_costNow_59 : decode cX7_costNow 59 = .ok (.iaload, 1) := by decide +kernel
theorem d7_costNow_60 : decode cX7_costNow 60 = .ok (.aload_n 0, 1) := by decide +kernel
theorem d7_costNow_61 : decode cX7_costNow 61 = .ok (.getfield 85, 3) := by decide +kernel
theorem d7_costNow_64 : decode cX7_costNow 64 = .ok (.iload_n 2, 1) := by decide +kernel
theorem d7_costNow_65 : decode cX7_costNow 65 = .ok (.iaload, 1) := by decide +kernel
theorem d7_costNow_66 : decode cX7_costNow 66 = .ok (.imul, 1) := by decide +kernel
theorem d7_costNow_67 : decode cX7_costNow 67 = .ok (.aload_n 0, 1) := by decide +kernel
theorem d7_costNow_68 : decode cX7_costNow 68 = .ok (.getfield 88, 3) := by decide +kernel
theorem d7_costNow_71 : decode cX7_costNow 71 = .ok (.iload_n 2, 1) := by decide +kernel
theorem d7_costNow_72 : decode cX7_costNow 72 = .ok (.baload, 1) := by decide +kernel
theorem d7_costNow_73 : decode cX7_costNow 73 = .ok (.ifCond .eq 12, 3) := by decide +kernel
theorem d7_costNow_76 : decode cX7_costNow 76 = .ok (.aload_n 0, 1) := by decide +kernel
theorem d7_costNow_77 : decode cX7_costNow 77 = .ok (.getfield 31, 3) := by decide +kernel
theorem d7_costNow_80 : decode cX7_costNow 80 = .ok (.iconst 3, 1) := by decide +kernel
theorem d7_costNow_81 : decode cX7_costNow 81 = .ok (.iaload, 1) := by decide +kernel
theorem d7_costNow_82 : decode cX7_costNow 82 = .ok (.goto 4, 3) := by decide +kernel
theorem d7_costNow_85 : decode cX7_costNow 85 = .ok (.iconst 0, 1) := by decide +kernel
theorem d7_costNow_86 : decode cX7_costNow 86 = .ok (.iadd, 1) := by decide +kernel
theorem d7_costNow_87 : decode cX7_costNow 87 = .ok (.iadd, 1) := by decide +kernel
theorem d7_costNow_88 : decode cX7_costNow 88 = .ok (.istore_n 1, 1) := by decide +kernel
theorem d7_costNow_89 : decode cX7_costNow 89 = .ok (.iinc 2 1, 3) := by decide +kernel
theorem d7_costNow_92 : decode cX7_costNow 92 = .ok (.goto (-54), 3) := by decide +kernel
theorem d7_costNow_95 : decode cX7_costNow 95 = .ok (.iload_n 1, 1) := by decide +kernel
theorem d7_costNow_96 : decode cX7_costNow 96 = .ok (.ireturn, 1) := by decide +kernel
def f7_costNow_b38 (σ : Mem) : Nat → Int32 → Int32 → Option Int32
  | 0, _, _ => none
  | n + 1, x1, x2 => if (σ 6 0) ≤ x2 then some x1 else if ¬ (x2 < 0 ∨ 16 ≤ x2.toNatClampNeg) then if ¬ (σ 8 x2.toNatClampNeg < 0 ∨ 8 ≤ (σ 8 x2.toNatClampNeg).toNatClampNeg) then if ¬ (x2 < 0 ∨ 8 ≤ x2.toNatClampNeg) then if ¬ (x2 < 0 ∨ 8 ≤ x2.toNatClampNeg) then if (σ 32 x2.toNatClampNeg) = 0 then f7_costNow_b38 σ n (x1 + (((σ 10 ((σ 8 x2.toNatClampNeg).toNatClampNeg)) * (σ 31 x2.toNatClampNeg)) + 0)) (x2 + 1) else f7_costNow_b38 σ n (x1 + (((σ 10 ((σ 8 x2.toNatClampNeg).toNatClampNeg)) * (σ 31 x2.toNatClampNeg)) + (σ 9 3))) (x2 + 1) else none else none else none else none
set_option maxHeartbeats 4000000 in
set_option maxRecDepth 100000 in
theorem t7_costNow_b38 {p : Program} {l : Launch} {e : Env} {s : State} {m : MethodId} {args : Array Value} {below : List Frame} {meth : Method} {c : Code} {w : WV} {σ : Mem} {r : Int32} (S : CallFix p m c cX7_costNow 3 s args gtbl RX7) (hr : meth.sig.returnType = (some .int)) (hlk : meth.locks = false) (hK : KS LM w s) (hR : Rp EM LM w σ s.heap) : ∀ (n : Nat), ∀ (x1 : Int32) (x2 : Int32), f7_costNow_b38 σ n x1 x2 = some r → ∀ (ls : Array Slot), lv_has ls 3 [(0, .ref (w.2.2 0)), (1, .int x1), (2, .int x2)] → W p l e rm7_costNow s m args below meth c s.heap [] 0 0 (MQ below (Qp (.int r)) args s 0 0 (fun _ => False)) (F0 m 38 ls []) := by
  obtain ⟨hx, hb, hml, hown, hts⟩ := id S
  intro n
  induction n with
  | zero =>
    intro x1 x2 h0
    cases (show none = _ from h0)
  | succ n ih =>
    intro x1 x2 h0 ls hl
    rw [f7_costNow_b38] at h0
    refine lv_iload_n hx hb d7_costNow_38 rfl (lv_at hl 2 rfl) ?_
    refine lv_aload_n hx hb d7_costNow_39 rfl (lv_at hl 0 rfl) ?_
    refine g7_22 S hK hR d7_costNow_40 ?_
    refine lv_iconst (v := 0) hx hb d7_costNow_43 (by decide) ?_
    refine q_ld (k := 0) S hK hR (by decide) (eM_105 w _) (vin (by decide)) (by decide) d7_costNow_44 ?_
    refine lv_icmp_ge (tgt := 95) hx hb d7_costNow_45 (by decide) (fun hc1 => ?_) (fun hc1 => ?_)
    · have h0 := og_t hc1 h0
      refine lv_iload_n hx hb d7_costNow_95 rfl (lv_at hl 1 rfl) ?_
      exact q_ipure S hr hlk h0 d7_costNow_96
    · have h0 := og_f hc1 h0
      refine lv_iload_n hx hb d7_costNow_48 rfl (lv_at hl 1 rfl) ?_
      refine lv_aload_n hx hb d7_costNow_49 rfl (lv_at hl 0 rfl) ?_
      refine g7_34 S hK hR d7_costNow_50 ?_
      refine lv_aload_n hx hb d7_costNow_53 rfl (lv_at hl 0 rfl) ?_
      refine g7_28 S hK hR d7_costNow_54 ?_
      refine lv_iload_n hx hb d7_costNow_57 rfl (lv_at hl 2 rfl) ?_
      obtain ⟨hi2, h0⟩ := og_if h0
      refine q_ld (k := x2.toNatClampNeg) S hK hR (by decide) (eM_107 w _) hi2 rfl d7_costNow_58 ?_
      obtain ⟨hi3, h0⟩ := og_if h0
      refine q_ld (k := ((σ 8 x2.toNatClampNeg).toNatClampNeg)) S hK hR (by decide) (eM_109 w _) hi3 rfl d7_costNow_59 ?_
      refine lv_aload_n hx hb d7_costNow_60 rfl (lv_at hl 0 rfl) ?_
      refine g7_85 S hK hR d7_costNow_61 ?_
      refine lv_iload_n hx hb d7_costNow_64 rfl (lv_at hl 2 rfl) ?_
      obtain ⟨hi4, h0⟩ := og_if h0
      refine q_ld (k := x2.toNatClampNeg) S hK hR (by decide) (eM_130 w _) hi4 rfl d7_costNow_65 ?_
      refine lv_imul hx hb d7_costNow_66 ?_
      refine lv_aload_n hx hb d7_costNow_67 rfl (lv_at hl 0 rfl) ?_
      refine g7_88 S hK hR d7_costNow_68 ?_
      refine lv_iload_n hx hb d7_costNow_71 rfl (lv_at hl 2 rfl) ?_
      obtain ⟨hi5, h0⟩ := og_if h0
      refine r_zld S hK hR (by decide) (eM_131 w _) hi5 d7_costNow_72 ?_
      refine lv_if_eq (tgt := 85) hx hb d7_costNow_73 (by decide) (fun hc6 => ?_) (fun hc6 => ?_)
      · have h0 := og_t hc6 h0
        refine lv_iconst (v := 0) hx hb d7_costNow_85 (by decide) ?_
        refine lv_iadd hx hb d7_costNow_86 ?_
        refine lv_iadd hx hb d7_costNow_87 ?_
        refine lv_istore_n (lv' := [(1, .int (x1 + (((σ 10 ((σ 8 x2.toNatClampNeg).toNatClampNeg)) * (σ 31 x2.toNatClampNeg)) + 0))), (0, .ref (w.2.2 0)), (2, .int x2)]) hx hb d7_costNow_88 rfl hl (by decide) rfl (fun ls hl => ?_)
        refine lv_iinc (v := x2 + 1) (lv' := [(2, .int (x2 + 1)), (1, .int (x1 + (((σ 10 ((σ 8 x2.toNatClampNeg).toNatClampNeg)) * (σ 31 x2.toNatClampNeg)) + 0))), (0, .ref (w.2.2 0))]) hx hb d7_costNow_89 hl (k := 2) rfl (ii1 _) (by decide) rfl (fun ls hl => ?_)
        refine lv_goto (tgt := 38) hx hb d7_costNow_92 (by decide) ?_
        exact ih (x1 + (((σ 10 ((σ 8 x2.toNatClampNeg).toNatClampNeg)) * (σ 31 x2.toNatClampNeg)) + 0)) (x2 + 1) h0 _ (lv_sub hl [2, 1, 0] rfl)
      · have h0 := og_f hc6 h0
        refine lv_aload_n hx hb d7_costNow_76 rfl (lv_at hl 0 rfl) ?_
        refine g7_31 S hK hR d7_costNow_77 ?_
        refine lv_iconst (v := 3) hx hb d7_costNow_80 (by decide) ?_
        refine q_ld (k := 3) S hK hR (by decide) (eM_108 w _) (vin (by decide)) (by decide) d7_costNow_81 ?_
        refine lv_goto (tgt := 86) hx hb d7_costNow_82 (by decide) ?_
        refine lv_iadd hx hb d7_costNow_86 ?_
        refine lv_iadd hx hb d7_costNow_87 ?_
        refine lv_istore_n (lv' := [(1, .int (x1 + (((σ 10 ((σ 8 x2.toNatClampNeg).toNatClampNeg)) * (σ 31 x2.toNatClampNeg)) + (σ 9 3)))), (0, .ref (w.2.2 0)), (2, .int x2)]) hx hb d7_costNow_88 rfl hl (by decide) rfl (fun ls hl => ?_)
        refine lv_iinc (v := x2 + 1) (lv' := [(2, .int (x2 + 1)), (1, .int (x1 + (((σ 10 ((σ 8 x2.toNatClampNeg).toNatClampNeg)) * (σ 31 x2.toNatClampNeg)) + (σ 9 3)))), (0, .ref (w.2.2 0))]) hx hb d7_costNow_89 hl (k := 2) rfl (ii1 _) (by decide) rfl (fun ls hl => ?_)
        refine lv_goto (tgt := 38) hx hb d7_costNow_92 (by decide) ?_
        exact ih (x1 + (((σ 10 ((σ 8 x2.toNatClampNeg).toNatClampNeg)) * (σ 31 x2.toNatClampNeg)) + (σ 9 3))) (x2 + 1) h0 _ (lv_sub hl [2, 1, 0] rfl)
def f7_costNow_b4 (σ : Mem) : Nat → Int32 → Int32 → Option Int32
  | 0, _, _ => none
  | n + 1, x1, x2 => if (σ 3 0) ≤ x2 then f7_costNow_b38 σ 1000 x1 0 else if ¬ (x2 < 0 ∨ 6 ≤ x2.toNatClampNeg) then f7_costNow_b4 σ n (x1 + ((σ 9 1) * (σ 29 x2.toNatClampNeg))) (x2 + 1) else none
set_option maxHeartbeats 4000000 in
set_option maxRecDepth 100000 in
theorem t7_costNow_b4 {p : Program} {l : Launch} {e : Env} {s : State} {m : MethodId} {args : Array Value} {below : List Frame} {meth : Method} {c : Code} {w : WV} {σ : Mem} {r : Int32} (S : CallFix p m c cX7_costNow 3 s args gtbl RX7) (hr : meth.sig.returnType = (some .int)) (hlk : meth.locks = false) (hK : KS LM w s) (hR : Rp EM LM w σ s.heap) : ∀ (n : Nat), ∀ (x1 : Int32) (x2 : Int32), f7_costNow_b4 σ n x1 x2 = some r → ∀ (ls : Array Slot), lv_has ls 3 [(0, .ref (w.2.2 0)), (1, .int x1), (2, .int x2)] → W p l e rm7_costNow s m args below meth c s.heap [] 0 0 (MQ below (Qp (.int r)) args s 0 0 (fun _ => False)) (F0 m 4 ls []) := by
  obtain ⟨hx, hb, hml, hown, hts⟩ := id S
  intro n
  induction n with
  | zero =>
    intro x1 x2 h0
    cases (show none = _ from h0)
  | succ n ih =>
    intro x1 x2 h0 ls hl
    rw [f7_costNow_b4] at h0
    refine lv_iload_n hx hb d7_costNow_4 rfl (lv_at hl 2 rfl) ?_
    refine lv_aload_n hx hb d7_costNow_5 rfl (lv_at hl 0 rfl) ?_
    refine g7_13 S hK hR d7_costNow_6 ?_
    refine lv_iconst (v := 0) hx hb d7_costNow_9 (by decide) ?_
    refine q_ld (k := 0) S hK hR (by decide) (eM_102 w _) (vin (by decide)) (by decide) d7_costNow_10 ?_
    refine lv_icmp_ge (tgt := 36) hx hb d7_costNow_11 (by decide) (fun hc1 => ?_) (fun hc1 => ?_)
    · have h0 := og_t hc1 h0
      refine lv_iconst (v := 0) hx hb d7_costNow_36 (by decide) ?_
      refine lv_istore_n (lv' := [(2, .int 0), (0, .ref (w.2.2 0)), (1, .int x1)]) hx hb d7_costNow_37 rfl hl (by decide) rfl (fun ls hl => ?_)
      exact t7_costNow_b38 S hr hlk hK hR 1000 x1 0 h0 _ (lv_sub hl [1, 2, 0] rfl)
    · have h0 := og_f hc1 h0
      refine lv_iload_n hx hb d7_costNow_14 rfl (lv_at hl 1 rfl) ?_
      refine lv_aload_n hx hb d7_costNow_15 rfl (lv_at hl 0 rfl) ?_
      refine g7_31 S hK hR d7_costNow_16 ?_
      refine lv_iconst (v := 1) hx hb d7_costNow_19 (by decide) ?_
      refine q_ld (k := 1) S hK hR (by decide) (eM_108 w _) (vin (by decide)) (by decide) d7_costNow_20 ?_
      refine lv_aload_n hx hb d7_costNow_21 rfl (lv_at hl 0 rfl) ?_
      refine g7_79 S hK hR d7_costNow_22 ?_
      refine lv_iload_n hx hb d7_costNow_25 rfl (lv_at hl 2 rfl) ?_
      obtain ⟨hi2, h0⟩ := og_if h0
      refine q_ld (k := x2.toNatClampNeg) S hK hR (by decide) (eM_128 w _) hi2 rfl d7_costNow_26 ?_
      refine lv_imul hx hb d7_costNow_27 ?_
      refine lv_iadd hx hb d7_costNow_28 ?_
      refine lv_istore_n (lv' := [(1, .int (x1 + ((σ 9 1) * (σ 29 x2.toNatClampNeg)))), (0, .ref (w.2.2 0)), (2, .int x2)]) hx hb d7_costNow_29 rfl hl (by decide) rfl (fun ls hl => ?_)
      refine lv_iinc (v := x2 + 1) (lv' := [(2, .int (x2 + 1)), (1, .int (x1 + ((σ 9 1) * (σ 29 x2.toNatClampNeg)))), (0, .ref (w.2.2 0))]) hx hb d7_costNow_30 hl (k := 2) rfl (ii1 _) (by decide) rfl (fun ls hl => ?_)
      refine lv_goto (tgt := 4) hx hb d7_costNow_33 (by decide) ?_
      exact ih (x1 + ((σ 9 1) * (σ 29 x2.toNatClampNeg))) (x2 + 1) h0 _ (lv_sub hl [2, 1, 0] rfl)
def f7_costNow (σ : Mem) : Option Int32 := f7_costNow_b4 σ 1000 0 0
set_option maxHeartbeats 4000000 in
set_option maxRecDepth 100000 in
theorem c7_costNow (l : Launch) {w : WV} {σ : Mem} {r : Int32} (h0 : f7_costNow σ = some r) : Met l yX7_costNow (wy yX7_costNow cX7_costNow 3 (some .int)) rm7_costNow (Pw EM LM w [.ref (w.2.2 0)] σ) (Qp (.int r)) 0 0 (fun _ => False) := by
  refine mk_met (by decide) (Nat.le_of_ble_eq_true rfl) ?_
  intro p e s m below meth c S hr hlk hK hR ls hl
  obtain ⟨hx, hb, hml, hown, hts⟩ := id S
  have hl : lv_has ls 3 [(0, .ref (w.2.2 0))] := hl
  unfold f7_costNow at h0
  refine lv_iconst (v := 0) hx hb d7_costNow_0 (by decide) ?_
  refine lv_istore_n (lv' := [(1, .int 0), (0, .ref (w.2.2 0))]) hx hb d7_costNow_1 rfl hl (by decide) rfl (fun ls hl => ?_)
  refine lv_iconst (v := 0) hx hb d7_costNow_2 (by decide) ?_
  refine lv_istore_n (lv' := [(2, .int 0), (1, .int 0), (0, .ref (w.2.2 0))]) hx hb d7_costNow_3 rfl hl (by decide) rfl (fun ls hl => ?_)
  exact t7_costNow_b4 S hr hlk hK hR 1000 0 0 h0 _ (lv_sub hl [2, 1, 0] rfl)
set_option maxHeartbeats 4000000 in
set_option maxRecDepth 100000 in
theorem k7_249 {p : Program} {l : Launch} {e : Env} {R : Room} {s : State} {m : MethodId} {args : Array Value} {below : List Frame} {meth : Method} {c : Code} {H : Heap} {locs : List Loc} {cells slots : Nat} {Q : State → Prop} {cc : ByteArray} {pc nL : Nat} {ls : Array Slot} {rest : List Value} {w : WV} {σ : Mem} {r : Int32} (S : CallFix p m c cc nL s args gtbl RX7) (hK : KS LM w s) (hR : Rp EM LM w σ H) (h0 : f7_costNow σ = some r) (hf : cells + 0 ≤ R.cells ∧ slots + 0 ≤ R.slots) (hRm : rm7_costNow.frames + 1 ≤ R.frames ∧ 8 + (3 + 11) + rm7_costNow.locals ≤ R.locals) (hl : ls.size = nL) (hW : (rest.map fun v => v.category).sum ≤ 8) (hdg : decode cc pc = .ok (.invokevirtual 249, 3)) (kk : W p l e R s m args below meth c H locs cells slots Q (F0 m (pc + 3) ls (.int r :: rest))) : W p l e R s m args below meth c H locs cells slots Q (F0 m pc ls (.ref (w.2.2 0) :: rest)) := r_endp (run_V (n := 0) (As := []) S hK hR (by decide) (eM_7 w _) rfl (gw_V (gt_at 1199 (by decide +kernel) (by decide +kernel)) (gt_at 1201 (by decide +kernel) (by decide +kernel)) (gt_at 71 (by decide +kernel) (by decide +kernel)) (gt_at 86 (by decide +kernel) (by decide +kernel)) (gt_at 1202 (by decide +kernel) (by decide +kernel))) (by decide +kernel) rfl (c7_costNow l h0) ⟨rfl, rfl⟩ hRm hf hl rfl hW hdg) kk
/-! FourTenGatesModel.costBy(II)I -/
abbrev rm7_costBy : Room := { frames := 6, cells := 0, slots := 0, locals := 139 }
theorem d7_costBy_0 : decode cX7_costBy 0 = .ok (.aload_n 0, 1) := by decide +kernel
theorem d7_costBy_1 : decode cX7_costBy 1 = .ok (.iload_n 1, 1) := by decide +kernel
theorem d7_costBy_2 : decode cX7_costBy 2 = .ok (.iload_n 2, 1) := by decide +kernel
theorem d7_costBy_3 : decode cX7_costBy 3 = .ok (.invokevirtual 245, 3) := by decide +kernel
theorem d7_costBy_6 : decode cX7_costBy 6 = .ok (.aload_n 0, 1) := by decide +kernel
theorem d7_costBy_7 : decode cX7_costBy 7 = .ok (.invokevirtual 249, 3) := by decide +kernel
theorem d7_costBy_10 : decode cX7_costBy 10 = .ok (.ireturn, 1) := by decide +kernel
def f7_costBy (σ : Mem) (x1 : Int32) (x2 : Int32) : Option (Mem × Int32) := Option.bind (f7_goHour σ x1 x2) fun σ1 => Option.bind (f7_costNow σ1) fun r2 => some (σ1, r2)
set_option maxHeartbeats 4000000 in
set_option maxRecDepth 100000 in
theorem c7_costBy (l : Launch) {w : WV} {σ : Mem} {x1 : Int32} {x2 : Int32} {σ' : Mem} {r : Int32} (h0 : f7_costBy σ x1 x2 = some (σ', r)) : Met l yX7_costBy (wy yX7_costBy cX7_costBy 3 (some .int)) rm7_costBy (Pw EM LM w [.ref (w.2.2 0), .int x1, .int x2] σ) (Qw EM LM w σ' (some (.int r))) 0 0 (AW LM w) := by
  refine mk_met (by decide) (Nat.le_of_ble_eq_true rfl) ?_
  intro p e s m below meth c S hr hlk hK hR ls hl
  obtain ⟨hx, hb, hml, hown, hts⟩ := id S
  have hl : lv_has ls 3 [(0, .ref (w.2.2 0)), (1, .int x1), (2, .int x2)] := hl
  have hS : va_S (AW LM w) s.heap s.heap [] := va_S.rf
  unfold f7_costBy at h0
  refine lv_aload_n hx hb d7_costBy_0 rfl (lv_at hl 0 rfl) ?_
  refine lv_iload_n hx hb d7_costBy_1 rfl (lv_at hl 1 rfl) ?_
  refine lv_iload_n hx hb d7_costBy_2 rfl (lv_at hl 2 rfl) ?_
  obtain ⟨σ1, hr1, h0⟩ := og_b h0
  refine k7_245 S hK hR hS  hr1 ⟨Nat.zero_le _, Nat.zero_le _⟩ ⟨Nat.le_of_ble_eq_true rfl, Nat.le_of_ble_eq_true rfl⟩ hl.1 (Nat.le_of_ble_eq_true rfl) d7_costBy_3 (fun H locs hR hS => ?_)
  refine lv_aload_n hx hb d7_costBy_6 rfl (lv_at hl 0 rfl) ?_
  obtain ⟨r2, hr2, h0⟩ := og_b h0
  refine k7_249 S hK hR  hr2 ⟨Nat.zero_le _, Nat.zero_le _⟩ ⟨Nat.le_of_ble_eq_true rfl, Nat.le_of_ble_eq_true rfl⟩ hl.1 (Nat.le_of_ble_eq_true rfl) d7_costBy_7 ?_
  exact q_iret S hr hlk hR hS h0 d7_costBy_10
set_option maxHeartbeats 4000000 in
set_option maxRecDepth 100000 in
theorem k7_257 {p : Program} {l : Launch} {e : Env} {R : Room} {s : State} {m : MethodId} {args : Array Value} {below : List Frame} {meth : Method} {c : Code} {H : Heap} {locs : List Loc} {cells slots : Nat} {Q : State → Prop} {cc : ByteArray} {pc nL : Nat} {ls : Array Slot} {rest : List Value} {w : WV} {σ : Mem} {x1 : Int32} {x2 : Int32} {σ1 : Mem} {r : Int32} (S : CallFix p m c cc nL s args gtbl RX7) (hK : KS LM w s) (hR : Rp EM LM w σ H) (hS : va_S (AW LM w) s.heap H locs) (h0 : f7_costBy σ x1 x2 = some (σ1, r)) (hf : cells + 0 ≤ R.cells ∧ slots + 0 ≤ R.slots) (hRm : rm7_costBy.frames + 1 ≤ R.frames ∧ 8 + (3 + 11) + rm7_costBy.locals ≤ R.locals) (hl : ls.size = nL) (hW : (rest.map fun v => v.category).sum ≤ 8) (hdg : decode cc pc = .ok (.invokevirtual 257, 3)) (kk : ∀ (H1 : Heap) (locs1 : List Loc), Rp EM LM w σ1 H1 → va_S (AW LM w) s.heap H1 locs1 → W p l e R s m args below meth c H1 locs1 cells slots Q (F0 m (pc + 3) ls (.int r :: rest))) : W p l e R s m args below meth c H locs cells slots Q (F0 m pc ls (.int x2 :: .int x1 :: .ref (w.2.2 0) :: rest)) := r_end hS (run_V (n := 2) (As := [.int x1, .int x2]) S hK hR (by decide) (eM_7 w _) rfl (gw_V (gt_at 1195 (by decide +kernel) (by decide +kernel)) (gt_at 1197 (by decide +kernel) (by decide +kernel)) (gt_at 70 (by decide +kernel) (by decide +kernel)) (gt_at 86 (by decide +kernel) (by decide +kernel)) (gt_at 1198 (by decide +kernel) (by decide +kernel))) (by decide +kernel) rfl (c7_costBy l h0) ⟨rfl, rfl⟩ hRm hf hl rfl hW hdg) kk
/-! FourTenGatesModel.gates(II)I -/
abbrev rm7_gates : Room := { frames := 6, cells := 0, slots := 0, locals := 139 }
theorem d7_gates_0 : decode cX7_gates 0 = .ok (.iload_n 1, 1) := by decide +kernel
theorem d7_gates_1 : decode cX7_gates 1 = .ok (.invokestatic 252, 3) := by decide +kernel
theorem d7_gates_4 : decode cX7_gates 4 = .ok (.ifCond .eq 15, 3) := by decide +kernel
theorem d7_gates_7 : decode cX7_gates 7 = .ok (.iload_n 2, 1) := by decide +kernel
theorem d7_gates_8 : decode cX7_gates 8 = .ok (.i2l, 1) := by decide +kernel
theorem d7_gates_9 : decode cX7_gates 9 = .ok (.lconst 0, 1) := by decide +kernel
theorem d7_gates_10 : decode cX7_gates 10 = .ok (.ldc2_w 255, 3) := by decide +kernel
theorem d7_gates_13 : decode cX7_gates 13 = .ok (.invokestatic 113, 3) := by decide +kernel
theorem d7_gates_16 : decode cX7_gates 16 = .ok (.ifCond .ne 5, 3) := by decide +kernel
theorem d7_gates_19 : decode cX7_gates 19 = .ok (.iconst (-1), 1) := by decide +kernel
theorem d7_gates_20 : decode cX7_gates 20 = .ok (.ireturn, 1) := by decide +kernel
theorem d7_gates_21 : decode cX7_gates 21 = .ok (.aload_n 0, 1) := by decide +kernel
theorem d7_gates_22 : decode cX7_gates 22 = .ok (.iload_n 1, 1) := by decide +kernel
theorem d7_gates_23 : decode cX7_gates 23 = .ok (.iconst 0, 1) := by decide +kernel
theorem d7_gates_24 : decode cX7_gates 24 = .ok (.invokevirtual 245, 3) := by decide +kernel
theorem d7_gates_27 : decode cX7_gates 27 = .ok (.aload_n 0, 1) := by decide +kernel
theorem d7_gates_28 : decode cX7_gates 28 = .ok (.getfield 73, 3) := by decide +kernel
theorem d7_gates_31 : decode cX7_gates 31 = .ok (.iload_n 2, 1) := by decide +kernel
theorem d7_gates_32 : decode cX7_gates 32 = .ok (.iaload, 1) := by decide +kernel
theorem d7_gates_33 : decode cX7_gates 33 = .ok (.ireturn, 1) := by decide +kernel
def f7_gates (σ : Mem) (x1 : Int32) (x2 : Int32) : Option (Mem × Int32) := Option.bind (f7_isRule x1) fun r1 => if r1 = 0 then some (σ, (-1)) else Option.bind (f7_in x2.toInt64 (0 : Int64) (359 : Int64)) fun r3 => if r3 = 0 then some (σ, (-1)) else Option.bind (f7_goHour σ x1 0) fun σ5 => if ¬ (x2 < 0 ∨ 360 ≤ x2.toNatClampNeg) then some (σ5, σ5 27 x2.toNatClampNeg) else none
set_option maxHeartbeats 4000000 in
set_option maxRecDepth 100000 in
theorem c7_gates (l : Launch) {w : WV} {σ : Mem} {x1 : Int32} {x2 : Int32} {σ' : Mem} {r : Int32} (h0 : f7_gates σ x1 x2 = some (σ', r)) : Met l yX7_gates (wy yX7_gates cX7_gates 3 (some .int)) rm7_gates (Pw EM LM w [.ref (w.2.2 0), .int x1, .int x2] σ) (Qw EM LM w σ' (some (.int r))) 0 0 (AW LM w) := by
  refine mk_met (by decide) (Nat.le_of_ble_eq_true rfl) ?_
  intro p e s m below meth c S hr hlk hK hR ls hl
  obtain ⟨hx, hb, hml, hown, hts⟩ := id S
  have hl : lv_has ls 3 [(0, .ref (w.2.2 0)), (1, .int x1), (2, .int x2)] := hl
  have hS : va_S (AW LM w) s.heap s.heap [] := va_S.rf
  unfold f7_gates at h0
  refine lv_iload_n hx hb d7_gates_0 rfl (lv_at hl 1 rfl) ?_
  obtain ⟨r1, hr1, h0⟩ := og_b h0
  refine k7_252 S  hr1 ⟨Nat.zero_le _, Nat.zero_le _⟩ ⟨Nat.le_of_ble_eq_true rfl, Nat.le_of_ble_eq_true rfl⟩ hl.1 (Nat.le_of_ble_eq_true rfl) d7_gates_1 ?_
  refine lv_if_eq (tgt := 19) hx hb d7_gates_4 (by decide) (fun hc2 => ?_) (fun hc2 => ?_)
  · have h0 := og_t hc2 h0
    refine lv_iconst (v := (-1)) hx hb d7_gates_19 (by decide) ?_
    exact q_iret S hr hlk hR hS h0 d7_gates_20
  · have h0 := og_f hc2 h0
    refine lv_iload_n hx hb d7_gates_7 rfl (lv_at hl 2 rfl) ?_
    refine lv_i2l hx hb d7_gates_8 rfl ?_
    refine lv_lconst (v := 0) hx hb d7_gates_9 (by decide) ?_
    refine lv_ldc2 (v := 359) hx hb hown (hts _ (gt_at 1110 (by decide +kernel) (by decide +kernel))) d7_gates_10 ?_
    obtain ⟨r3, hr3, h0⟩ := og_b h0
    refine k7_113 S  hr3 ⟨Nat.zero_le _, Nat.zero_le _⟩ ⟨Nat.le_of_ble_eq_true rfl, Nat.le_of_ble_eq_true rfl⟩ hl.1 (Nat.le_of_ble_eq_true rfl) d7_gates_13 ?_
    refine lv_if_ne (tgt := 21) hx hb d7_gates_16 (by decide) (fun hc4 => ?_) (fun hc4 => ?_)
    · have h0 := og_f hc4 h0
      refine lv_aload_n hx hb d7_gates_21 rfl (lv_at hl 0 rfl) ?_
      refine lv_iload_n hx hb d7_gates_22 rfl (lv_at hl 1 rfl) ?_
      refine lv_iconst (v := 0) hx hb d7_gates_23 (by decide) ?_
      obtain ⟨σ5, hr5, h0⟩ := og_b h0
      refine k7_245 S hK hR hS  hr5 ⟨Nat.zero_le _, Nat.zero_le _⟩ ⟨Nat.le_of_ble_eq_true rfl, Nat.le_of_ble_eq_true rfl⟩ hl.1 (Nat.le_of_ble_eq_true rfl) d7_gates_24 (fun H locs hR hS => ?_)
      refine lv_aload_n hx hb d7_gates_27 rfl (lv_at hl 0 rfl) ?_
      refine g7_73 S hK hR d7_gates_28 ?_
      refine lv_iload_n hx hb d7_gates_31 rfl (lv_at hl 2 rfl) ?_
      obtain ⟨hi6, h0⟩ := og_if h0
      refine q_ld (k := x2.toNatClampNeg) S hK hR (by decide) (eM_126 w _) hi6 rfl d7_gates_32 ?_
      exact q_iret S hr hlk hR hS h0 d7_gates_33
    · have h0 := og_t hc4 h0
      refine lv_iconst (v := (-1)) hx hb d7_gates_19 (by decide) ?_
      exact q_iret S hr hlk hR hS h0 d7_gates_20
/-! FourTenGatesModel.passed(II)I -/
abbrev rm7_passed : Room := { frames := 6, cells := 0, slots := 0, locals := 139 }
theorem d7_passed_0 : decode cX7_passed 0 = .ok (.iload_n 1, 1) := by decide +kernel
theorem d7_passed_1 : decode cX7_passed 1 = .ok (.invokestatic 252, 3) := by decide +kernel
theorem d7_passed_4 : decode cX7_passed 4 = .ok (.ifCond .eq 11, 3) := by decide +kernel
theorem d7_passed_7 : decode cX7_passed 7 = .ok (.aload_n 0, 1) := by decide +kernel
theorem d7_passed_8 : decode cX7_passed 8 = .ok (.iload_n 2, 1) := by decide +kernel
theorem d7_passed_9 : decode cX7_passed 9 = .ok (.invokevirtual 173, 3) := by decide +kernel
theorem d7_passed_12 : decode cX7_passed 12 = .ok (.ifCond .ne 5, 3) := by decide +kernel
theorem d7_passed_15 : decode cX7_passed 15 = .ok (.iconst (-1), 1) := by decide +kernel
theorem d7_passed_16 : decode cX7_passed 16 = .ok (.ireturn, 1) := by decide +kernel
theorem d7_passed_17 : decode cX7_passed 17 = .ok (.aload_n 0, 1) := by decide +kernel
theorem d7_passed_18 : decode cX7_passed 18 = .ok (.iload_n 1, 1) := by decide +kernel
theorem d7_passed_19 : decode cX7_passed 19 = .ok (.iconst 0, 1) := by decide +kernel
theorem d7_passed_20 : decode cX7_passed 20 = .ok (.invokevirtual 245, 3) := by decide +kernel
theorem d7_passed_23 : decode cX7_passed 23 = .ok (.aload_n 0, 1) := by decide +kernel
theorem d7_passed_24 : decode cX7_passed 24 = .ok (.getfield 76, 3) := by decide +kernel
theorem d7_passed_27 : decode cX7_passed 27 = .ok (.iload_n 2, 1) := by decide +kernel
theorem d7_passed_28 : decode cX7_passed 28 = .ok (.iaload, 1) := by decide +kernel
theorem d7_passed_29 : decode cX7_passed 29 = .ok (.ireturn, 1) := by decide +kernel
def f7_passed (σ : Mem) (x1 : Int32) (x2 : Int32) : Option (Mem × Int32) := Option.bind (f7_isRule x1) fun r1 => if r1 = 0 then some (σ, (-1)) else Option.bind (f7_isTrain σ x2) fun r3 => if r3 = 0 then some (σ, (-1)) else Option.bind (f7_goHour σ x1 0) fun σ5 => if ¬ (x2 < 0 ∨ 6 ≤ x2.toNatClampNeg) then some (σ5, σ5 28 x2.toNatClampNeg) else none
set_option maxHeartbeats 4000000 in
set_option maxRecDepth 100000 in
theorem c7_passed (l : Launch) {w : WV} {σ : Mem} {x1 : Int32} {x2 : Int32} {σ' : Mem} {r : Int32} (h0 : f7_passed σ x1 x2 = some (σ', r)) : Met l yX7_passed (wy yX7_passed cX7_passed 3 (some .int)) rm7_passed (Pw EM LM w [.ref (w.2.2 0), .int x1, .int x2] σ) (Qw EM LM w σ' (some (.int r))) 0 0 (AW LM w) := by
  refine mk_met (by decide) (Nat.le_of_ble_eq_true rfl) ?_
  intro p e s m below meth c S hr hlk hK hR ls hl
  obtain ⟨hx, hb, hml, hown, hts⟩ := id S
  have hl : lv_has ls 3 [(0, .ref (w.2.2 0)), (1, .int x1), (2, .int x2)] := hl
  have hS : va_S (AW LM w) s.heap s.heap [] := va_S.rf
  unfold f7_passed at h0
  refine lv_iload_n hx hb d7_passed_0 rfl (lv_at hl 1 rfl) ?_
  obtain ⟨r1, hr1, h0⟩ := og_b h0
  refine k7_252 S  hr1 ⟨Nat.zero_le _, Nat.zero_le _⟩ ⟨Nat.le_of_ble_eq_true rfl, Nat.le_of_ble_eq_true rfl⟩ hl.1 (Nat.le_of_ble_eq_true rfl) d7_passed_1 ?_
  refine lv_if_eq (tgt := 15) hx hb d7_passed_4 (by decide) (fun hc2 => ?_) (fun hc2 => ?_)
  · have h0 := og_t hc2 h0
    refine lv_iconst (v := (-1)) hx hb d7_passed_15 (by decide) ?_
    exact q_iret S hr hlk hR hS h0 d7_passed_16
  · have h0 := og_f hc2 h0
    refine lv_aload_n hx hb d7_passed_7 rfl (lv_at hl 0 rfl) ?_
    refine lv_iload_n hx hb d7_passed_8 rfl (lv_at hl 2 rfl) ?_
    obtain ⟨r3, hr3, h0⟩ := og_b h0
    refine k7_173 S hK hR  hr3 ⟨Nat.zero_le _, Nat.zero_le _⟩ ⟨Nat.le_of_ble_eq_true rfl, Nat.le_of_ble_eq_true rfl⟩ hl.1 (Nat.le_of_ble_eq_true rfl) d7_passed_9 ?_
    refine lv_if_ne (tgt := 17) hx hb d7_passed_12 (by decide) (fun hc4 => ?_) (fun hc4 => ?_)
    · have h0 := og_f hc4 h0
      refine lv_aload_n hx hb d7_passed_17 rfl (lv_at hl 0 rfl) ?_
      refine lv_iload_n hx hb d7_passed_18 rfl (lv_at hl 1 rfl) ?_
      refine lv_iconst (v := 0) hx hb d7_passed_19 (by decide) ?_
      obtain ⟨σ5, hr5, h0⟩ := og_b h0
      refine k7_245 S hK hR hS  hr5 ⟨Nat.zero_le _, Nat.zero_le _⟩ ⟨Nat.le_of_ble_eq_true rfl, Nat.le_of_ble_eq_true rfl⟩ hl.1 (Nat.le_of_ble_eq_true rfl) d7_passed_20 (fun H locs hR hS => ?_)
      refine lv_aload_n hx hb d7_passed_23 rfl (lv_at hl 0 rfl) ?_
      refine g7_76 S hK hR d7_passed_24 ?_
      refine lv_iload_n hx hb d7_passed_27 rfl (lv_at hl 2 rfl) ?_
      obtain ⟨hi6, h0⟩ := og_if h0
      refine q_ld (k := x2.toNatClampNeg) S hK hR (by decide) (eM_127 w _) hi6 rfl d7_passed_28 ?_
      exact q_iret S hr hlk hR hS h0 d7_passed_29
    · have h0 := og_t hc4 h0
      refine lv_iconst (v := (-1)) hx hb d7_passed_15 (by decide) ?_
      exact q_iret S hr hlk hR hS h0 d7_passed_16
/-! FourTenGatesModel.stopped(II)I -/
abbrev rm7_stopped : Room := { frames := 6, cells := 0, slots := 0, locals := 139 }
theorem d7_stopped_0 : decode cX7_stopped 0 = .ok (.iload_n 1, 1) := by decide +kernel
theorem d7_stopped_1 : decode cX7_stopped 1 = .ok (.invokestatic 252, 3) := by decide +kernel
theorem d7_stopped_4 : decode cX7_stopped 4 = .ok (.ifCond .eq 11, 3) := by decide +kernel
theorem d7_stopped_7 : decode cX7_stopped 7 = .ok (.aload_n 0, 1) := by decide +kernel
theorem d7_stopped_8 : decode cX7_stopped 8 = .ok (.iload_n 2, 1) := by decide +kernel
theorem d7_stopped_9 : decode cX7_stopped 9 = .ok (.invokevirtual 173, 3) := by decide +kernel
theorem d7_stopped_12 : decode cX7_stopped 12 = .ok (.ifCond .ne 5, 3) := by decide +kernel
theorem d7_stopped_15 : decode cX7_stopped 15 = .ok (.iconst (-1), 1) := by decide +kernel
theorem d7_stopped_16 : decode cX7_stopped 16 = .ok (.ireturn, 1) := by decide +kernel
theorem d7_stopped_17 : decode cX7_stopped 17 = .ok (.aload_n 0, 1) := by decide +kernel
theorem d7_stopped_18 : decode cX7_stopped 18 = .ok (.iload_n 1, 1) := by decide +kernel
theorem d7_stopped_19 : decode cX7_stopped 19 = .ok (.iconst 0, 1) := by decide +kernel
theorem d7_stopped_20 : decode cX7_stopped 20 = .ok (.invokevirtual 245, 3) := by decide +kernel
theorem d7_stopped_23 : decode cX7_stopped 23 = .ok (.aload_n 0, 1) := by decide +kernel
theorem d7_stopped_24 : decode cX7_stopped 24 = .ok (.getfield 79, 3) := by decide +kernel
theorem d7_stopped_27 : decode cX7_stopped 27 = .ok (.iload_n 2, 1) := by decide +kernel
theorem d7_stopped_28 : decode cX7_stopped 28 = .ok (.iaload, 1) := by decide +kernel
theorem d7_stopped_29 : decode cX7_stopped 29 = .ok (.ireturn, 1) := by decide +kernel
def f7_stopped (σ : Mem) (x1 : Int32) (x2 : Int32) : Option (Mem × Int32) := Option.bind (f7_isRule x1) fun r1 => if r1 = 0 then some (σ, (-1)) else Option.bind (f7_isTrain σ x2) fun r3 => if r3 = 0 then some (σ, (-1)) else Option.bind (f7_goHour σ x1 0) fun σ5 => if ¬ (x2 < 0 ∨ 6 ≤ x2.toNatClampNeg) then some (σ5, σ5 29 x2.toNatClampNeg) else none
set_option maxHeartbeats 4000000 in
set_option maxRecDepth 100000 in
theorem c7_stopped (l : Launch) {w : WV} {σ : Mem} {x1 : Int32} {x2 : Int32} {σ' : Mem} {r : Int32} (h0 : f7_stopped σ x1 x2 = some (σ', r)) : Met l yX7_stopped (wy yX7_stopped cX7_stopped 3 (some .int)) rm7_stopped (Pw EM LM w [.ref (w.2.2 0), .int x1, .int x2] σ) (Qw EM LM w σ' (some (.int r))) 0 0 (AW LM w) := by
  refine mk_met (by decide) (Nat.le_of_ble_eq_true rfl) ?_
  intro p e s m below meth c S hr hlk hK hR ls hl
  obtain ⟨hx, hb, hml, hown, hts⟩ := id S
  have hl : lv_has ls 3 [(0, .ref (w.2.2 0)), (1, .int x1), (2, .int x2)] := hl
  have hS : va_S (AW LM w) s.heap s.heap [] := va_S.rf
  unfold f7_stopped at h0
  refine lv_iload_n hx hb d7_stopped_0 rfl (lv_at hl 1 rfl) ?_
  obtain ⟨r1, hr1, h0⟩ := og_b h0
  refine k7_252 S  hr1 ⟨Nat.zero_le _, Nat.zero_le _⟩ ⟨Nat.le_of_ble_eq_true rfl, Nat.le_of_ble_eq_true rfl⟩ hl.1 (Nat.le_of_ble_eq_true rfl) d7_stopped_1 ?_
  refine lv_if_eq (tgt := 15) hx hb d7_stopped_4 (by decide) (fun hc2 => ?_) (fun hc2 => ?_)
  · have h0 := og_t hc2 h0
    refine lv_iconst (v := (-1)) hx hb d7_stopped_15 (by decide) ?_
    exact q_iret S hr hlk hR hS h0 d7_stopped_16
  · have h0 := og_f hc2 h0
    refine lv_aload_n hx hb d7_stopped_7 rfl (lv_at hl 0 rfl) ?_
    refine lv_iload_n hx hb d7_stopped_8 rfl (lv_at hl 2 rfl) ?_
    obtain ⟨r3, hr3, h0⟩ := og_b h0
    refine k7_173 S hK hR  hr3 ⟨Nat.zero_le _, Nat.zero_le _⟩ ⟨Nat.le_of_ble_eq_true rfl, Nat.le_of_ble_eq_true rfl⟩ hl.1 (Nat.le_of_ble_eq_true rfl) d7_stopped_9 ?_
    refine lv_if_ne (tgt := 17) hx hb d7_stopped_12 (by decide) (fun hc4 => ?_) (fun hc4 => ?_)
    · have h0 := og_f hc4 h0
      refine lv_aload_n hx hb d7_stopped_17 rfl (lv_at hl 0 rfl) ?_
      refine lv_iload_n hx hb d7_stopped_18 rfl (lv_at hl 1 rfl) ?_
      refine lv_iconst (v := 0) hx hb d7_stopped_19 (by decide) ?_
      obtain ⟨σ5, hr5, h0⟩ := og_b h0
      refine k7_245 S hK hR hS  hr5 ⟨Nat.zero_le _, Nat.zero_le _⟩ ⟨Nat.le_of_ble_eq_true rfl, Nat.le_of_ble_eq_true rfl⟩ hl.1 (Nat.le_of_ble_eq_true rfl) d7_stopped_20 (fun H locs hR hS => ?_)
      refine lv_aload_n hx hb d7_stopped_23 rfl (lv_at hl 0 rfl) ?_
      refine g7_79 S hK hR d7_stopped_24 ?_
      refine lv_iload_n hx hb d7_stopped_27 rfl (lv_at hl 2 rfl) ?_
      obtain ⟨hi6, h0⟩ := og_if h0
      refine q_ld (k := x2.toNatClampNeg) S hK hR (by decide) (eM_128 w _) hi6 rfl d7_stopped_28 ?_
      exact q_iret S hr hlk hR hS h0 d7_stopped_29
    · have h0 := og_t hc4 h0
      refine lv_iconst (v := (-1)) hx hb d7_stopped_15 (by decide) ?_
      exact q_iret S hr hlk hR hS h0 d7_stopped_16
/-! FourTenGatesModel.crossed(II)I -/
abbrev rm7_crossed : Room := { frames := 6, cells := 0, slots := 0, locals := 139 }
theorem d7_crossed_0 : decode cX7_crossed 0 = .ok (.iload_n 1, 1) := by decide +kernel
theorem d7_crossed_1 : decode cX7_crossed 1 = .ok (.invokestatic 252, 3) := by decide +kernel
theorem d7_crossed_4 : decode cX7_crossed 4 = .ok (.ifCond .eq 11, 3) := by decide +kernel
theorem d7_crossed_7 : decode cX7_crossed 7 = .ok (.aload_n 0, 1) := by decide +kernel
theorem d7_crossed_8 : decode cX7_crossed 8 = .ok (.iload_n 2, 1) := by decide +kernel
theorem d7_crossed_9 : decode cX7_crossed 9 = .ok (.invokevirtual 179, 3) := by decide +kernel
theorem d7_crossed_12 : decode cX7_crossed 12 = .ok (.ifCond .ne 5, 3) := by decide +kernel
theorem d7_crossed_15 : decode cX7_crossed 15 = .ok (.iconst (-1), 1) := by decide +kernel
theorem d7_crossed_16 : decode cX7_crossed 16 = .ok (.ireturn, 1) := by decide +kernel
theorem d7_crossed_17 : decode cX7_crossed 17 = .ok (.aload_n 0, 1) := by decide +kernel
theorem d7_crossed_18 : decode cX7_crossed 18 = .ok (.iload_n 1, 1) := by decide +kernel
theorem d7_crossed_19 : decode cX7_crossed 19 = .ok (.iconst 0, 1) := by decide +kernel
theorem d7_crossed_20 : decode cX7_crossed 20 = .ok (.invokevirtual 245, 3) := by decide +kernel
theorem d7_crossed_23 : decode cX7_crossed 23 = .ok (.aload_n 0, 1) := by decide +kernel
theorem d7_crossed_24 : decode cX7_crossed 24 = .ok (.getfield 82, 3) := by decide +kernel
theorem d7_crossed_27 : decode cX7_crossed 27 = .ok (.iload_n 2, 1) := by decide +kernel
theorem d7_crossed_28 : decode cX7_crossed 28 = .ok (.iaload, 1) := by decide +kernel
theorem d7_crossed_29 : decode cX7_crossed 29 = .ok (.ireturn, 1) := by decide +kernel
def f7_crossed (σ : Mem) (x1 : Int32) (x2 : Int32) : Option (Mem × Int32) := Option.bind (f7_isRule x1) fun r1 => if r1 = 0 then some (σ, (-1)) else Option.bind (f7_isUser σ x2) fun r3 => if r3 = 0 then some (σ, (-1)) else Option.bind (f7_goHour σ x1 0) fun σ5 => if ¬ (x2 < 0 ∨ 8 ≤ x2.toNatClampNeg) then some (σ5, σ5 30 x2.toNatClampNeg) else none
set_option maxHeartbeats 4000000 in
set_option maxRecDepth 100000 in
theorem c7_crossed (l : Launch) {w : WV} {σ : Mem} {x1 : Int32} {x2 : Int32} {σ' : Mem} {r : Int32} (h0 : f7_crossed σ x1 x2 = some (σ', r)) : Met l yX7_crossed (wy yX7_crossed cX7_crossed 3 (some .int)) rm7_crossed (Pw EM LM w [.ref (w.2.2 0), .int x1, .int x2] σ) (Qw EM LM w σ' (some (.int r))) 0 0 (AW LM w) := by
  refine mk_met (by decide) (Nat.le_of_ble_eq_true rfl) ?_
  intro p e s m below meth c S hr hlk hK hR ls hl
  obtain ⟨hx, hb, hml, hown, hts⟩ := id S
  have hl : lv_has ls 3 [(0, .ref (w.2.2 0)), (1, .int x1), (2, .int x2)] := hl
  have hS : va_S (AW LM w) s.heap s.heap [] := va_S.rf
  unfold f7_crossed at h0
  refine lv_iload_n hx hb d7_crossed_0 rfl (lv_at hl 1 rfl) ?_
  obtain ⟨r1, hr1, h0⟩ := og_b h0
  refine k7_252 S  hr1 ⟨Nat.zero_le _, Nat.zero_le _⟩ ⟨Nat.le_of_ble_eq_true rfl, Nat.le_of_ble_eq_true rfl⟩ hl.1 (Nat.le_of_ble_eq_true rfl) d7_crossed_1 ?_
  refine lv_if_eq (tgt := 15) hx hb d7_crossed_4 (by decide) (fun hc2 => ?_) (fun hc2 => ?_)
  · have h0 := og_t hc2 h0
    refine lv_iconst (v := (-1)) hx hb d7_crossed_15 (by decide) ?_
    exact q_iret S hr hlk hR hS h0 d7_crossed_16
  · have h0 := og_f hc2 h0
    refine lv_aload_n hx hb d7_crossed_7 rfl (lv_at hl 0 rfl) ?_
    refine lv_iload_n hx hb d7_crossed_8 rfl (lv_at hl 2 rfl) ?_
    obtain ⟨r3, hr3, h0⟩ := og_b h0
    refine k7_179 S hK hR  hr3 ⟨Nat.zero_le _, Nat.zero_le _⟩ ⟨Nat.le_of_ble_eq_true rfl, Nat.le_of_ble_eq_true rfl⟩ hl.1 (Nat.le_of_ble_eq_true rfl) d7_crossed_9 ?_
    refine lv_if_ne (tgt := 17) hx hb d7_crossed_12 (by decide) (fun hc4 => ?_) (fun hc4 => ?_)
    · have h0 := og_f hc4 h0
      refine lv_aload_n hx hb d7_crossed_17 rfl (lv_at hl 0 rfl) ?_
      refine lv_iload_n hx hb d7_crossed_18 rfl (lv_at hl 1 rfl) ?_
      refine lv_iconst (v := 0) hx hb d7_crossed_19 (by decide) ?_
      obtain ⟨σ5, hr5, h0⟩ := og_b h0
      refine k7_245 S hK hR hS  hr5 ⟨Nat.zero_le _, Nat.zero_le _⟩ ⟨Nat.le_of_ble_eq_true rfl, Nat.le_of_ble_eq_true rfl⟩ hl.1 (Nat.le_of_ble_eq_true rfl) d7_crossed_20 (fun H locs hR hS => ?_)
      refine lv_aload_n hx hb d7_crossed_23 rfl (lv_at hl 0 rfl) ?_
      refine g7_82 S hK hR d7_crossed_24 ?_
      refine lv_iload_n hx hb d7_crossed_27 rfl (lv_at hl 2 rfl) ?_
      obtain ⟨hi6, h0⟩ := og_if h0
      refine q_ld (k := x2.toNatClampNeg) S hK hR (by decide) (eM_129 w _) hi6 rfl d7_crossed_28 ?_
      exact q_iret S hr hlk hR hS h0 d7_crossed_29
    · have h0 := og_t hc4 h0
      refine lv_iconst (v := (-1)) hx hb d7_crossed_15 (by decide) ?_
      exact q_iret S hr hlk hR hS h0 d7_crossed_16
/-! FourTenGatesModel.waited(II)I -/
abbrev rm7_waited : Room := { frames := 6, cells := 0, slots := 0, locals := 139 }
theorem d7_waited_0 : decode cX7_waited 0 = .ok (.iload_n 1, 1) := by decide +kernel
theorem d7_waited_1 : decode cX7_waited 1 = .ok (.invokestatic 252, 3) := by decide +kernel
theorem d7_waited_4 : decode cX7_waited 4 = .ok (.ifCond .eq 11, 3) := by decide +kernel
theorem d7_waited_7 : decode cX7_waited 7 = .ok (.aload_n 0, 1) := by decide +kernel
theorem d7_waited_8 : decode cX7_waited 8 = .ok (.iload_n 2, 1) := by decide +kernel
theorem d7_waited_9 : decode cX7_waited 9 = .ok (.invokevirtual 179, 3) := by decide +kernel
theorem d7_waited_12 : decode cX7_waited 12 = .ok (.ifCond .ne 5, 3) := by decide +kernel
theorem d7_waited_15 : decode cX7_waited 15 = .ok (.iconst (-1), 1) := by decide +kernel
theorem d7_waited_16 : decode cX7_waited 16 = .ok (.ireturn, 1) := by decide +kernel
theorem d7_waited_17 : decode cX7_waited 17 = .ok (.aload_n 0, 1) := by decide +kernel
theorem d7_waited_18 : decode cX7_waited 18 = .ok (.iload_n 1, 1) := by decide +kernel
theorem d7_waited_19 : decode cX7_waited 19 = .ok (.iconst 0, 1) := by decide +kernel
theorem d7_waited_20 : decode cX7_waited 20 = .ok (.invokevirtual 245, 3) := by decide +kernel
theorem d7_waited_23 : decode cX7_waited 23 = .ok (.aload_n 0, 1) := by decide +kernel
theorem d7_waited_24 : decode cX7_waited 24 = .ok (.getfield 85, 3) := by decide +kernel
theorem d7_waited_27 : decode cX7_waited 27 = .ok (.iload_n 2, 1) := by decide +kernel
theorem d7_waited_28 : decode cX7_waited 28 = .ok (.iaload, 1) := by decide +kernel
theorem d7_waited_29 : decode cX7_waited 29 = .ok (.ireturn, 1) := by decide +kernel
def f7_waited (σ : Mem) (x1 : Int32) (x2 : Int32) : Option (Mem × Int32) := Option.bind (f7_isRule x1) fun r1 => if r1 = 0 then some (σ, (-1)) else Option.bind (f7_isUser σ x2) fun r3 => if r3 = 0 then some (σ, (-1)) else Option.bind (f7_goHour σ x1 0) fun σ5 => if ¬ (x2 < 0 ∨ 8 ≤ x2.toNatClampNeg) then some (σ5, σ5 31 x2.toNatClampNeg) else none
set_option maxHeartbeats 4000000 in
set_option maxRecDepth 100000 in
theorem c7_waited (l : Launch) {w : WV} {σ : Mem} {x1 : Int32} {x2 : Int32} {σ' : Mem} {r : Int32} (h0 : f7_waited σ x1 x2 = some (σ', r)) : Met l yX7_waited (wy yX7_waited cX7_waited 3 (some .int)) rm7_waited (Pw EM LM w [.ref (w.2.2 0), .int x1, .int x2] σ) (Qw EM LM w σ' (some (.int r))) 0 0 (AW LM w) := by
  refine mk_met (by decide) (Nat.le_of_ble_eq_true rfl) ?_
  intro p e s m below meth c S hr hlk hK hR ls hl
  obtain ⟨hx, hb, hml, hown, hts⟩ := id S
  have hl : lv_has ls 3 [(0, .ref (w.2.2 0)), (1, .int x1), (2, .int x2)] := hl
  have hS : va_S (AW LM w) s.heap s.heap [] := va_S.rf
  unfold f7_waited at h0
  refine lv_iload_n hx hb d7_waited_0 rfl (lv_at hl 1 rfl) ?_
  obtain ⟨r1, hr1, h0⟩ := og_b h0
  refine k7_252 S  hr1 ⟨Nat.zero_le _, Nat.zero_le _⟩ ⟨Nat.le_of_ble_eq_true rfl, Nat.le_of_ble_eq_true rfl⟩ hl.1 (Nat.le_of_ble_eq_true rfl) d7_waited_1 ?_
  refine lv_if_eq (tgt := 15) hx hb d7_waited_4 (by decide) (fun hc2 => ?_) (fun hc2 => ?_)
  · have h0 := og_t hc2 h0
    refine lv_iconst (v := (-1)) hx hb d7_waited_15 (by decide) ?_
    exact q_iret S hr hlk hR hS h0 d7_waited_16
  · have h0 := og_f hc2 h0
    refine lv_aload_n hx hb d7_waited_7 rfl (lv_at hl 0 rfl) ?_
    refine lv_iload_n hx hb d7_waited_8 rfl (lv_at hl 2 rfl) ?_
    obtain ⟨r3, hr3, h0⟩ := og_b h0
    refine k7_179 S hK hR  hr3 ⟨Nat.zero_le _, Nat.zero_le _⟩ ⟨Nat.le_of_ble_eq_true rfl, Nat.le_of_ble_eq_true rfl⟩ hl.1 (Nat.le_of_ble_eq_true rfl) d7_waited_9 ?_
    refine lv_if_ne (tgt := 17) hx hb d7_waited_12 (by decide) (fun hc4 => ?_) (fun hc4 => ?_)
    · have h0 := og_f hc4 h0
      refine lv_aload_n hx hb d7_waited_17 rfl (lv_at hl 0 rfl) ?_
      refine lv_iload_n hx hb d7_waited_18 rfl (lv_at hl 1 rfl) ?_
      refine lv_iconst (v := 0) hx hb d7_waited_19 (by decide) ?_
      obtain ⟨σ5, hr5, h0⟩ := og_b h0
      refine k7_245 S hK hR hS  hr5 ⟨Nat.zero_le _, Nat.zero_le _⟩ ⟨Nat.le_of_ble_eq_true rfl, Nat.le_of_ble_eq_true rfl⟩ hl.1 (Nat.le_of_ble_eq_true rfl) d7_waited_20 (fun H locs hR hS => ?_)
      refine lv_aload_n hx hb d7_waited_23 rfl (lv_at hl 0 rfl) ?_
      refine g7_85 S hK hR d7_waited_24 ?_
      refine lv_iload_n hx hb d7_waited_27 rfl (lv_at hl 2 rfl) ?_
      obtain ⟨hi6, h0⟩ := og_if h0
      refine q_ld (k := x2.toNatClampNeg) S hK hR (by decide) (eM_130 w _) hi6 rfl d7_waited_28 ?_
      exact q_iret S hr hlk hR hS h0 d7_waited_29
    · have h0 := og_t hc4 h0
      refine lv_iconst (v := (-1)) hx hb d7_waited_15 (by decide) ?_
      exact q_iret S hr hlk hR hS h0 d7_waited_16
/-! FourTenGatesModel.cost(I)I -/
abbrev rm7_cost : Room := { frames := 7, cells := 0, slots := 0, locals := 161 }
theorem d7_cost_0 : decode cX7_cost 0 = .ok (.iload_n 1, 1) := by decide +kernel
theorem d7_cost_1 : decode cX7_cost 1 = .ok (.invokestatic 252, 3) := by decide +kernel
theorem d7_cost_4 : decode cX7_cost 4 = .ok (.ifCond .eq 12, 3) := by decide +kernel
theorem d7_cost_7 : decode cX7_cost 7 = .ok (.aload_n 0, 1) := by decide +kernel
theorem d7_cost_8 : decode cX7_cost 8 = .ok (.iload_n 1, 1) := by decide +kernel
theorem d7_cost_9 : decode cX7_cost 9 = .ok (.iconst 0, 1) := by decide +kernel
theorem d7_cost_10 : decode cX7_cost 10 = .ok (.invokevirtual 257, 3) := by decide +kernel
theorem d7_cost_13 : decode cX7_cost 13 = .ok (.goto 4, 3) := by decide +kernel
theorem d7_cost_16 : decode cX7_cost 16 = .ok (.iconst (-1), 1) := by decide +kernel
theorem d7_cost_17 : decode cX7_cost 17 = .ok (.ireturn, 1) := by decide +kernel
def f7_cost (σ : Mem) (x1 : Int32) : Option (Mem × Int32) := Option.bind (f7_isRule x1) fun r1 => if r1 = 0 then some (σ, (-1)) else ob (f7_costBy σ x1 0) fun σ3 r3 => some (σ3, r3)
set_option maxHeartbeats 4000000 in
set_option maxRecDepth 100000 in
theorem c7_cost (l : Launch) {w : WV} {σ : Mem} {x1 : Int32} {σ' : Mem} {r : Int32} (h0 : f7_cost σ x1 = some (σ', r)) : Met l yX7_cost (wy yX7_cost cX7_cost 2 (some .int)) rm7_cost (Pw EM LM w [.ref (w.2.2 0), .int x1] σ) (Qw EM LM w σ' (some (.int r))) 0 0 (AW LM w) := by
  refine mk_met (by decide) (Nat.le_of_ble_eq_true rfl) ?_
  intro p e s m below meth c S hr hlk hK hR ls hl
  obtain ⟨hx, hb, hml, hown, hts⟩ := id S
  have hl : lv_has ls 2 [(0, .ref (w.2.2 0)), (1, .int x1)] := hl
  have hS : va_S (AW LM w) s.heap s.heap [] := va_S.rf
  unfold f7_cost at h0
  refine lv_iload_n hx hb d7_cost_0 rfl (lv_at hl 1 rfl) ?_
  obtain ⟨r1, hr1, h0⟩ := og_b h0
  refine k7_252 S  hr1 ⟨Nat.zero_le _, Nat.zero_le _⟩ ⟨Nat.le_of_ble_eq_true rfl, Nat.le_of_ble_eq_true rfl⟩ hl.1 (Nat.le_of_ble_eq_true rfl) d7_cost_1 ?_
  refine lv_if_eq (tgt := 16) hx hb d7_cost_4 (by decide) (fun hc2 => ?_) (fun hc2 => ?_)
  · have h0 := og_t hc2 h0
    refine lv_iconst (v := (-1)) hx hb d7_cost_16 (by decide) ?_
    exact q_iret S hr hlk hR hS h0 d7_cost_17
  · have h0 := og_f hc2 h0
    refine lv_aload_n hx hb d7_cost_7 rfl (lv_at hl 0 rfl) ?_
    refine lv_iload_n hx hb d7_cost_8 rfl (lv_at hl 1 rfl) ?_
    refine lv_iconst (v := 0) hx hb d7_cost_9 (by decide) ?_
    obtain ⟨σ3, r3, hr3, h0⟩ := og_o h0
    refine k7_257 S hK hR hS  hr3 ⟨Nat.zero_le _, Nat.zero_le _⟩ ⟨Nat.le_of_ble_eq_true rfl, Nat.le_of_ble_eq_true rfl⟩ hl.1 (Nat.le_of_ble_eq_true rfl) d7_cost_10 (fun H locs hR hS => ?_)
    refine lv_goto (tgt := 17) hx hb d7_cost_13 (by decide) ?_
    exact q_iret S hr hlk hR hS h0 d7_cost_17
/-! FourTenGatesModel.note()V -/
abbrev rm7_note : Room := { frames := 0, cells := 0, slots := 0, locals := 0 }
theorem d7_note_0 : decode cX7_note 0 = .ok (.aload_n 0, 1) := by decide +kernel
theorem d7_note_1 : decode cX7_note 1 = .ok (.getfield 159, 3) := by decide +kernel
theorem d7_note_4 : decode cX7_note 4 = .ok (.bipush 8, 2) := by decide +kernel
theorem d7_note_6 : decode cX7_note 6 = .ok (.if_icmp .ne 43, 3) := by decide +kernel
theorem d7_note_9 : decode cX7_note 9 = .ok (.iconst 0, 1) := by decide +kernel
theorem d7_note_10 : decode cX7_note 10 = .ok (.istore_n 1, 1) := by decide +kernel
theorem d7_note_11 : decode cX7_note 11 = .ok (.iload_n 1, 1) := by decide +kernel
theorem d7_note_12 : decode cX7_note 12 = .ok (.sipush 133, 3) := by decide +kernel
theorem d7_note_15 : decode cX7_note 15 = .ok (.if_icmp .ge 24, 3) := by decide +kernel
theorem d7_note_18 : decode cX7_note 18 = .ok (.aload_n 0, 1) := by decide +kernel
theorem d7_note_19 : decode cX7_note 19 = .ok (.getfield 58, 3) := by decide +kernel
theorem d7_note_22 : decode cX7_note 22 = .ok (.iload_n 1, 1) := by decide +kernel
theorem d7_note_23 : decode cX7_note 23 = .ok (.aload_n 0, 1) := by decide +kernel
theorem d7_note_24 : decode cX7_note 24 = .ok (.getfield 58, 3) := by decide +kernel
theorem d7_note_27 : decode cX7_note 27 = .ok (.bipush 19, 2) := by decide +kernel
theorem d7_note_29 : decode cX7_note 29 = .ok (.iload_n 1, 1) := by decide +kernel
theorem d7_note_30 : decode cX7_note 30 = .ok (.iadd, 1) := by decide +kernel
theorem d7_note_31 : decode cX7_note 31 = .ok (.iaload, 1) := by decide +kernel
theorem d7_note_32 : decode cX7_note 32 = .ok (.iastore, 1) := by decide +kernel
theorem d7_note_33 : decode cX7_note 33 = .ok (.iinc 1 1, 3) := by decide +kernel
theorem d7_note_36 : decode cX7_note 36 = .ok (.goto (-25), 3) := by decide +kernel
theorem d7_note_39 : decode cX7_note 39 = .ok (.aload_n 0, 1) := by decide +kernel
theorem d7_note_40 : decode cX7_note 40 = .ok (.dup, 1) := by decide +kernel
theorem d7_note_41 : decode cX7_note 41 = .ok (.getfield 159, 3) := by decide +kernel
theorem d7_note_44 : decode cX7_note 44 = .ok (.iconst 1, 1) := by decide +kernel
theorem d7_note_45 : decode cX7_note 45 = .ok (.isub, 1) := by decide +kernel
theorem d7_note_46 : decode cX7_note 46 = .ok (.putfield 159, 3) := by decide +kernel
theorem d7_note_49 : decode cX7_note 49 = .ok (.iconst 0, 1) := by decide +kernel
theorem d7_note_50 : decode cX7_note 50 = .ok (.istore_n 1, 1) := by decide +kernel
theorem d7_note_51 : decode cX7_note 51 = .ok (.iload_n 1, 1) := by decide +kernel
theorem d7_note_52 : decode cX7_note 52 = .ok (.bipush 19, 2) := by decide +kernel
theorem d7_note_54 : decode cX7_note 54 = .ok (.if_icmp .ge 29, 3) := by decide +kernel
theorem d7_note_57 : decode cX7_note 57 = .ok (.aload_n 0, 1) := by decide +kernel
theorem d7_note_58 : decode cX7_note 58 = .ok (.getfield 58, 3) := by decide +kernel
theorem d7_note_61 : decode cX7_note 61 = .ok (.bipush 19, 2) := by decide +kernel
theorem d7_note_63 : decode cX7_note 63 = .ok (.aload_n 0, 1) := by decide +kernel
theorem d7_note_64 : decode cX7_note 64 = .ok (.getfield 159, 3) := by decide +kernel
theorem d7_note_67 : decode cX7_note 67 = .ok (.imul, 1) := by decide +kernel
theorem d7_note_68 : decode cX7_note 68 = .ok (.iload_n 1, 1) := by decide +kernel
theorem d7_note_69 : decode cX7_note 69 = .ok (.iadd, 1) := by decide +kernel
theorem d7_note_70 : decode cX7_note 70 = .ok (.aload_n 0, 1) := by decide +kernel
theorem d7_note_71 : decode cX7_note 71 = .ok (.getfield 55, 3) := by decide +kernel
theorem d7_note_74 : decode cX7_note 74 = .ok (.iload_n 1, 1) := by decide +kernel
theorem d7_note_75 : decode cX7_note 75 = .ok (.iaload, 1) := by decide +kernel
theorem d7_note_76 : decode cX7_note 76 = .ok (.iastore, 1) := by decide +kernel
theorem d7_note_77 : decode cX7_note 77 = .ok (.iinc 1 1, 3) := by decide +kernel
theorem d7_note_80 : decode cX7_note 80 = .ok (.goto (-29), 3) := by decide +kernel
theorem d7_note_83 : decode cX7_note 83 = .ok (.aload_n 0, 1) := by decide +kernel
theorem d7_note_84 : decode cX7_note 84 = .ok (.dup, 1) := by decide +kernel
theorem d7_note_85 : decode cX7_note 85 = .ok (.getfield 159, 3) := by decide +kernel
theorem d7_note_88 : decode cX7_note 88 = .ok (.iconst 1, 1) := by decide +kernel
theorem d7_note_89 : decode cX7_note 89 = .ok (.iadd, 1) := by decide +kernel
theorem d7_note_90 : decode cX7_note 90 = .ok (.putfield 159, 3) := by decide +kernel
theorem d7_note_93 : decode cX7_note 93 = .ok (.return_, 1) := by decide +kernel
def f7_note_b51 : Nat → Mem → Int32 → Option Mem
  | 0, _, _ => none
  | n + 1, σ, x1 => if 19 ≤ x1 then bm (mu σ 0 18 ((σ 0 18) + 1)) fun σ2 => some σ2 else if ¬ (x1 < 0 ∨ 19 ≤ x1.toNatClampNeg) then if ¬ ((19 * (σ 0 18)) + x1 < 0 ∨ 152 ≤ ((19 * (σ 0 18)) + x1).toNatClampNeg) then (bm (mu σ 18 (((19 * (σ 0 18)) + x1).toNatClampNeg) (σ 17 x1.toNatClampNeg)) fun σ4 => f7_note_b51 n σ4 (x1 + 1)) else none else none
set_option maxHeartbeats 4000000 in
set_option maxRecDepth 100000 in
theorem t7_note_b51 {p : Program} {l : Launch} {e : Env} {s : State} {m : MethodId} {args : Array Value} {below : List Frame} {meth : Method} {c : Code} {w : WV} {σ' : Mem} (S : CallFix p m c cX7_note 2 s args gtbl RX7) (hr : meth.sig.returnType = none) (hlk : meth.locks = false) (hK : KS LM w s) : ∀ (n : Nat), ∀ (σ : Mem) (x1 : Int32), f7_note_b51  n σ x1 = some σ' → ∀ (H : Heap) (locs : List Loc), Rp EM LM w σ H → va_S (AW LM w) s.heap H locs → ∀ (ls : Array Slot), lv_has ls 2 [(0, .ref (w.2.2 0)), (1, .int x1)] → W p l e rm7_note s m args below meth c H locs 0 0 (MQ below (Qw EM LM w σ' none) args s 0 0 (AW LM w)) (F0 m 51 ls []) := by
  obtain ⟨hx, hb, hml, hown, hts⟩ := id S
  intro n
  induction n with
  | zero =>
    intro σ x1 h0
    cases (show none = _ from h0)
  | succ n ih =>
    intro σ x1 h0 H locs hR hS ls hl
    rw [f7_note_b51] at h0
    refine lv_iload_n hx hb d7_note_51 rfl (lv_at hl 1 rfl) ?_
    refine lv_bipush (v := 19) hx hb d7_note_52 (by decide) ?_
    refine lv_icmp_ge (tgt := 83) hx hb d7_note_54 (by decide) (fun hc1 => ?_) (fun hc1 => ?_)
    · have h0 := og_t hc1 h0
      refine lv_aload_n hx hb d7_note_83 rfl (lv_at hl 0 rfl) ?_
      refine lv_dup hx hb d7_note_84 rfl ?_
      refine g7_159 S hK hR d7_note_85 ?_
      refine lv_iconst (v := 1) hx hb d7_note_88 (by decide) ?_
      refine lv_iadd hx hb d7_note_89 ?_
      obtain ⟨σ2, hm2, h0⟩ := og_m h0
      refine u7_159 S hK hR hS hm2 d7_note_90 (fun H locs hR hS => ?_)
      exact q_vret S hr hlk hR hS h0 d7_note_93
    · have h0 := og_f hc1 h0
      refine lv_aload_n hx hb d7_note_57 rfl (lv_at hl 0 rfl) ?_
      refine g7_58 S hK hR d7_note_58 ?_
      refine lv_bipush (v := 19) hx hb d7_note_61 (by decide) ?_
      refine lv_aload_n hx hb d7_note_63 rfl (lv_at hl 0 rfl) ?_
      refine g7_159 S hK hR d7_note_64 ?_
      refine lv_imul hx hb d7_note_67 ?_
      refine lv_iload_n hx hb d7_note_68 rfl (lv_at hl 1 rfl) ?_
      refine lv_iadd hx hb d7_note_69 ?_
      refine lv_aload_n hx hb d7_note_70 rfl (lv_at hl 0 rfl) ?_
      refine g7_55 S hK hR d7_note_71 ?_
      refine lv_iload_n hx hb d7_note_74 rfl (lv_at hl 1 rfl) ?_
      obtain ⟨hi2, h0⟩ := og_if h0
      refine q_ld (k := x1.toNatClampNeg) S hK hR (by decide) (eM_116 w _) hi2 rfl d7_note_75 ?_
      obtain ⟨hi3, h0⟩ := og_if h0
      obtain ⟨σ4, hm4, h0⟩ := og_m h0
      refine q_st S hK hR hS (by decide) (eM_117 w) hi3 rfl hm4 d7_note_76 (fun H locs hR hS => ?_)
      refine lv_iinc (v := x1 + 1) (lv' := [(1, .int (x1 + 1)), (0, .ref (w.2.2 0))]) hx hb d7_note_77 hl (k := 1) rfl (ii1 _) (by decide) rfl (fun ls hl => ?_)
      refine lv_goto (tgt := 51) hx hb d7_note_80 (by decide) ?_
      exact ih σ4 (x1 + 1) h0 _ _ hR hS _ (lv_sub hl [1, 0] rfl)
def f7_note_b11 : Nat → Mem → Int32 → Option Mem
  | 0, _, _ => none
  | n + 1, σ, x1 => if 133 ≤ x1 then bm (mu σ 0 18 ((σ 0 18) - 1)) fun σ2 => f7_note_b51 1000 σ2 0 else if ¬ (19 + x1 < 0 ∨ 152 ≤ (19 + x1).toNatClampNeg) then if ¬ (x1 < 0 ∨ 152 ≤ x1.toNatClampNeg) then (bm (mu σ 18 x1.toNatClampNeg (σ 18 ((19 + x1).toNatClampNeg))) fun σ4 => f7_note_b11 n σ4 (x1 + 1)) else none else none
set_option maxHeartbeats 4000000 in
set_option maxRecDepth 100000 in
theorem t7_note_b11 {p : Program} {l : Launch} {e : Env} {s : State} {m : MethodId} {args : Array Value} {below : List Frame} {meth : Method} {c : Code} {w : WV} {σ' : Mem} (S : CallFix p m c cX7_note 2 s args gtbl RX7) (hr : meth.sig.returnType = none) (hlk : meth.locks = false) (hK : KS LM w s) : ∀ (n : Nat), ∀ (σ : Mem) (x1 : Int32), f7_note_b11  n σ x1 = some σ' → ∀ (H : Heap) (locs : List Loc), Rp EM LM w σ H → va_S (AW LM w) s.heap H locs → ∀ (ls : Array Slot), lv_has ls 2 [(0, .ref (w.2.2 0)), (1, .int x1)] → W p l e rm7_note s m args below meth c H locs 0 0 (MQ below (Qw EM LM w σ' none) args s 0 0 (AW LM w)) (F0 m 11 ls []) := by
  obtain ⟨hx, hb, hml, hown, hts⟩ := id S
  intro n
  induction n with
  | zero =>
    intro σ x1 h0
    cases (show none = _ from h0)
  | succ n ih =>
    intro σ x1 h0 H locs hR hS ls hl
    rw [f7_note_b11] at h0
    refine lv_iload_n hx hb d7_note_11 rfl (lv_at hl 1 rfl) ?_
    refine lv_sipush (v := 133) hx hb d7_note_12 (by decide) ?_
    refine lv_icmp_ge (tgt := 39) hx hb d7_note_15 (by decide) (fun hc1 => ?_) (fun hc1 => ?_)
    · have h0 := og_t hc1 h0
      refine lv_aload_n hx hb d7_note_39 rfl (lv_at hl 0 rfl) ?_
      refine lv_dup hx hb d7_note_40 rfl ?_
      refine g7_159 S hK hR d7_note_41 ?_
      refine lv_iconst (v := 1) hx hb d7_note_44 (by decide) ?_
      refine lv_isub hx hb d7_note_45 ?_
      obtain ⟨σ2, hm2, h0⟩ := og_m h0
      refine u7_159 S hK hR hS hm2 d7_note_46 (fun H locs hR hS => ?_)
      refine lv_iconst (v := 0) hx hb d7_note_49 (by decide) ?_
      refine lv_istore_n (lv' := [(1, .int 0), (0, .ref (w.2.2 0))]) hx hb d7_note_50 rfl hl (by decide) rfl (fun ls hl => ?_)
      exact t7_note_b51 S hr hlk hK 1000 σ2 0 h0 _ _ hR hS _ (lv_sub hl [1, 0] rfl)
    · have h0 := og_f hc1 h0
      refine lv_aload_n hx hb d7_note_18 rfl (lv_at hl 0 rfl) ?_
      refine g7_58 S hK hR d7_note_19 ?_
      refine lv_iload_n hx hb d7_note_22 rfl (lv_at hl 1 rfl) ?_
      refine lv_aload_n hx hb d7_note_23 rfl (lv_at hl 0 rfl) ?_
      refine g7_58 S hK hR d7_note_24 ?_
      refine lv_bipush (v := 19) hx hb d7_note_27 (by decide) ?_
      refine lv_iload_n hx hb d7_note_29 rfl (lv_at hl 1 rfl) ?_
      refine lv_iadd hx hb d7_note_30 ?_
      obtain ⟨hi2, h0⟩ := og_if h0
      refine q_ld (k := ((19 + x1).toNatClampNeg)) S hK hR (by decide) (eM_117 w _) hi2 rfl d7_note_31 ?_
      obtain ⟨hi3, h0⟩ := og_if h0
      obtain ⟨σ4, hm4, h0⟩ := og_m h0
      refine q_st S hK hR hS (by decide) (eM_117 w) hi3 rfl hm4 d7_note_32 (fun H locs hR hS => ?_)
      refine lv_iinc (v := x1 + 1) (lv' := [(1, .int (x1 + 1)), (0, .ref (w.2.2 0))]) hx hb d7_note_33 hl (k := 1) rfl (ii1 _) (by decide) rfl (fun ls hl => ?_)
      refine lv_goto (tgt := 11) hx hb d7_note_36 (by decide) ?_
      exact ih σ4 (x1 + 1) h0 _ _ hR hS _ (lv_sub hl [1, 0] rfl)
def f7_note (σ : Mem) : Option Mem := if (σ 0 18) = 8 then f7_note_b11 1000 σ 0 else f7_note_b51 1000 σ 0
set_option maxHeartbeats 4000000 in
set_option maxRecDepth 100000 in
theorem c7_note (l : Launch) {w : WV} {σ : Mem} {σ' : Mem} (h0 : f7_note σ = some σ') : Met l yX7_note (wy yX7_note cX7_note 2 none) rm7_note (Pw EM LM w [.ref (w.2.2 0)] σ) (Qw EM LM w σ' none) 0 0 (AW LM w) := by
  refine mk_met (by decide) (Nat.le_of_ble_eq_true rfl) ?_
  intro p e s m below meth c S hr hlk hK hR ls hl
  obtain ⟨hx, hb, hml, hown, hts⟩ := id S
  have hl : lv_has ls 2 [(0, .ref (w.2.2 0))] := hl
  have hS : va_S (AW LM w) s.heap s.heap [] := va_S.rf
  unfold f7_note at h0
  refine lv_aload_n hx hb d7_note_0 rfl (lv_at hl 0 rfl) ?_
  refine g7_159 S hK hR d7_note_1 ?_
  refine lv_bipush (v := 8) hx hb d7_note_4 (by decide) ?_
  refine lv_icmp_ne (tgt := 49) hx hb d7_note_6 (by decide) (fun hc1 => ?_) (fun hc1 => ?_)
  · have h0 := og_f hc1 h0
    refine lv_iconst (v := 0) hx hb d7_note_49 (by decide) ?_
    refine lv_istore_n (lv' := [(1, .int 0), (0, .ref (w.2.2 0))]) hx hb d7_note_50 rfl hl (by decide) rfl (fun ls hl => ?_)
    exact t7_note_b51 S hr hlk hK 1000 σ 0 h0 _ _ hR hS _ (lv_sub hl [1, 0] rfl)
  · have h0 := og_t hc1 h0
    refine lv_iconst (v := 0) hx hb d7_note_9 (by decide) ?_
    refine lv_istore_n (lv' := [(1, .int 0), (0, .ref (w.2.2 0))]) hx hb d7_note_10 rfl hl (by decide) rfl (fun ls hl => ?_)
    exact t7_note_b11 S hr hlk hK 1000 σ 0 h0 _ _ hR hS _ (lv_sub hl [1, 0] rfl)
set_option maxHeartbeats 4000000 in
set_option maxRecDepth 100000 in
theorem k7_263 {p : Program} {l : Launch} {e : Env} {R : Room} {s : State} {m : MethodId} {args : Array Value} {below : List Frame} {meth : Method} {c : Code} {H : Heap} {locs : List Loc} {cells slots : Nat} {Q : State → Prop} {cc : ByteArray} {pc nL : Nat} {ls : Array Slot} {rest : List Value} {w : WV} {σ : Mem} {σ1 : Mem} (S : CallFix p m c cc nL s args gtbl RX7) (hK : KS LM w s) (hR : Rp EM LM w σ H) (hS : va_S (AW LM w) s.heap H locs) (h0 : f7_note σ = some σ1) (hf : cells + 0 ≤ R.cells ∧ slots + 0 ≤ R.slots) (hRm : rm7_note.frames + 1 ≤ R.frames ∧ 8 + (2 + 11) + rm7_note.locals ≤ R.locals) (hl : ls.size = nL) (hW : (rest.map fun v => v.category).sum ≤ 8) (hdg : decode cc pc = .ok (.invokevirtual 263, 3)) (kk : ∀ (H1 : Heap) (locs1 : List Loc), Rp EM LM w σ1 H1 → va_S (AW LM w) s.heap H1 locs1 → W p l e R s m args below meth c H1 locs1 cells slots Q (F0 m (pc + 3) ls (rest))) : W p l e R s m args below meth c H locs cells slots Q (F0 m pc ls (.ref (w.2.2 0) :: rest)) := r_end hS (run_V (n := 0) (As := []) S hK hR (by decide) (eM_7 w _) rfl (gw_V (gt_at 1208 (by decide +kernel) (by decide +kernel)) (gt_at 1210 (by decide +kernel) (by decide +kernel)) (gt_at 72 (by decide +kernel) (by decide +kernel)) (gt_at 86 (by decide +kernel) (by decide +kernel)) (gt_at 1211 (by decide +kernel) (by decide +kernel))) (by decide +kernel) rfl (c7_note l h0) ⟨rfl, rfl⟩ hRm hf hl rfl hW hdg) kk
/-! FourTenGatesModel.late(II)I -/
abbrev rm7_late : Room := { frames := 2, cells := 0, slots := 0, locals := 46 }
theorem d7_late_0 : decode cX7_late 0 = .ok (.aload_n 0, 1) := by decide +kernel
theorem d7_late_1 : decode cX7_late 1 = .ok (.iload_n 1, 1) := by decide +kernel
theorem d7_late_2 : decode cX7_late 2 = .ok (.invokevirtual 173, 3) := by decide +kernel
theorem d7_late_5 : decode cX7_late 5 = .ok (.ifCond .eq 15, 3) := by decide +kernel
theorem d7_late_8 : decode cX7_late 8 = .ok (.iload_n 2, 1) := by decide +kernel
theorem d7_late_9 : decode cX7_late 9 = .ok (.i2l, 1) := by decide +kernel
theorem d7_late_10 : decode cX7_late 10 = .ok (.lconst 0, 1) := by decide +kernel
theorem d7_late_11 : decode cX7_late 11 = .ok (.ldc2_w 261, 3) := by decide +kernel
theorem d7_late_14 : decode cX7_late 14 = .ok (.invokestatic 113, 3) := by decide +kernel
theorem d7_late_17 : decode cX7_late 17 = .ok (.ifCond .ne 5, 3) := by decide +kernel
theorem d7_late_20 : decode cX7_late 20 = .ok (.iconst (-1), 1) := by decide +kernel
theorem d7_late_21 : decode cX7_late 21 = .ok (.ireturn, 1) := by decide +kernel
theorem d7_late_22 : decode cX7_late 22 = .ok (.aload_n 0, 1) := by decide +kernel
theorem d7_late_23 : decode cX7_late 23 = .ok (.invokevirtual 263, 3) := by decide +kernel
theorem d7_late_26 : decode cX7_late 26 = .ok (.aload_n 0, 1) := by decide +kernel
theorem d7_late_27 : decode cX7_late 27 = .ok (.getfield 55, 3) := by decide +kernel
theorem d7_late_30 : decode cX7_late 30 = .ok (.iload_n 1, 1) := by decide +kernel
theorem d7_late_31 : decode cX7_late 31 = .ok (.iaload, 1) := by decide +kernel
theorem d7_late_32 : decode cX7_late 32 = .ok (.istore_n 3, 1) := by decide +kernel
theorem d7_late_33 : decode cX7_late 33 = .ok (.aload_n 0, 1) := by decide +kernel
theorem d7_late_34 : decode cX7_late 34 = .ok (.getfield 55, 3) := by decide +kernel
theorem d7_late_37 : decode cX7_late 37 = .ok (.iload_n 1, 1) := by decide +kernel
theorem d7_late_38 : decode cX7_late 38 = .ok (.iload_n 2, 1) := by decide +kernel
theorem d7_late_39 : decode cX7_late 39 = .ok (.iastore, 1) := by decide +kernel
theorem d7_late_40 : decode cX7_late 40 = .ok (.iload_n 3, 1) := by decide +kernel
theorem d7_late_41 : decode cX7_late 41 = .ok (.ireturn, 1) := by decide +kernel
def f7_late (σ : Mem) (x1 : Int32) (x2 : Int32) : Option (Mem × Int32) := Option.bind (f7_isTrain σ x1) fun r1 => if r1 = 0 then some (σ, (-1)) else Option.bind (f7_in x2.toInt64 (0 : Int64) (30 : Int64)) fun r3 => if r3 = 0 then some (σ, (-1)) else Option.bind (f7_note σ) fun σ5 => if ¬ (x1 < 0 ∨ 19 ≤ x1.toNatClampNeg) then if ¬ (x1 < 0 ∨ 19 ≤ x1.toNatClampNeg) then (bm (mu σ5 17 x1.toNatClampNeg x2) fun σ8 => some (σ8, σ5 17 x1.toNatClampNeg)) else none else none
set_option maxHeartbeats 4000000 in
set_option maxRecDepth 100000 in
theorem c7_late (l : Launch) {w : WV} {σ : Mem} {x1 : Int32} {x2 : Int32} {σ' : Mem} {r : Int32} (h0 : f7_late σ x1 x2 = some (σ', r)) : Met l yX7_late (wy yX7_late cX7_late 4 (some .int)) rm7_late (Pw EM LM w [.ref (w.2.2 0), .int x1, .int x2] σ) (Qw EM LM w σ' (some (.int r))) 0 0 (AW LM w) := by
  refine mk_met (by decide) (Nat.le_of_ble_eq_true rfl) ?_
  intro p e s m below meth c S hr hlk hK hR ls hl
  obtain ⟨hx, hb, hml, hown, hts⟩ := id S
  have hl : lv_has ls 4 [(0, .ref (w.2.2 0)), (1, .int x1), (2, .int x2)] := hl
  have hS : va_S (AW LM w) s.heap s.heap [] := va_S.rf
  unfold f7_late at h0
  refine lv_aload_n hx hb d7_late_0 rfl (lv_at hl 0 rfl) ?_
  refine lv_iload_n hx hb d7_late_1 rfl (lv_at hl 1 rfl) ?_
  obtain ⟨r1, hr1, h0⟩ := og_b h0
  refine k7_173 S hK hR  hr1 ⟨Nat.zero_le _, Nat.zero_le _⟩ ⟨Nat.le_of_ble_eq_true rfl, Nat.le_of_ble_eq_true rfl⟩ hl.1 (Nat.le_of_ble_eq_true rfl) d7_late_2 ?_
  refine lv_if_eq (tgt := 20) hx hb d7_late_5 (by decide) (fun hc2 => ?_) (fun hc2 => ?_)
  · have h0 := og_t hc2 h0
    refine lv_iconst (v := (-1)) hx hb d7_late_20 (by decide) ?_
    exact q_iret S hr hlk hR hS h0 d7_late_21
  · have h0 := og_f hc2 h0
    refine lv_iload_n hx hb d7_late_8 rfl (lv_at hl 2 rfl) ?_
    refine lv_i2l hx hb d7_late_9 rfl ?_
    refine lv_lconst (v := 0) hx hb d7_late_10 (by decide) ?_
    refine lv_ldc2 (v := 30) hx hb hown (hts _ (gt_at 1207 (by decide +kernel) (by decide +kernel))) d7_late_11 ?_
    obtain ⟨r3, hr3, h0⟩ := og_b h0
    refine k7_113 S  hr3 ⟨Nat.zero_le _, Nat.zero_le _⟩ ⟨Nat.le_of_ble_eq_true rfl, Nat.le_of_ble_eq_true rfl⟩ hl.1 (Nat.le_of_ble_eq_true rfl) d7_late_14 ?_
    refine lv_if_ne (tgt := 22) hx hb d7_late_17 (by decide) (fun hc4 => ?_) (fun hc4 => ?_)
    · have h0 := og_f hc4 h0
      refine lv_aload_n hx hb d7_late_22 rfl (lv_at hl 0 rfl) ?_
      obtain ⟨σ5, hr5, h0⟩ := og_b h0
      refine k7_263 S hK hR hS  hr5 ⟨Nat.zero_le _, Nat.zero_le _⟩ ⟨Nat.le_of_ble_eq_true rfl, Nat.le_of_ble_eq_true rfl⟩ hl.1 (Nat.le_of_ble_eq_true rfl) d7_late_23 (fun H locs hR hS => ?_)
      refine lv_aload_n hx hb d7_late_26 rfl (lv_at hl 0 rfl) ?_
      refine g7_55 S hK hR d7_late_27 ?_
      refine lv_iload_n hx hb d7_late_30 rfl (lv_at hl 1 rfl) ?_
      obtain ⟨hi6, h0⟩ := og_if h0
      refine q_ld (k := x1.toNatClampNeg) S hK hR (by decide) (eM_116 w _) hi6 rfl d7_late_31 ?_
      refine lv_istore_n (lv' := [(3, .int (σ5 17 x1.toNatClampNeg)), (0, .ref (w.2.2 0)), (1, .int x1), (2, .int x2)]) hx hb d7_late_32 rfl hl (by decide) rfl (fun ls hl => ?_)
      refine lv_aload_n hx hb d7_late_33 rfl (lv_at hl 1 rfl) ?_
      refine g7_55 S hK hR d7_late_34 ?_
      refine lv_iload_n hx hb d7_late_37 rfl (lv_at hl 2 rfl) ?_
      refine lv_iload_n hx hb d7_late_38 rfl (lv_at hl 3 rfl) ?_
      obtain ⟨hi7, h0⟩ := og_if h0
      obtain ⟨σ8, hm8, h0⟩ := og_m h0
      refine q_st S hK hR hS (by decide) (eM_116 w) hi7 rfl hm8 d7_late_39 (fun H locs hR hS => ?_)
      refine lv_iload_n hx hb d7_late_40 rfl (lv_at hl 0 rfl) ?_
      exact q_iret S hr hlk hR hS h0 d7_late_41
    · have h0 := og_t hc4 h0
      refine lv_iconst (v := (-1)) hx hb d7_late_20 (by decide) ?_
      exact q_iret S hr hlk hR hS h0 d7_late_21
/-! FourTenGatesModel.shut(II)I -/
abbrev rm7_shut : Room := { frames := 1, cells := 0, slots := 0, locals := 25 }
theorem d7_shut_0 : decode cX7_shut 0 = .ok (.iload_n 1, 1) := by decide +kernel
theorem d7_shut_1 : decode cX7_shut 1 = .ok (.i2l, 1) := by decide +kernel
theorem d7_shut_2 : decode cX7_shut 2 = .ok (.lconst 0, 1) := by decide +kernel
theorem d7_shut_3 : decode cX7_shut 3 = .ok (.ldc2_w 266, 3) := by decide +kernel
theorem d7_shut_6 : decode cX7_shut 6 = .ok (.invokestatic 113, 3) := by decide +kernel
theorem d7_shut_9 : decode cX7_shut 9 = .ok (.ifCond .eq 18, 3) := by decide +kernel
theorem d7_shut_12 : decode cX7_shut 12 = .ok (.iload_n 2, 1) := by decide +kernel
theorem d7_shut_13 : decode cX7_shut 13 = .ok (.i2l, 1) := by decide +kernel
theorem d7_shut_14 : decode cX7_shut 14 = .ok (.iload_n 1, 1) := by decide +kernel
theorem d7_shut_15 : decode cX7_shut 15 = .ok (.iconst 1, 1) := by decide +kernel
theorem d7_shut_16 : decode cX7_shut 16 = .ok (.iadd, 1) := by decide +kernel
theorem d7_shut_17 : decode cX7_shut 17 = .ok (.i2l, 1) := by decide +kernel
theorem d7_shut_18 : decode cX7_shut 18 = .ok (.ldc2_w 268, 3) := by decide +kernel
theorem d7_shut_21 : decode cX7_shut 21 = .ok (.invokestatic 113, 3) := by decide +kernel
theorem d7_shut_24 : decode cX7_shut 24 = .ok (.ifCond .ne 5, 3) := by decide +kernel
theorem d7_shut_27 : decode cX7_shut 27 = .ok (.iconst (-1), 1) := by decide +kernel
theorem d7_shut_28 : decode cX7_shut 28 = .ok (.ireturn, 1) := by decide +kernel
theorem d7_shut_29 : decode cX7_shut 29 = .ok (.aload_n 0, 1) := by decide +kernel
theorem d7_shut_30 : decode cX7_shut 30 = .ok (.getfield 55, 3) := by decide +kernel
theorem d7_shut_33 : decode cX7_shut 33 = .ok (.bipush 6, 2) := by decide +kernel
theorem d7_shut_35 : decode cX7_shut 35 = .ok (.iaload, 1) := by decide +kernel
theorem d7_shut_36 : decode cX7_shut 36 = .ok (.bipush 6, 2) := by decide +kernel
theorem d7_shut_38 : decode cX7_shut 38 = .ok (.if_icmp .ne 6, 3) := by decide +kernel
theorem d7_shut_41 : decode cX7_shut 41 = .ok (.bipush (-3), 2) := by decide +kernel
theorem d7_shut_43 : decode cX7_shut 43 = .ok (.ireturn, 1) := by decide +kernel
theorem d7_shut_44 : decode cX7_shut 44 = .ok (.aload_n 0, 1) := by decide +kernel
theorem d7_shut_45 : decode cX7_shut 45 = .ok (.invokevirtual 263, 3) := by decide +kernel
theorem d7_shut_48 : decode cX7_shut 48 = .ok (.aload_n 0, 1) := by decide +kernel
theorem d7_shut_49 : decode cX7_shut 49 = .ok (.getfield 55, 3) := by decide +kernel
theorem d7_shut_52 : decode cX7_shut 52 = .ok (.bipush 7, 2) := by decide +kernel
theorem d7_shut_54 : decode cX7_shut 54 = .ok (.aload_n 0, 1) := by decide +kernel
theorem d7_shut_55 : decode cX7_shut 55 = .ok (.getfield 55, 3) := by decide +kernel
theorem d7_shut_58 : decode cX7_shut 58 = .ok (.bipush 6, 2) := by decide +kernel
theorem d7_shut_60 : decode cX7_shut 60 = .ok (.iaload, 1) := by decide +kernel
theorem d7_shut_61 : decode cX7_shut 61 = .ok (.iadd, 1) := by decide +kernel
theorem d7_shut_62 : decode cX7_shut 62 = .ok (.iload_n 1, 1) := by decide +kernel
theorem d7_shut_63 : decode cX7_shut 63 = .ok (.iastore, 1) := by decide +kernel
theorem d7_shut_64 : decode cX7_shut 64 = .ok (.aload_n 0, 1) := by decide +kernel
theorem d7_shut_65 : decode cX7_shut 65 = .ok (.getfield 55, 3) := by decide +kernel
theorem d7_shut_68 : decode cX7_shut 68 = .ok (.bipush 13, 2) := by decide +kernel
theorem d7_shut_70 : decode cX7_shut 70 = .ok (.aload_n 0, 1) := by decide +kernel
theorem d7_shut_71 : decode cX7_shut 71 = .ok (.getfield 55, 3) := by decide +kernel
theorem d7_shut_74 : decode cX7_shut 74 = .ok (.bipush 6, 2) := by decide +kernel
theorem d7_shut_76 : decode cX7_shut 76 = .ok (.iaload, 1) := by decide +kernel
theorem d7_shut_77 : decode cX7_shut 77 = .ok (.iadd, 1) := by decide +kernel
theorem d7_shut_78 : decode cX7_shut 78 = .ok (.iload_n 2, 1) := by decide +kernel
theorem d7_shut_79 : decode cX7_shut 79 = .ok (.iastore, 1) := by decide +kernel
theorem d7_shut_80 : decode cX7_shut 80 = .ok (.aload_n 0, 1) := by decide +kernel
theorem d7_shut_81 : decode cX7_shut 81 = .ok (.getfield 55, 3) := by decide +kernel
theorem d7_shut_84 : decode cX7_shut 84 = .ok (.bipush 6, 2) := by decide +kernel
theorem d7_shut_86 : decode cX7_shut 86 = .ok (.dup2, 1) := by decide +kernel
theorem d7_shut_87 : decode cX7_shut 87 = .ok (.iaload, 1) := by decide +kernel
theorem d7_shut_88 : decode cX7_shut 88 = .ok (.iconst 1, 1) := by decide +kernel
theorem d7_shut_89 : decode cX7_shut 89 = .ok (.iadd, 1) := by decide +kernel
theorem d7_shut_90 : decode cX7_shut 90 = .ok (.iastore, 1) := by decide +kernel
theorem d7_shut_91 : decode cX7_shut 91 = .ok (.aload_n 0, 1) := by decide +kernel
theorem d7_shut_92 : decode cX7_shut 92 = .ok (.getfield 55, 3) := by decide +kernel
theorem d7_shut_95 : decode cX7_shut 95 = .ok (.bipush 6, 2) := by decide +kernel
theorem d7_shut_97 : decode cX7_shut 97 = .ok (.iaload, 1) := by decide +kernel
theorem d7_shut_98 : decode cX7_shut 98 = .ok (.ireturn, 1) := by decide +kernel
def f7_shut (σ : Mem) (x1 : Int32) (x2 : Int32) : Option (Mem × Int32) := Option.bind (f7_in x1.toInt64 (0 : Int64) (59 : Int64)) fun r1 => if r1 = 0 then some (σ, (-1)) else Option.bind (f7_in x2.toInt64 ((x1 + 1).toInt64) (60 : Int64)) fun r3 => if r3 = 0 then some (σ, (-1)) else if (σ 17 6) = 6 then some (σ, (-3)) else Option.bind (f7_note σ) fun σ6 => if ¬ (7 + (σ6 17 6) < 0 ∨ 19 ≤ (7 + (σ6 17 6)).toNatClampNeg) then (bm (mu σ6 17 ((7 + (σ6 17 6)).toNatClampNeg) x1) fun σ8 => if ¬ (13 + (σ8 17 6) < 0 ∨ 19 ≤ (13 + (σ8 17 6)).toNatClampNeg) then (bm (mu σ8 17 ((13 + (σ8 17 6)).toNatClampNeg) x2) fun σ10 => bm (mu σ10 17 6 ((σ10 17 6) + 1)) fun σ11 => some (σ11, σ11 17 6)) else none) else none
set_option maxHeartbeats 4000000 in
set_option maxRecDepth 100000 in
theorem c7_shut (l : Launch) {w : WV} {σ : Mem} {x1 : Int32} {x2 : Int32} {σ' : Mem} {r : Int32} (h0 : f7_shut σ x1 x2 = some (σ', r)) : Met l yX7_shut (wy yX7_shut cX7_shut 3 (some .int)) rm7_shut (Pw EM LM w [.ref (w.2.2 0), .int x1, .int x2] σ) (Qw EM LM w σ' (some (.int r))) 0 0 (AW LM w) := by
  refine mk_met (by decide) (Nat.le_of_ble_eq_true rfl) ?_
  intro p e s m below meth c S hr hlk hK hR ls hl
  obtain ⟨hx, hb, hml, hown, hts⟩ := id S
  have hl : lv_has ls 3 [(0, .ref (w.2.2 0)), (1, .int x1), (2, .int x2)] := hl
  have hS : va_S (AW LM w) s.heap s.heap [] := va_S.rf
  unfold f7_shut at h0
  refine lv_iload_n hx hb d7_shut_0 rfl (lv_at hl 1 rfl) ?_
  refine lv_i2l hx hb d7_shut_1 rfl ?_
  refine lv_lconst (v := 0) hx hb d7_shut_2 (by decide) ?_
  refine lv_ldc2 (v := 59) hx hb hown (hts _ (gt_at 1216 (by decide +kernel) (by decide +kernel))) d7_shut_3 ?_
  obtain ⟨r1, hr1, h0⟩ := og_b h0
  refine k7_113 S  hr1 ⟨Nat.zero_le _, Nat.zero_le _⟩ ⟨Nat.le_of_ble_eq_true rfl, Nat.le_of_ble_eq_true rfl⟩ hl.1 (Nat.le_of_ble_eq_true rfl) d7_shut_6 ?_
  refine lv_if_eq (tgt := 27) hx hb d7_shut_9 (by decide) (fun hc2 => ?_) (fun hc2 => ?_)
  · have h0 := og_t hc2 h0
    refine lv_iconst (v := (-1)) hx hb d7_shut_27 (by decide) ?_
    exact q_iret S hr hlk hR hS h0 d7_shut_28
  · have h0 := og_f hc2 h0
    refine lv_iload_n hx hb d7_shut_12 rfl (lv_at hl 2 rfl) ?_
    refine lv_i2l hx hb d7_shut_13 rfl ?_
    refine lv_iload_n hx hb d7_shut_14 rfl (lv_at hl 1 rfl) ?_
    refine lv_iconst (v := 1) hx hb d7_shut_15 (by decide) ?_
    refine lv_iadd hx hb d7_shut_16 ?_
    refine lv_i2l hx hb d7_shut_17 rfl ?_
    refine lv_ldc2 (v := 60) hx hb hown (hts _ (gt_at 1217 (by decide +kernel) (by decide +kernel))) d7_shut_18 ?_
    obtain ⟨r3, hr3, h0⟩ := og_b h0
    refine k7_113 S  hr3 ⟨Nat.zero_le _, Nat.zero_le _⟩ ⟨Nat.le_of_ble_eq_true rfl, Nat.le_of_ble_eq_true rfl⟩ hl.1 (Nat.le_of_ble_eq_true rfl) d7_shut_21 ?_
    refine lv_if_ne (tgt := 29) hx hb d7_shut_24 (by decide) (fun hc4 => ?_) (fun hc4 => ?_)
    · have h0 := og_f hc4 h0
      refine lv_aload_n hx hb d7_shut_29 rfl (lv_at hl 0 rfl) ?_
      refine g7_55 S hK hR d7_shut_30 ?_
      refine lv_bipush (v := 6) hx hb d7_shut_33 (by decide) ?_
      refine q_ld (k := 6) S hK hR (by decide) (eM_116 w _) (vin (by decide)) (by decide) d7_shut_35 ?_
      refine lv_bipush (v := 6) hx hb d7_shut_36 (by decide) ?_
      refine lv_icmp_ne (tgt := 44) hx hb d7_shut_38 (by decide) (fun hc5 => ?_) (fun hc5 => ?_)
      · have h0 := og_f hc5 h0
        refine lv_aload_n hx hb d7_shut_44 rfl (lv_at hl 0 rfl) ?_
        obtain ⟨σ6, hr6, h0⟩ := og_b h0
        refine k7_263 S hK hR hS  hr6 ⟨Nat.zero_le _, Nat.zero_le _⟩ ⟨Nat.le_of_ble_eq_true rfl, Nat.le_of_ble_eq_true rfl⟩ hl.1 (Nat.le_of_ble_eq_true rfl) d7_shut_45 (fun H locs hR hS => ?_)
        refine lv_aload_n hx hb d7_shut_48 rfl (lv_at hl 0 rfl) ?_
        refine g7_55 S hK hR d7_shut_49 ?_
        refine lv_bipush (v := 7) hx hb d7_shut_52 (by decide) ?_
        refine lv_aload_n hx hb d7_shut_54 rfl (lv_at hl 0 rfl) ?_
        refine g7_55 S hK hR d7_shut_55 ?_
        refine lv_bipush (v := 6) hx hb d7_shut_58 (by decide) ?_
        refine q_ld (k := 6) S hK hR (by decide) (eM_116 w _) (vin (by decide)) (by decide) d7_shut_60 ?_
        refine lv_iadd hx hb d7_shut_61 ?_
        refine lv_iload_n hx hb d7_shut_62 rfl (lv_at hl 1 rfl) ?_
        obtain ⟨hi7, h0⟩ := og_if h0
        obtain ⟨σ8, hm8, h0⟩ := og_m h0
        refine q_st S hK hR hS (by decide) (eM_116 w) hi7 rfl hm8 d7_shut_63 (fun H locs hR hS => ?_)
        refine lv_aload_n hx hb d7_shut_64 rfl (lv_at hl 0 rfl) ?_
        refine g7_55 S hK hR d7_shut_65 ?_
        refine lv_bipush (v := 13) hx hb d7_shut_68 (by decide) ?_
        refine lv_aload_n hx hb d7_shut_70 rfl (lv_at hl 0 rfl) ?_
        refine g7_55 S hK hR d7_shut_71 ?_
        refine lv_bipush (v := 6) hx hb d7_shut_74 (by decide) ?_
        refine q_ld (k := 6) S hK hR (by decide) (eM_116 w _) (vin (by decide)) (by decide) d7_shut_76 ?_
        refine lv_iadd hx hb d7_shut_77 ?_
        refine lv_iload_n hx hb d7_shut_78 rfl (lv_at hl 2 rfl) ?_
        obtain ⟨hi9, h0⟩ := og_if h0
        obtain ⟨σ10, hm10, h0⟩ := og_m h0
        refine q_st S hK hR hS (by decide) (eM_116 w) hi9 rfl hm10 d7_shut_79 (fun H locs hR hS => ?_)
        refine lv_aload_n hx hb d7_shut_80 rfl (lv_at hl 0 rfl) ?_
        refine g7_55 S hK hR d7_shut_81 ?_
        refine lv_bipush (v := 6) hx hb d7_shut_84 (by decide) ?_
        refine lv_dup2_11 hx hb d7_shut_86 rfl rfl ?_
        refine q_ld (k := 6) S hK hR (by decide) (eM_116 w _) (vin (by decide)) (by decide) d7_shut_87 ?_
        refine lv_iconst (v := 1) hx hb d7_shut_88 (by decide) ?_
        refine lv_iadd hx hb d7_shut_89 ?_
        obtain ⟨σ11, hm11, h0⟩ := og_m h0
        refine q_st S hK hR hS (by decide) (eM_116 w) (vin (by decide)) (by decide) hm11 d7_shut_90 (fun H locs hR hS => ?_)
        refine lv_aload_n hx hb d7_shut_91 rfl (lv_at hl 0 rfl) ?_
        refine g7_55 S hK hR d7_shut_92 ?_
        refine lv_bipush (v := 6) hx hb d7_shut_95 (by decide) ?_
        refine q_ld (k := 6) S hK hR (by decide) (eM_116 w _) (vin (by decide)) (by decide) d7_shut_97 ?_
        exact q_iret S hr hlk hR hS h0 d7_shut_98
      · have h0 := og_t hc5 h0
        refine lv_bipush (v := (-3)) hx hb d7_shut_41 (by decide) ?_
        exact q_iret S hr hlk hR hS h0 d7_shut_43
    · have h0 := og_t hc4 h0
      refine lv_iconst (v := (-1)) hx hb d7_shut_27 (by decide) ?_
      exact q_iret S hr hlk hR hS h0 d7_shut_28
/-! FourTenGatesModel.leave(I)I -/
abbrev rm7_leave : Room := { frames := 1, cells := 0, slots := 0, locals := 25 }
theorem d7_leave_0 : decode cX7_leave 0 = .ok (.iload_n 1, 1) := by decide +kernel
theorem d7_leave_1 : decode cX7_leave 1 = .ok (.i2l, 1) := by decide +kernel
theorem d7_leave_2 : decode cX7_leave 2 = .ok (.lconst 0, 1) := by decide +kernel
theorem d7_leave_3 : decode cX7_leave 3 = .ok (.aload_n 0, 1) := by decide +kernel
theorem d7_leave_4 : decode cX7_leave 4 = .ok (.getfield 55, 3) := by decide +kernel
theorem d7_leave_7 : decode cX7_leave 7 = .ok (.bipush 6, 2) := by decide +kernel
theorem d7_leave_9 : decode cX7_leave 9 = .ok (.iaload, 1) := by decide +kernel
theorem d7_leave_10 : decode cX7_leave 10 = .ok (.iconst 1, 1) := by decide +kernel
theorem d7_leave_11 : decode cX7_leave 11 = .ok (.isub, 1) := by decide +kernel
theorem d7_leave_12 : decode cX7_leave 12 = .ok (.i2l, 1) := by decide +kernel
theorem d7_leave_13 : decode cX7_leave 13 = .ok (.invokestatic 113, 3) := by decide +kernel
theorem d7_leave_16 : decode cX7_leave 16 = .ok (.ifCond .ne 5, 3) := by decide +kernel
theorem d7_leave_19 : decode cX7_leave 19 = .ok (.iconst (-1), 1) := by decide +kernel
theorem d7_leave_20 : decode cX7_leave 20 = .ok (.ireturn, 1) := by decide +kernel
theorem d7_leave_21 : decode cX7_leave 21 = .ok (.aload_n 0, 1) := by decide +kernel
theorem d7_leave_22 : decode cX7_leave 22 = .ok (.invokevirtual 263, 3) := by decide +kernel
theorem d7_leave_25 : decode cX7_leave 25 = .ok (.aload_n 0, 1) := by decide +kernel
theorem d7_leave_26 : decode cX7_leave 26 = .ok (.getfield 55, 3) := by decide +kernel
theorem d7_leave_29 : decode cX7_leave 29 = .ok (.bipush 6, 2) := by decide +kernel
theorem d7_leave_31 : decode cX7_leave 31 = .ok (.dup2, 1) := by decide +kernel
theorem d7_leave_32 : decode cX7_leave 32 = .ok (.iaload, 1) := by decide +kernel
theorem d7_leave_33 : decode cX7_leave 33 = .ok (.iconst 1, 1) := by decide +kernel
theorem d7_leave_34 : decode cX7_leave 34 = .ok (.isub, 1) := by decide +kernel
theorem d7_leave_35 : decode cX7_leave 35 = .ok (.iastore, 1) := by decide +kernel
theorem d7_leave_36 : decode cX7_leave 36 = .ok (.iload_n 1, 1) := by decide +kernel
theorem d7_leave_37 : decode cX7_leave 37 = .ok (.istore_n 2, 1) := by decide +kernel
theorem d7_leave_38 : decode cX7_leave 38 = .ok (.iload_n 2, 1) := by decide +kernel
theorem d7_leave_39 : decode cX7_leave 39 = .ok (.aload_n 0, 1) := by decide +kernel
theorem d7_leave_40 : decode cX7_leave 40 = .ok (.getfield 55, 3) := by decide +kernel
theorem d7_leave_43 : decode cX7_leave 43 = .ok (.bipush 6, 2) := by decide +kernel
theorem d7_leave_45 : decode cX7_leave 45 = .ok (.iaload, 1) := by decide +kernel
theorem d7_leave_46 : decode cX7_leave 46 = .ok (.if_icmp .ge 45, 3) := by decide +kernel
theorem d7_leave_49 : decode cX7_leave 49 = .ok (.aload_n 0, 1) := by decide +kernel
theorem d7_leave_50 : decode cX7_leave 50 = .ok (.getfield 55, 3) := by decide +kernel
theorem d7_leave_53 : decode cX7_leave 53 = .ok (.bipush 7, 2) := by decide +kernel
theorem d7_leave_55 : decode cX7_leave 55 = .ok (.iload_n 2, 1) := by decide +kernel
theorem d7_leave_56 : decode cX7_leave 56 = .ok (.iadd, 1) := by decide +kernel
theorem d7_leave_57 : decode cX7_leave 57 = .ok (.aload_n 0, 1) := by decide +kernel
theorem d7_leave_58 : decode cX7_leave 58 = .ok (.getfield 55, 3) := by decide +kernel
theorem d7_leave_61 : decode cX7_leave 61 = .ok (.bipush 8, 2) := by decide +kernel
theorem d7_leave_63 : decode cX7_leave 63 = .ok (.iload_n 2, 1) := by decide +kernel
theorem d7_leave_64 : decode cX7_leave 64 = .ok (.iadd, 1) := by decide +kernel
theorem d7_leave_65 : decode cX7_leave 65 = .ok (.iaload, 1) := by decide +kernel
theorem d7_leave_66 : decode cX7_leave 66 = .ok (.iastore, 1) := by decide +kernel
theorem d7_leave_67 : decode cX7_leave 67 = .ok (.aload_n 0, 1) := by decide +kernel
theorem d7_leave_68 : decode cX7_leave 68 = .ok (.getfield 55, 3) := by decide +kernel
theorem d7_leave_71 : decode cX7_leave 71 = .ok (.bipush 13, 2) := by decide +kernel
theorem d7_leave_73 : decode cX7_leave 73 = .ok (.iload_n 2, 1) := by decide +kernel
theorem d7_leave_74 : decode cX7_leave 74 = .ok (.iadd, 1) := by decide +kernel
theorem d7_leave_75 : decode cX7_leave 75 = .ok (.aload_n 0, 1) := by decide +kernel
theorem d7_leave_76 : decode cX7_leave 76 = .ok (.getfield 55, 3) := by decide +kernel
theorem d7_leave_79 : decode cX7_leave 79 = .ok (.bipush 14, 2) := by decide +kernel
theorem d7_leave_81 : decode cX7_leave 81 = .ok (.iload_n 2, 1) := by decide +kernel
theorem d7_leave_82 : decode cX7_leave 82 = .ok (.iadd, 1) := by decide +kernel
theorem d7_leave_83 : decode cX7_leave 83 = .ok (.iaload, 1) := by decide +kernel
theorem d7_leave_84 : decode cX7_leave 84 = .ok (.iastore, 1) := by decide +kernel
theorem d7_leave_85 : decode cX7_leave 85 = .ok (.iinc 2 1, 3) := by decide +kernel
theorem d7_leave_88 : decode cX7_leave 88 = .ok (.goto (-50), 3) := by decide +kernel
theorem d7_leave_91 : decode cX7_leave 91 = .ok (.aload_n 0, 1) := by decide +kernel
theorem d7_leave_92 : decode cX7_leave 92 = .ok (.getfield 55, 3) := by decide +kernel
theorem d7_leave_95 : decode cX7_leave 95 = .ok (.bipush 6, 2) := by decide +kernel
theorem d7_leave_97 : decode cX7_leave 97 = .ok (.iaload, 1) := by decide +kernel
theorem d7_leave_98 : decode cX7_leave 98 = .ok (.ireturn, 1) := by decide +kernel
def f7_leave_b38 : Nat → Mem → Int32 → Option (Mem × Int32)
  | 0, _, _ => none
  | n + 1, σ, x2 => if (σ 17 6) ≤ x2 then some (σ, σ 17 6) else if ¬ (8 + x2 < 0 ∨ 19 ≤ (8 + x2).toNatClampNeg) then if ¬ (7 + x2 < 0 ∨ 19 ≤ (7 + x2).toNatClampNeg) then (bm (mu σ 17 ((7 + x2).toNatClampNeg) (σ 17 ((8 + x2).toNatClampNeg))) fun σ4 => if ¬ (14 + x2 < 0 ∨ 19 ≤ (14 + x2).toNatClampNeg) then if ¬ (13 + x2 < 0 ∨ 19 ≤ (13 + x2).toNatClampNeg) then (bm (mu σ4 17 ((13 + x2).toNatClampNeg) (σ4 17 ((14 + x2).toNatClampNeg))) fun σ7 => f7_leave_b38 n σ7 (x2 + 1)) else none else none) else none else none
set_option maxHeartbeats 4000000 in
set_option maxRecDepth 100000 in
theorem t7_leave_b38 {p : Program} {l : Launch} {e : Env} {s : State} {m : MethodId} {args : Array Value} {below : List Frame} {meth : Method} {c : Code} {w : WV} {σ' : Mem} {r : Int32} (S : CallFix p m c cX7_leave 3 s args gtbl RX7) (hr : meth.sig.returnType = (some .int)) (hlk : meth.locks = false) (hK : KS LM w s) : ∀ (n : Nat), ∀ (σ : Mem) (x2 : Int32), f7_leave_b38  n σ x2 = some (σ', r) → ∀ (H : Heap) (locs : List Loc), Rp EM LM w σ H → va_S (AW LM w) s.heap H locs → ∀ (ls : Array Slot), lv_has ls 3 [(0, .ref (w.2.2 0)), (2, .int x2)] → W p l e rm7_leave s m args below meth c H locs 0 0 (MQ below (Qw EM LM w σ' (some (.int r))) args s 0 0 (AW LM w)) (F0 m 38 ls []) := by
  obtain ⟨hx, hb, hml, hown, hts⟩ := id S
  intro n
  induction n with
  | zero =>
    intro σ x2 h0
    cases (show none = _ from h0)
  | succ n ih =>
    intro σ x2 h0 H locs hR hS ls hl
    rw [f7_leave_b38] at h0
    refine lv_iload_n hx hb d7_leave_38 rfl (lv_at hl 1 rfl) ?_
    refine lv_aload_n hx hb d7_leave_39 rfl (lv_at hl 0 rfl) ?_
    refine g7_55 S hK hR d7_leave_40 ?_
    refine lv_bipush (v := 6) hx hb d7_leave_43 (by decide) ?_
    refine q_ld (k := 6) S hK hR (by decide) (eM_116 w _) (vin (by decide)) (by decide) d7_leave_45 ?_
    refine lv_icmp_ge (tgt := 91) hx hb d7_leave_46 (by decide) (fun hc1 => ?_) (fun hc1 => ?_)
    · have h0 := og_t hc1 h0
      refine lv_aload_n hx hb d7_leave_91 rfl (lv_at hl 0 rfl) ?_
      refine g7_55 S hK hR d7_leave_92 ?_
      refine lv_bipush (v := 6) hx hb d7_leave_95 (by decide) ?_
      refine q_ld (k := 6) S hK hR (by decide) (eM_116 w _) (vin (by decide)) (by decide) d7_leave_97 ?_
      exact q_iret S hr hlk hR hS h0 d7_leave_98
    · have h0 := og_f hc1 h0
      refine lv_aload_n hx hb d7_leave_49 rfl (lv_at hl 0 rfl) ?_
      refine g7_55 S hK hR d7_leave_50 ?_
      refine lv_bipush (v := 7) hx hb d7_leave_53 (by decide) ?_
      refine lv_iload_n hx hb d7_leave_55 rfl (lv_at hl 1 rfl) ?_
      refine lv_iadd hx hb d7_leave_56 ?_
      refine lv_aload_n hx hb d7_leave_57 rfl (lv_at hl 0 rfl) ?_
      refine g7_55 S hK hR d7_leave_58 ?_
      refine lv_bipush (v := 8) hx hb d7_leave_61 (by decide) ?_
      refine lv_iload_n hx hb d7_leave_63 rfl (lv_at hl 1 rfl) ?_
      refine lv_iadd hx hb d7_leave_64 ?_
      obtain ⟨hi2, h0⟩ := og_if h0
      refine q_ld (k := ((8 + x2).toNatClampNeg)) S hK hR (by decide) (eM_116 w _) hi2 rfl d7_leave_65 ?_
      obtain ⟨hi3, h0⟩ := og_if h0
      obtain ⟨σ4, hm4, h0⟩ := og_m h0
      refine q_st S hK hR hS (by decide) (eM_116 w) hi3 rfl hm4 d7_leave_66 (fun H locs hR hS => ?_)
      refine lv_aload_n hx hb d7_leave_67 rfl (lv_at hl 0 rfl) ?_
      refine g7_55 S hK hR d7_leave_68 ?_
      refine lv_bipush (v := 13) hx hb d7_leave_71 (by decide) ?_
      refine lv_iload_n hx hb d7_leave_73 rfl (lv_at hl 1 rfl) ?_
      refine lv_iadd hx hb d7_leave_74 ?_
      refine lv_aload_n hx hb d7_leave_75 rfl (lv_at hl 0 rfl) ?_
      refine g7_55 S hK hR d7_leave_76 ?_
      refine lv_bipush (v := 14) hx hb d7_leave_79 (by decide) ?_
      refine lv_iload_n hx hb d7_leave_81 rfl (lv_at hl 1 rfl) ?_
      refine lv_iadd hx hb d7_leave_82 ?_
      obtain ⟨hi5, h0⟩ := og_if h0
      refine q_ld (k := ((14 + x2).toNatClampNeg)) S hK hR (by decide) (eM_116 w _) hi5 rfl d7_leave_83 ?_
      obtain ⟨hi6, h0⟩ := og_if h0
      obtain ⟨σ7, hm7, h0⟩ := og_m h0
      refine q_st S hK hR hS (by decide) (eM_116 w) hi6 rfl hm7 d7_leave_84 (fun H locs hR hS => ?_)
      refine lv_iinc (v := x2 + 1) (lv' := [(2, .int (x2 + 1)), (0, .ref (w.2.2 0))]) hx hb d7_leave_85 hl (k := 1) rfl (ii1 _) (by decide) rfl (fun ls hl => ?_)
      refine lv_goto (tgt := 38) hx hb d7_leave_88 (by decide) ?_
      exact ih σ7 (x2 + 1) h0 _ _ hR hS _ (lv_sub hl [1, 0] rfl)
def f7_leave (σ : Mem) (x1 : Int32) : Option (Mem × Int32) := Option.bind (f7_in x1.toInt64 (0 : Int64) (((σ 17 6) - 1).toInt64)) fun r1 => if r1 = 0 then some (σ, (-1)) else Option.bind (f7_note σ) fun σ3 => bm (mu σ3 17 6 ((σ3 17 6) - 1)) fun σ4 => f7_leave_b38 1000 σ4 x1
set_option maxHeartbeats 4000000 in
set_option maxRecDepth 100000 in
theorem c7_leave (l : Launch) {w : WV} {σ : Mem} {x1 : Int32} {σ' : Mem} {r : Int32} (h0 : f7_leave σ x1 = some (σ', r)) : Met l yX7_leave (wy yX7_leave cX7_leave 3 (some .int)) rm7_leave (Pw EM LM w [.ref (w.2.2 0), .int x1] σ) (Qw EM LM w σ' (some (.int r))) 0 0 (AW LM w) := by
  refine mk_met (by decide) (Nat.le_of_ble_eq_true rfl) ?_
  intro p e s m below meth c S hr hlk hK hR ls hl
  obtain ⟨hx, hb, hml, hown, hts⟩ := id S
  have hl : lv_has ls 3 [(0, .ref (w.2.2 0)), (1, .int x1)] := hl
  have hS : va_S (AW LM w) s.heap s.heap [] := va_S.rf
  unfold f7_leave at h0
  refine lv_iload_n hx hb d7_leave_0 rfl (lv_at hl 1 rfl) ?_
  refine lv_i2l hx hb d7_leave_1 rfl ?_
  refine lv_lconst (v := 0) hx hb d7_leave_2 (by decide) ?_
  refine lv_aload_n hx hb d7_leave_3 rfl (lv_at hl 0 rfl) ?_
  refine g7_55 S hK hR d7_leave_4 ?_
  refine lv_bipush (v := 6) hx hb d7_leave_7 (by decide) ?_
  refine q_ld (k := 6) S hK hR (by decide) (eM_116 w _) (vin (by decide)) (by decide) d7_leave_9 ?_
  refine lv_iconst (v := 1) hx hb d7_leave_10 (by decide) ?_
  refine lv_isub hx hb d7_leave_11 ?_
  refine lv_i2l hx hb d7_leave_12 rfl ?_
  obtain ⟨r1, hr1, h0⟩ := og_b h0
  refine k7_113 S  hr1 ⟨Nat.zero_le _, Nat.zero_le _⟩ ⟨Nat.le_of_ble_eq_true rfl, Nat.le_of_ble_eq_true rfl⟩ hl.1 (Nat.le_of_ble_eq_true rfl) d7_leave_13 ?_
  refine lv_if_ne (tgt := 21) hx hb d7_leave_16 (by decide) (fun hc2 => ?_) (fun hc2 => ?_)
  · have h0 := og_f hc2 h0
    refine lv_aload_n hx hb d7_leave_21 rfl (lv_at hl 0 rfl) ?_
    obtain ⟨σ3, hr3, h0⟩ := og_b h0
    refine k7_263 S hK hR hS  hr3 ⟨Nat.zero_le _, Nat.zero_le _⟩ ⟨Nat.le_of_ble_eq_true rfl, Nat.le_of_ble_eq_true rfl⟩ hl.1 (Nat.le_of_ble_eq_true rfl) d7_leave_22 (fun H locs hR hS => ?_)
    refine lv_aload_n hx hb d7_leave_25 rfl (lv_at hl 0 rfl) ?_
    refine g7_55 S hK hR d7_leave_26 ?_
    refine lv_bipush (v := 6) hx hb d7_leave_29 (by decide) ?_
    refine lv_dup2_11 hx hb d7_leave_31 rfl rfl ?_
    refine q_ld (k := 6) S hK hR (by decide) (eM_116 w _) (vin (by decide)) (by decide) d7_leave_32 ?_
    refine lv_iconst (v := 1) hx hb d7_leave_33 (by decide) ?_
    refine lv_isub hx hb d7_leave_34 ?_
    obtain ⟨σ4, hm4, h0⟩ := og_m h0
    refine q_st S hK hR hS (by decide) (eM_116 w) (vin (by decide)) (by decide) hm4 d7_leave_35 (fun H locs hR hS => ?_)
    refine lv_iload_n hx hb d7_leave_36 rfl (lv_at hl 1 rfl) ?_
    refine lv_istore_n (lv' := [(2, .int x1), (0, .ref (w.2.2 0)), (1, .int x1)]) hx hb d7_leave_37 rfl hl (by decide) rfl (fun ls hl => ?_)
    exact t7_leave_b38 S hr hlk hK 1000 σ4 x1 h0 _ _ hR hS _ (lv_sub hl [1, 0] rfl)
  · have h0 := og_t hc2 h0
    refine lv_iconst (v := (-1)) hx hb d7_leave_19 (by decide) ?_
    exact q_iret S hr hlk hR hS h0 d7_leave_20
/-! FourTenGatesModel.undo()I -/
abbrev rm7_undo : Room := { frames := 0, cells := 0, slots := 0, locals := 0 }
theorem d7_undo_0 : decode cX7_undo 0 = .ok (.aload_n 0, 1) := by decide +kernel
theorem d7_undo_1 : decode cX7_undo 1 = .ok (.getfield 159, 3) := by decide +kernel
theorem d7_undo_4 : decode cX7_undo 4 = .ok (.ifCond .ne 6, 3) := by decide +kernel
theorem d7_undo_7 : decode cX7_undo 7 = .ok (.bipush (-2), 2) := by decide +kernel
theorem d7_undo_9 : decode cX7_undo 9 = .ok (.ireturn, 1) := by decide +kernel
theorem d7_undo_10 : decode cX7_undo 10 = .ok (.aload_n 0, 1) := by decide +kernel
theorem d7_undo_11 : decode cX7_undo 11 = .ok (.dup, 1) := by decide +kernel
theorem d7_undo_12 : decode cX7_undo 12 = .ok (.getfield 159, 3) := by decide +kernel
theorem d7_undo_15 : decode cX7_undo 15 = .ok (.iconst 1, 1) := by decide +kernel
theorem d7_undo_16 : decode cX7_undo 16 = .ok (.isub, 1) := by decide +kernel
theorem d7_undo_17 : decode cX7_undo 17 = .ok (.putfield 159, 3) := by decide +kernel
theorem d7_undo_20 : decode cX7_undo 20 = .ok (.iconst 0, 1) := by decide +kernel
theorem d7_undo_21 : decode cX7_undo 21 = .ok (.istore_n 1, 1) := by decide +kernel
theorem d7_undo_22 : decode cX7_undo 22 = .ok (.iload_n 1, 1) := by decide +kernel
theorem d7_undo_23 : decode cX7_undo 23 = .ok (.bipush 19, 2) := by decide +kernel
theorem d7_undo_25 : decode cX7_undo 25 = .ok (.if_icmp .ge 29, 3) := by decide +kernel
theorem d7_undo_28 : decode cX7_undo 28 = .ok (.aload_n 0, 1) := by decide +kernel
theorem d7_undo_29 : decode cX7_undo 29 = .ok (.getfield 55, 3) := by decide +kernel
theorem d7_undo_32 : decode cX7_undo 32 = .ok (.iload_n 1, 1) := by decide +kernel
theorem d7_undo_33 : decode cX7_undo 33 = .ok (.aload_n 0, 1) := by decide +kernel
theorem d7_undo_34 : decode cX7_undo 34 = .ok (.getfield 58, 3) := by decide +kernel
theorem d7_undo_37 : decode cX7_undo 37 = .ok (.bipush 19, 2) := by decide +kernel
theorem d7_undo_39 : decode cX7_undo 39 = .ok (.aload_n 0, 1) := by decide +kernel
theorem d7_undo_40 : decode cX7_undo 40 = .ok (.getfield 159, 3) := by decide +kernel
theorem d7_undo_43 : decode cX7_undo 43 = .ok (.imul, 1) := by decide +kernel
theorem d7_undo_44 : decode cX7_undo 44 = .ok (.iload_n 1, 1) := by decide +kernel
theorem d7_undo_45 : decode cX7_undo 45 = .ok (.iadd, 1) := by decide +kernel
theorem d7_undo_46 : decode cX7_undo 46 = .ok (.iaload, 1) := by decide +kernel
theorem d7_undo_47 : decode cX7_undo 47 = .ok (.iastore, 1) := by decide +kernel
theorem d7_undo_48 : decode cX7_undo 48 = .ok (.iinc 1 1, 3) := by decide +kernel
theorem d7_undo_51 : decode cX7_undo 51 = .ok (.goto (-29), 3) := by decide +kernel
theorem d7_undo_54 : decode cX7_undo 54 = .ok (.aload_n 0, 1) := by decide +kernel
theorem d7_undo_55 : decode cX7_undo 55 = .ok (.getfield 159, 3) := by decide +kernel
theorem d7_undo_58 : decode cX7_undo 58 = .ok (.ireturn, 1) := by decide +kernel
def f7_undo_b22 : Nat → Mem → Int32 → Option (Mem × Int32)
  | 0, _, _ => none
  | n + 1, σ, x1 => if 19 ≤ x1 then some (σ, σ 0 18) else if ¬ ((19 * (σ 0 18)) + x1 < 0 ∨ 152 ≤ ((19 * (σ 0 18)) + x1).toNatClampNeg) then if ¬ (x1 < 0 ∨ 19 ≤ x1.toNatClampNeg) then (bm (mu σ 17 x1.toNatClampNeg (σ 18 (((19 * (σ 0 18)) + x1).toNatClampNeg))) fun σ4 => f7_undo_b22 n σ4 (x1 + 1)) else none else none
set_option maxHeartbeats 4000000 in
set_option maxRecDepth 100000 in
theorem t7_undo_b22 {p : Program} {l : Launch} {e : Env} {s : State} {m : MethodId} {args : Array Value} {below : List Frame} {meth : Method} {c : Code} {w : WV} {σ' : Mem} {r : Int32} (S : CallFix p m c cX7_undo 2 s args gtbl RX7) (hr : meth.sig.returnType = (some .int)) (hlk : meth.locks = false) (hK : KS LM w s) : ∀ (n : Nat), ∀ (σ : Mem) (x1 : Int32), f7_undo_b22  n σ x1 = some (σ', r) → ∀ (H : Heap) (locs : List Loc), Rp EM LM w σ H → va_S (AW LM w) s.heap H locs → ∀ (ls : Array Slot), lv_has ls 2 [(0, .ref (w.2.2 0)), (1, .int x1)] → W p l e rm7_undo s m args below meth c H locs 0 0 (MQ below (Qw EM LM w σ' (some (.int r))) args s 0 0 (AW LM w)) (F0 m 22 ls []) := by
  obtain ⟨hx, hb, hml, hown, hts⟩ := id S
  intro n
  induction n with
  | zero =>
    intro σ x1 h0
    cases (show none = _ from h0)
  | succ n ih =>
    intro σ x1 h0 H locs hR hS ls hl
    rw [f7_undo_b22] at h0
    refine lv_iload_n hx hb d7_undo_22 rfl (lv_at hl 1 rfl) ?_
    refine lv_bipush (v := 19) hx hb d7_undo_23 (by decide) ?_
    refine lv_icmp_ge (tgt := 54) hx hb d7_undo_25 (by decide) (fun hc1 => ?_) (fun hc1 => ?_)
    · have h0 := og_t hc1 h0
      refine lv_aload_n hx hb d7_undo_54 rfl (lv_at hl 0 rfl) ?_
      refine g7_159 S hK hR d7_undo_55 ?_
      exact q_iret S hr hlk hR hS h0 d7_undo_58
    · have h0 := og_f hc1 h0
      refine lv_aload_n hx hb d7_undo_28 rfl (lv_at hl 0 rfl) ?_
      refine g7_55 S hK hR d7_undo_29 ?_
      refine lv_iload_n hx hb d7_undo_32 rfl (lv_at hl 1 rfl) ?_
      refine lv_aload_n hx hb d7_undo_33 rfl (lv_at hl 0 rfl) ?_
      refine g7_58 S hK hR d7_undo_34 ?_
      refine lv_bipush (v := 19) hx hb d7_undo_37 (by decide) ?_
      refine lv_aload_n hx hb d7_undo_39 rfl (lv_at hl 0 rfl) ?_
      refine g7_159 S hK hR d7_undo_40 ?_
      refine lv_imul hx hb d7_undo_43 ?_
      refine lv_iload_n hx hb d7_undo_44 rfl (lv_at hl 1 rfl) ?_
      refine lv_iadd hx hb d7_undo_45 ?_
      obtain ⟨hi2, h0⟩ := og_if h0
      refine q_ld (k := (((19 * (σ 0 18)) + x1).toNatClampNeg)) S hK hR (by decide) (eM_117 w _) hi2 rfl d7_undo_46 ?_
      obtain ⟨hi3, h0⟩ := og_if h0
      obtain ⟨σ4, hm4, h0⟩ := og_m h0
      refine q_st S hK hR hS (by decide) (eM_116 w) hi3 rfl hm4 d7_undo_47 (fun H locs hR hS => ?_)
      refine lv_iinc (v := x1 + 1) (lv' := [(1, .int (x1 + 1)), (0, .ref (w.2.2 0))]) hx hb d7_undo_48 hl (k := 1) rfl (ii1 _) (by decide) rfl (fun ls hl => ?_)
      refine lv_goto (tgt := 22) hx hb d7_undo_51 (by decide) ?_
      exact ih σ4 (x1 + 1) h0 _ _ hR hS _ (lv_sub hl [1, 0] rfl)
def f7_undo (σ : Mem) : Option (Mem × Int32) := if (σ 0 18) = 0 then some (σ, (-2)) else bm (mu σ 0 18 ((σ 0 18) - 1)) fun σ2 => f7_undo_b22 1000 σ2 0
set_option maxHeartbeats 4000000 in
set_option maxRecDepth 100000 in
theorem c7_undo (l : Launch) {w : WV} {σ : Mem} {σ' : Mem} {r : Int32} (h0 : f7_undo σ = some (σ', r)) : Met l yX7_undo (wy yX7_undo cX7_undo 2 (some .int)) rm7_undo (Pw EM LM w [.ref (w.2.2 0)] σ) (Qw EM LM w σ' (some (.int r))) 0 0 (AW LM w) := by
  refine mk_met (by decide) (Nat.le_of_ble_eq_true rfl) ?_
  intro p e s m below meth c S hr hlk hK hR ls hl
  obtain ⟨hx, hb, hml, hown, hts⟩ := id S
  have hl : lv_has ls 2 [(0, .ref (w.2.2 0))] := hl
  have hS : va_S (AW LM w) s.heap s.heap [] := va_S.rf
  unfold f7_undo at h0
  refine lv_aload_n hx hb d7_undo_0 rfl (lv_at hl 0 rfl) ?_
  refine g7_159 S hK hR d7_undo_1 ?_
  refine lv_if_ne (tgt := 10) hx hb d7_undo_4 (by decide) (fun hc1 => ?_) (fun hc1 => ?_)
  · have h0 := og_f hc1 h0
    refine lv_aload_n hx hb d7_undo_10 rfl (lv_at hl 0 rfl) ?_
    refine lv_dup hx hb d7_undo_11 rfl ?_
    refine g7_159 S hK hR d7_undo_12 ?_
    refine lv_iconst (v := 1) hx hb d7_undo_15 (by decide) ?_
    refine lv_isub hx hb d7_undo_16 ?_
    obtain ⟨σ2, hm2, h0⟩ := og_m h0
    refine u7_159 S hK hR hS hm2 d7_undo_17 (fun H locs hR hS => ?_)
    refine lv_iconst (v := 0) hx hb d7_undo_20 (by decide) ?_
    refine lv_istore_n (lv' := [(1, .int 0), (0, .ref (w.2.2 0))]) hx hb d7_undo_21 rfl hl (by decide) rfl (fun ls hl => ?_)
    exact t7_undo_b22 S hr hlk hK 1000 σ2 0 h0 _ _ hR hS _ (lv_sub hl [1, 0] rfl)
  · have h0 := og_t hc1 h0
    refine lv_bipush (v := (-2)) hx hb d7_undo_7 (by decide) ?_
    exact q_iret S hr hlk hR hS h0 d7_undo_9
/-! FourTenGatesModel.cheapest(I)I -/
abbrev rm7_cheapest : Room := { frames := 7, cells := 0, slots := 0, locals := 161 }
theorem d7_cheapest_0 : decode cX7_cheapest 0 = .ok (.iload_n 1, 1) := by decide +kernel
theorem d7_cheapest_1 : decode cX7_cheapest 1 = .ok (.i2l, 1) := by decide +kernel
theorem d7_cheapest_2 : decode cX7_cheapest 2 = .ok (.lconst 0, 1) := by decide +kernel
theorem d7_cheapest_3 : decode cX7_cheapest 3 = .ok (.lconst 1, 1) := by decide +kernel
theorem d7_cheapest_4 : decode cX7_cheapest 4 = .ok (.invokestatic 113, 3) := by decide +kernel
theorem d7_cheapest_7 : decode cX7_cheapest 7 = .ok (.ifCond .ne 5, 3) := by decide +kernel
theorem d7_cheapest_10 : decode cX7_cheapest 10 = .ok (.iconst (-1), 1) := by decide +kernel
theorem d7_cheapest_11 : decode cX7_cheapest 11 = .ok (.ireturn, 1) := by decide +kernel
theorem d7_cheapest_12 : decode cX7_cheapest 12 = .ok (.iconst 0, 1) := by decide +kernel
theorem d7_cheapest_13 : decode cX7_cheapest 13 = .ok (.istore_n 2, 1) := by decide +kernel
theorem d7_cheapest_14 : decode cX7_cheapest 14 = .ok (.aload_n 0, 1) := by decide +kernel
theorem d7_cheapest_15 : decode cX7_cheapest 15 = .ok (.iconst 0, 1) := by decide +kernel
theorem d7_cheapest_16 : decode cX7_cheapest 16 = .ok (.iconst 0, 1) := by decide +kernel
theorem d7_cheapest_17 : decode cX7_cheapest 17 = .ok (.invokevirtual 257, 3) := by decide +kernel
theorem d7_cheapest_20 : decode cX7_cheapest 20 = .ok (.istore_n 3, 1) := by decide +kernel
theorem d7_cheapest_21 : decode cX7_cheapest 21 = .ok (.iconst 1, 1) := by decide +kernel
theorem d7_cheapest_22 : decode cX7_cheapest 22 = .ok (.istore 4, 2) := by decide +kernel
theorem d7_cheapest_24 : decode cX7_cheapest 24 = .ok (.iload 4, 2) := by decide +kernel
theorem d7_cheapest_26 : decode cX7_cheapest 26 = .ok (.iconst 4, 1) := by decide +kernel
theorem d7_cheapest_27 : decode cX7_cheapest 27 = .ok (.if_icmp .ge 44, 3) := by decide +kernel
theorem d7_cheapest_30 : decode cX7_cheapest 30 = .ok (.aload_n 0, 1) := by decide +kernel
theorem d7_cheapest_31 : decode cX7_cheapest 31 = .ok (.iload 4, 2) := by decide +kernel
theorem d7_cheapest_33 : decode cX7_cheapest 33 = .ok (.iconst 0, 1) := by decide +kernel
theorem d7_cheapest_34 : decode cX7_cheapest 34 = .ok (.invokevirtual 257, 3) := by decide +kernel
theorem d7_cheapest_37 : decode cX7_cheapest 37 = .ok (.istore 5, 2) := by decide +kernel
theorem d7_cheapest_39 : decode cX7_cheapest 39 = .ok (.iload 5, 2) := by decide +kernel
theorem d7_cheapest_41 : decode cX7_cheapest 41 = .ok (.iload_n 3, 1) := by decide +kernel
theorem d7_cheapest_42 : decode cX7_cheapest 42 = .ok (.if_icmp .ge 8, 3) := by decide +kernel
theorem d7_cheapest_45 : decode cX7_cheapest 45 = .ok (.iload 4, 2) := by decide +kernel
theorem d7_cheapest_47 : decode cX7_cheapest 47 = .ok (.goto 4, 3) := by decide +kernel
theorem d7_cheapest_50 : decode cX7_cheapest 50 = .ok (.iload_n 2, 1) := by decide +kernel
theorem d7_cheapest_51 : decode cX7_cheapest 51 = .ok (.istore_n 2, 1) := by decide +kernel
theorem d7_cheapest_52 : decode cX7_cheapest 52 = .ok (.iload 5, 2) := by decide +kernel
theorem d7_cheapest_54 : decode cX7_cheapest 54 = .ok (.iload_n 3, 1) := by decide +kernel
theorem d7_cheapest_55 : decode cX7_cheapest 55 = .ok (.if_icmp .ge 8, 3) := by decide +kernel
theorem d7_cheapest_58 : decode cX7_cheapest 58 = .ok (.iload 5, 2) := by decide +kernel
theorem d7_cheapest_60 : decode cX7_cheapest 60 = .ok (.goto 4, 3) := by decide +kernel
theorem d7_cheapest_63 : decode cX7_cheapest 63 = .ok (.iload_n 3, 1) := by decide +kernel
theorem d7_cheapest_64 : decode cX7_cheapest 64 = .ok (.istore_n 3, 1) := by decide +kernel
theorem d7_cheapest_65 : decode cX7_cheapest 65 = .ok (.iinc 4 1, 3) := by decide +kernel
theorem d7_cheapest_68 : decode cX7_cheapest 68 = .ok (.goto (-44), 3) := by decide +kernel
theorem d7_cheapest_71 : decode cX7_cheapest 71 = .ok (.iload_n 1, 1) := by decide +kernel
theorem d7_cheapest_72 : decode cX7_cheapest 72 = .ok (.ifCond .ne 7, 3) := by decide +kernel
theorem d7_cheapest_75 : decode cX7_cheapest 75 = .ok (.iload_n 2, 1) := by decide +kernel
theorem d7_cheapest_76 : decode cX7_cheapest 76 = .ok (.goto 4, 3) := by decide +kernel
theorem d7_cheapest_79 : decode cX7_cheapest 79 = .ok (.iload_n 3, 1) := by decide +kernel
theorem d7_cheapest_80 : decode cX7_cheapest 80 = .ok (.ireturn, 1) := by decide +kernel
def f7_cheapest_b51 (k24 : Mem → Int32 → Int32 → Int32 → Int32 → Option (Mem × Int32)) (σ : Mem) (x1 : Int32) (x3 : Int32) (x4 : Int32) (x5 : Int32) (s0 : Int32) : Option (Mem × Int32) := if x3 ≤ x5 then k24 σ x1 s0 x3 (x4 + 1) else k24 σ x1 s0 x5 (x4 + 1)
set_option maxHeartbeats 4000000 in
set_option maxRecDepth 100000 in
theorem t7_cheapest_b51 {p : Program} {l : Launch} {e : Env} {s : State} {m : MethodId} {args : Array Value} {below : List Frame} {meth : Method} {c : Code} {w : WV} {σ' : Mem} {r : Int32} {k24 : Mem → Int32 → Int32 → Int32 → Int32 → Option (Mem × Int32)} (S : CallFix p m c cX7_cheapest 6 s args gtbl RX7) (hr : meth.sig.returnType = (some .int)) (hlk : meth.locks = false) (hK : KS LM w s) (hk24 : ∀ (σ : Mem) (x1 : Int32) (x2 : Int32) (x3 : Int32) (x4 : Int32), k24 σ x1 x2 x3 x4 = some (σ', r) → ∀ (H : Heap) (locs : List Loc), Rp EM LM w σ H → va_S (AW LM w) s.heap H locs → ∀ (ls : Array Slot), lv_has ls 6 [(0, .ref (w.2.2 0)), (1, .int x1), (2, .int x2), (3, .int x3), (4, .int x4)] → W p l e rm7_cheapest s m args below meth c H locs 0 0 (MQ below (Qw EM LM w σ' (some (.int r))) args s 0 0 (AW LM w)) (F0 m 24 ls [])) : ∀ (σ : Mem) (x1 : Int32) (x3 : Int32) (x4 : Int32) (x5 : Int32) (s0 : Int32), f7_cheapest_b51 k24 σ x1 x3 x4 x5 s0 = some (σ', r) → ∀ (H : Heap) (locs : List Loc), Rp EM LM w σ H → va_S (AW LM w) s.heap H locs → ∀ (ls : Array Slot), lv_has ls 6 [(0, .ref (w.2.2 0)), (1, .int x1), (3, .int x3), (4, .int x4), (5, .int x5)] → W p l e rm7_cheapest s m args below meth c H locs 0 0 (MQ below (Qw EM LM w σ' (some (.int r))) args s 0 0 (AW LM w)) (F0 m 51 ls [.int s0]) := by
  obtain ⟨hx, hb, hml, hown, hts⟩ := id S
  intro σ x1 x3 x4 x5 s0 h0 H locs hR hS ls hl
  unfold f7_cheapest_b51 at h0
  refine lv_istore_n (lv' := [(2, .int s0), (0, .ref (w.2.2 0)), (1, .int x1), (3, .int x3), (4, .int x4), (5, .int x5)]) hx hb d7_cheapest_51 rfl hl (by decide) rfl (fun ls hl => ?_)
  refine lv_iload hx hb d7_cheapest_52 (lv_at hl 5 rfl) ?_
  refine lv_iload_n hx hb d7_cheapest_54 rfl (lv_at hl 3 rfl) ?_
  refine lv_icmp_ge (tgt := 63) hx hb d7_cheapest_55 (by decide) (fun hc1 => ?_) (fun hc1 => ?_)
  · have h0 := og_t hc1 h0
    refine lv_iload_n hx hb d7_cheapest_63 rfl (lv_at hl 3 rfl) ?_
    refine lv_istore_n (lv' := [(3, .int x3), (2, .int s0), (0, .ref (w.2.2 0)), (1, .int x1), (4, .int x4), (5, .int x5)]) hx hb d7_cheapest_64 rfl hl (by decide) rfl (fun ls hl => ?_)
    refine lv_iinc (v := x4 + 1) (lv' := [(4, .int (x4 + 1)), (3, .int x3), (2, .int s0), (0, .ref (w.2.2 0)), (1, .int x1), (5, .int x5)]) hx hb d7_cheapest_65 hl (k := 4) rfl (ii1 _) (by decide) rfl (fun ls hl => ?_)
    refine lv_goto (tgt := 24) hx hb d7_cheapest_68 (by decide) ?_
    exact hk24 σ x1 s0 x3 (x4 + 1) h0 _ _ hR hS _ (lv_sub hl [3, 4, 2, 1, 0] rfl)
  · have h0 := og_f hc1 h0
    refine lv_iload hx hb d7_cheapest_58 (lv_at hl 5 rfl) ?_
    refine lv_goto (tgt := 64) hx hb d7_cheapest_60 (by decide) ?_
    refine lv_istore_n (lv' := [(3, .int x5), (2, .int s0), (0, .ref (w.2.2 0)), (1, .int x1), (4, .int x4), (5, .int x5)]) hx hb d7_cheapest_64 rfl hl (by decide) rfl (fun ls hl => ?_)
    refine lv_iinc (v := x4 + 1) (lv' := [(4, .int (x4 + 1)), (3, .int x5), (2, .int s0), (0, .ref (w.2.2 0)), (1, .int x1), (5, .int x5)]) hx hb d7_cheapest_65 hl (k := 4) rfl (ii1 _) (by decide) rfl (fun ls hl => ?_)
    refine lv_goto (tgt := 24) hx hb d7_cheapest_68 (by decide) ?_
    exact hk24 σ x1 s0 x5 (x4 + 1) h0 _ _ hR hS _ (lv_sub hl [3, 4, 2, 1, 0] rfl)
def f7_cheapest_b24 : Nat → Mem → Int32 → Int32 → Int32 → Int32 → Option (Mem × Int32)
  | 0, _, _, _, _, _ => none
  | n + 1, σ, x1, x2, x3, x4 => if 4 ≤ x4 then if x1 = 0 then some (σ, x2) else some (σ, x3) else ob (f7_costBy σ x4 0) fun σ2 r2 => if x3 ≤ r2 then f7_cheapest_b51 (f7_cheapest_b24 n) σ2 x1 x3 x4 r2 x2 else f7_cheapest_b51 (f7_cheapest_b24 n) σ2 x1 x3 x4 r2 x4
set_option maxHeartbeats 4000000 in
set_option maxRecDepth 100000 in
theorem t7_cheapest_b24 {p : Program} {l : Launch} {e : Env} {s : State} {m : MethodId} {args : Array Value} {below : List Frame} {meth : Method} {c : Code} {w : WV} {σ' : Mem} {r : Int32} (S : CallFix p m c cX7_cheapest 6 s args gtbl RX7) (hr : meth.sig.returnType = (some .int)) (hlk : meth.locks = false) (hK : KS LM w s) : ∀ (n : Nat), ∀ (σ : Mem) (x1 : Int32) (x2 : Int32) (x3 : Int32) (x4 : Int32), f7_cheapest_b24  n σ x1 x2 x3 x4 = some (σ', r) → ∀ (H : Heap) (locs : List Loc), Rp EM LM w σ H → va_S (AW LM w) s.heap H locs → ∀ (ls : Array Slot), lv_has ls 6 [(0, .ref (w.2.2 0)), (1, .int x1), (2, .int x2), (3, .int x3), (4, .int x4)] → W p l e rm7_cheapest s m args below meth c H locs 0 0 (MQ below (Qw EM LM w σ' (some (.int r))) args s 0 0 (AW LM w)) (F0 m 24 ls []) := by
  obtain ⟨hx, hb, hml, hown, hts⟩ := id S
  intro n
  induction n with
  | zero =>
    intro σ x1 x2 x3 x4 h0
    cases (show none = _ from h0)
  | succ n ih =>
    intro σ x1 x2 x3 x4 h0 H locs hR hS ls hl
    rw [f7_cheapest_b24] at h0
    refine lv_iload hx hb d7_cheapest_24 (lv_at hl 4 rfl) ?_
    refine lv_iconst (v := 4) hx hb d7_cheapest_26 (by decide) ?_
    refine lv_icmp_ge (tgt := 71) hx hb d7_cheapest_27 (by decide) (fun hc1 => ?_) (fun hc1 => ?_)
    · have h0 := og_t hc1 h0
      refine lv_iload_n hx hb d7_cheapest_71 rfl (lv_at hl 1 rfl) ?_
      refine lv_if_ne (tgt := 79) hx hb d7_cheapest_72 (by decide) (fun hc2 => ?_) (fun hc2 => ?_)
      · have h0 := og_f hc2 h0
        refine lv_iload_n hx hb d7_cheapest_79 rfl (lv_at hl 3 rfl) ?_
        exact q_iret S hr hlk hR hS h0 d7_cheapest_80
      · have h0 := og_t hc2 h0
        refine lv_iload_n hx hb d7_cheapest_75 rfl (lv_at hl 2 rfl) ?_
        refine lv_goto (tgt := 80) hx hb d7_cheapest_76 (by decide) ?_
        exact q_iret S hr hlk hR hS h0 d7_cheapest_80
    · have h0 := og_f hc1 h0
      refine lv_aload_n hx hb d7_cheapest_30 rfl (lv_at hl 0 rfl) ?_
      refine lv_iload hx hb d7_cheapest_31 (lv_at hl 4 rfl) ?_
      refine lv_iconst (v := 0) hx hb d7_cheapest_33 (by decide) ?_
      obtain ⟨σ2, r2, hr2, h0⟩ := og_o h0
      refine k7_257 S hK hR hS  hr2 ⟨Nat.zero_le _, Nat.zero_le _⟩ ⟨Nat.le_of_ble_eq_true rfl, Nat.le_of_ble_eq_true rfl⟩ hl.1 (Nat.le_of_ble_eq_true rfl) d7_cheapest_34 (fun H locs hR hS => ?_)
      refine lv_istore (lv' := [(5, .int r2), (0, .ref (w.2.2 0)), (1, .int x1), (2, .int x2), (3, .int x3), (4, .int x4)]) hx hb d7_cheapest_37 hl (by decide) rfl (fun ls hl => ?_)
      refine lv_iload hx hb d7_cheapest_39 (lv_at hl 0 rfl) ?_
      refine lv_iload_n hx hb d7_cheapest_41 rfl (lv_at hl 4 rfl) ?_
      refine lv_icmp_ge (tgt := 50) hx hb d7_cheapest_42 (by decide) (fun hc3 => ?_) (fun hc3 => ?_)
      · have h0 := og_t hc3 h0
        refine lv_iload_n hx hb d7_cheapest_50 rfl (lv_at hl 3 rfl) ?_
        exact t7_cheapest_b51 S hr hlk hK ih σ2 x1 x3 x4 r2 x2 h0 _ _ hR hS _ (lv_sub hl [1, 2, 4, 5, 0] rfl)
      · have h0 := og_f hc3 h0
        refine lv_iload hx hb d7_cheapest_45 (lv_at hl 5 rfl) ?_
        refine lv_goto (tgt := 51) hx hb d7_cheapest_47 (by decide) ?_
        exact t7_cheapest_b51 S hr hlk hK ih σ2 x1 x3 x4 r2 x4 h0 _ _ hR hS _ (lv_sub hl [1, 2, 4, 5, 0] rfl)
def f7_cheapest (σ : Mem) (x1 : Int32) : Option (Mem × Int32) := Option.bind (f7_in x1.toInt64 (0 : Int64) (1 : Int64)) fun r1 => if r1 = 0 then some (σ, (-1)) else ob (f7_costBy σ 0 0) fun σ3 r3 => f7_cheapest_b24 1000 σ3 x1 0 r3 1
set_option maxHeartbeats 4000000 in
set_option maxRecDepth 100000 in
theorem c7_cheapest (l : Launch) {w : WV} {σ : Mem} {x1 : Int32} {σ' : Mem} {r : Int32} (h0 : f7_cheapest σ x1 = some (σ', r)) : Met l yX7_cheapest (wy yX7_cheapest cX7_cheapest 6 (some .int)) rm7_cheapest (Pw EM LM w [.ref (w.2.2 0), .int x1] σ) (Qw EM LM w σ' (some (.int r))) 0 0 (AW LM w) := by
  refine mk_met (by decide) (Nat.le_of_ble_eq_true rfl) ?_
  intro p e s m below meth c S hr hlk hK hR ls hl
  obtain ⟨hx, hb, hml, hown, hts⟩ := id S
  have hl : lv_has ls 6 [(0, .ref (w.2.2 0)), (1, .int x1)] := hl
  have hS : va_S (AW LM w) s.heap s.heap [] := va_S.rf
  unfold f7_cheapest at h0
  refine lv_iload_n hx hb d7_cheapest_0 rfl (lv_at hl 1 rfl) ?_
  refine lv_i2l hx hb d7_cheapest_1 rfl ?_
  refine lv_lconst (v := 0) hx hb d7_cheapest_2 (by decide) ?_
  refine lv_lconst (v := 1) hx hb d7_cheapest_3 (by decide) ?_
  obtain ⟨r1, hr1, h0⟩ := og_b h0
  refine k7_113 S  hr1 ⟨Nat.zero_le _, Nat.zero_le _⟩ ⟨Nat.le_of_ble_eq_true rfl, Nat.le_of_ble_eq_true rfl⟩ hl.1 (Nat.le_of_ble_eq_true rfl) d7_cheapest_4 ?_
  refine lv_if_ne (tgt := 12) hx hb d7_cheapest_7 (by decide) (fun hc2 => ?_) (fun hc2 => ?_)
  · have h0 := og_f hc2 h0
    refine lv_iconst (v := 0) hx hb d7_cheapest_12 (by decide) ?_
    refine lv_istore_n (lv' := [(2, .int 0), (0, .ref (w.2.2 0)), (1, .int x1)]) hx hb d7_cheapest_13 rfl hl (by decide) rfl (fun ls hl => ?_)
    refine lv_aload_n hx hb d7_cheapest_14 rfl (lv_at hl 1 rfl) ?_
    refine lv_iconst (v := 0) hx hb d7_cheapest_15 (by decide) ?_
    refine lv_iconst (v := 0) hx hb d7_cheapest_16 (by decide) ?_
    obtain ⟨σ3, r3, hr3, h0⟩ := og_o h0
    refine k7_257 S hK hR hS  hr3 ⟨Nat.zero_le _, Nat.zero_le _⟩ ⟨Nat.le_of_ble_eq_true rfl, Nat.le_of_ble_eq_true rfl⟩ hl.1 (Nat.le_of_ble_eq_true rfl) d7_cheapest_17 (fun H locs hR hS => ?_)
    refine lv_istore_n (lv' := [(3, .int r3), (2, .int 0), (0, .ref (w.2.2 0)), (1, .int x1)]) hx hb d7_cheapest_20 rfl hl (by decide) rfl (fun ls hl => ?_)
    refine lv_iconst (v := 1) hx hb d7_cheapest_21 (by decide) ?_
    refine lv_istore (lv' := [(4, .int 1), (3, .int r3), (2, .int 0), (0, .ref (w.2.2 0)), (1, .int x1)]) hx hb d7_cheapest_22 hl (by decide) rfl (fun ls hl => ?_)
    exact t7_cheapest_b24 S hr hlk hK 1000 σ3 x1 0 r3 1 h0 _ _ hR hS _ (lv_sub hl [3, 4, 2, 1, 0] rfl)
  · have h0 := og_t hc2 h0
    refine lv_iconst (v := (-1)) hx hb d7_cheapest_10 (by decide) ?_
    exact q_iret S hr hlk hR hS h0 d7_cheapest_11
end
section
/-! FourTenGatesModel.lead(I)I -/
abbrev rm7_lead : Room := { frames := 7, cells := 0, slots := 0, locals := 161 }
theorem d7_lead_0 : decode cX7_lead 0 = .ok (.iload_n 1, 1) := by decide +kernel
theorem d7_lead_1 : decode cX7_lead 1 = .ok (.i2l, 1) := by decide +kernel
theorem d7_lead_2 : decode cX7_lead 2 = .ok (.lconst 0, 1) := by decide +kernel
theorem d7_lead_3 : decode cX7_lead 3 = .ok (.lconst 1, 1) := by decide +kernel
theorem d7_lead_4 : decode cX7_lead 4 = .ok (.invokestatic 113, 3) := by decide +kernel
theorem d7_lead_7 : decode cX7_lead 7 = .ok (.ifCond .ne 5, 3) := by decide +kernel
theorem d7_lead_10 : decode cX7_lead 10 = .ok (.iconst (-1), 1) := by decide +kernel
theorem d7_lead_11 : decode cX7_lead 11 = .ok (.ireturn, 1) := by decide +kernel
theorem d7_lead_12 : decode cX7_lead 12 = .ok (.iconst 0, 1) := by decide +kernel
theorem d7_lead_13 : decode cX7_lead 13 = .ok (.istore_n 2, 1) := by decide +kernel
theorem d7_lead_14 : decode cX7_lead 14 = .ok (.aload_n 0, 1) := by decide +kernel
theorem d7_lead_15 : decode cX7_lead 15 = .ok (.iconst 4, 1) := by decide +kernel
theorem d7_lead_16 : decode cX7_lead 16 = .ok (.iconst 0, 1) := by decide +kernel
theorem d7_lead_17 : decode cX7_lead 17 = .ok (.invokevirtual 257, 3) := by decide +kernel
theorem d7_lead_20 : decode cX7_lead 20 = .ok (.istore_n 3, 1) := by decide +kernel
theorem d7_lead_21 : decode cX7_lead 21 = .ok (.iconst 1, 1) := by decide +kernel
theorem d7_lead_22 : decode cX7_lead 22 = .ok (.istore 4, 2) := by decide +kernel
theorem d7_lead_24 : decode cX7_lead 24 = .ok (.iload 4, 2) := by decide +kernel
theorem d7_lead_26 : decode cX7_lead 26 = .ok (.bipush 100, 2) := by decide +kernel
theorem d7_lead_28 : decode cX7_lead 28 = .ok (.if_icmp .ge 44, 3) := by decide +kernel
theorem d7_lead_31 : decode cX7_lead 31 = .ok (.aload_n 0, 1) := by decide +kernel
theorem d7_lead_32 : decode cX7_lead 32 = .ok (.iconst 4, 1) := by decide +kernel
theorem d7_lead_33 : decode cX7_lead 33 = .ok (.iload 4, 2) := by decide +kernel
theorem d7_lead_35 : decode cX7_lead 35 = .ok (.invokevirtual 257, 3) := by decide +kernel
theorem d7_lead_38 : decode cX7_lead 38 = .ok (.istore 5, 2) := by decide +kernel
theorem d7_lead_40 : decode cX7_lead 40 = .ok (.iload 5, 2) := by decide +kernel
theorem d7_lead_42 : decode cX7_lead 42 = .ok (.iload_n 3, 1) := by decide +kernel
theorem d7_lead_43 : decode cX7_lead 43 = .ok (.if_icmp .ge 8, 3) := by decide +kernel
theorem d7_lead_46 : decode cX7_lead 46 = .ok (.iload 4, 2) := by decide +kernel
theorem d7_lead_48 : decode cX7_lead 48 = .ok (.goto 4, 3) := by decide +kernel
theorem d7_lead_51 : decode cX7_lead 51 = .ok (.iload_n 2, 1) := by decide +kernel
theorem d7_lead_52 : decode cX7_lead 52 = .ok (.istore_n 2, 1) := by decide +kernel
theorem d7_lead_53 : decode cX7_lead 53 = .ok (.iload 5, 2) := by decide +kernel
theorem d7_lead_55 : decode cX7_lead 55 = .ok (.iload_n 3, 1) := by decide +kernel
theorem d7_lead_56 : decode cX7_lead 56 = .ok (.if_icmp .ge 8, 3) := by decide +kernel
theorem d7_lead_59 : decode cX7_lead 59 = .ok (.iload 5, 2) := by decide +kernel
theorem d7_lead_61 : decode cX7_lead 61 = .ok (.goto 4, 3) := by decide +kernel
theorem d7_lead_64 : decode cX7_lead 64 = .ok (.iload_n 3, 1) := by decide +kernel
theorem d7_lead_65 : decode cX7_lead 65 = .ok (.istore_n 3, 1) := by decide +kernel
theorem d7_lead_66 : decode cX7_lead 66 = .ok (.iinc 4 1, 3) := by decide +kernel
theorem d7_lead_69 : decode cX7_lead 69 = .ok (.goto (-45), 3) := by decide +kernel
theorem d7_lead_72 : decode cX7_lead 72 = .ok (.iload_n 1, 1) := by decide +kernel
theorem d7_lead_73 : decode cX7_lead 73 = .ok (.ifCond .ne 7, 3) := by decide +kernel
theorem d7_lead_76 : decode cX7_lead 76 = .ok (.iload_n 2, 1) := by decide +kernel
theorem d7_lead_77 : decode cX7_lead 77 = .ok (.goto 4, 3) := by decide +kernel
theorem d7_lead_80 : decode cX7_lead 80 = .ok (.iload_n 3, 1) := by decide +kernel
theorem d7_lead_81 : decode cX7_lead 81 = .ok (.ireturn, 1) := by decide +kernel
def f7_lead_b52 (k24 : Mem → Int32 → Int32 → Int32 → Int32 → Option (Mem × Int32)) (σ : Mem) (x1 : Int32) (x3 : Int32) (x4 : Int32) (x5 : Int32) (s0 : Int32) : Option (Mem × Int32) := if x3 ≤ x5 then k24 σ x1 s0 x3 (x4 + 1) else k24 σ x1 s0 x5 (x4 + 1)
set_option maxHeartbeats 4000000 in
set_option maxRecDepth 100000 in
theorem t7_lead_b52 {p : Program} {l : Launch} {e : Env} {s : State} {m : MethodId} {args : Array Value} {below : List Frame} {meth : Method} {c : Code} {w : WV} {σ' : Mem} {r : Int32} {k24 : Mem → Int32 → Int32 → Int32 → Int32 → Option (Mem × Int32)} (S : CallFix p m c cX7_lead 6 s args gtbl RX7) (hr : meth.sig.returnType = (some .int)) (hlk : meth.locks = false) (hK : KS LM w s) (hk24 : ∀ (σ : Mem) (x1 : Int32) (x2 : Int32) (x3 : Int32) (x4 : Int32), k24 σ x1 x2 x3 x4 = some (σ', r) → ∀ (H : Heap) (locs : List Loc), Rp EM LM w σ H → va_S (AW LM w) s.heap H locs → ∀ (ls : Array Slot), lv_has ls 6 [(0, .ref (w.2.2 0)), (1, .int x1), (2, .int x2), (3, .int x3), (4, .int x4)] → W p l e rm7_lead s m args below meth c H locs 0 0 (MQ below (Qw EM LM w σ' (some (.int r))) args s 0 0 (AW LM w)) (F0 m 24 ls [])) : ∀ (σ : Mem) (x1 : Int32) (x3 : Int32) (x4 : Int32) (x5 : Int32) (s0 : Int32), f7_lead_b52 k24 σ x1 x3 x4 x5 s0 = some (σ', r) → ∀ (H : Heap) (locs : List Loc), Rp EM LM w σ H → va_S (AW LM w) s.heap H locs → ∀ (ls : Array Slot), lv_has ls 6 [(0, .ref (w.2.2 0)), (1, .int x1), (3, .int x3), (4, .int x4), (5, .int x5)] → W p l e rm7_lead s m args below meth c H locs 0 0 (MQ below (Qw EM LM w σ' (some (.int r))) args s 0 0 (AW LM w)) (F0 m 52 ls [.int s0]) := by
  obtain ⟨hx, hb, hml, hown, hts⟩ := id S
  intro σ x1 x3 x4 x5 s0 h0 H locs hR hS ls hl
  unfold f7_lead_b52 at h0
  refine lv_istore_n (lv' := [(2, .int s0), (0, .ref (w.2.2 0)), (1, .int x1), (3, .int x3), (4, .int x4), (5, .int x5)]) hx hb d7_lead_52 rfl hl (by decide) rfl (fun ls hl => ?_)
  refine lv_iload hx hb d7_lead_53 (lv_at hl 5 rfl) ?_
  refine lv_iload_n hx hb d7_lead_55 rfl (lv_at hl 3 rfl) ?_
  refine lv_icmp_ge (tgt := 64) hx hb d7_lead_56 (by decide) (fun hc1 => ?_) (fun hc1 => ?_)
  · have h0 := og_t hc1 h0
    refine lv_iload_n hx hb d7_lead_64 rfl (lv_at hl 3 rfl) ?_
    refine lv_istore_n (lv' := [(3, .int x3), (2, .int s0), (0, .ref (w.2.2 0)), (1, .int x1), (4, .int x4), (5, .int x5)]) hx hb d7_lead_65 rfl hl (by decide) rfl (fun ls hl => ?_)
    refine lv_iinc (v := x4 + 1) (lv' := [(4, .int (x4 + 1)), (3, .int x3), (2, .int s0), (0, .ref (w.2.2 0)), (1, .int x1), (5, .int x5)]) hx hb d7_lead_66 hl (k := 4) rfl (ii1 _) (by decide) rfl (fun ls hl => ?_)
    refine lv_goto (tgt := 24) hx hb d7_lead_69 (by decide) ?_
    exact hk24 σ x1 s0 x3 (x4 + 1) h0 _ _ hR hS _ (lv_sub hl [3, 4, 2, 1, 0] rfl)
  · have h0 := og_f hc1 h0
    refine lv_iload hx hb d7_lead_59 (lv_at hl 5 rfl) ?_
    refine lv_goto (tgt := 65) hx hb d7_lead_61 (by decide) ?_
    refine lv_istore_n (lv' := [(3, .int x5), (2, .int s0), (0, .ref (w.2.2 0)), (1, .int x1), (4, .int x4), (5, .int x5)]) hx hb d7_lead_65 rfl hl (by decide) rfl (fun ls hl => ?_)
    refine lv_iinc (v := x4 + 1) (lv' := [(4, .int (x4 + 1)), (3, .int x5), (2, .int s0), (0, .ref (w.2.2 0)), (1, .int x1), (5, .int x5)]) hx hb d7_lead_66 hl (k := 4) rfl (ii1 _) (by decide) rfl (fun ls hl => ?_)
    refine lv_goto (tgt := 24) hx hb d7_lead_69 (by decide) ?_
    exact hk24 σ x1 s0 x5 (x4 + 1) h0 _ _ hR hS _ (lv_sub hl [3, 4, 2, 1, 0] rfl)
def f7_lead_b24 : Nat → Mem → Int32 → Int32 → Int32 → Int32 → Option (Mem × Int32)
  | 0, _, _, _, _, _ => none
  | n + 1, σ, x1, x2, x3, x4 => if 100 ≤ x4 then if x1 = 0 then some (σ, x2) else some (σ, x3) else ob (f7_costBy σ 4 x4) fun σ2 r2 => if x3 ≤ r2 then f7_lead_b52 (f7_lead_b24 n) σ2 x1 x3 x4 r2 x2 else f7_lead_b52 (f7_lead_b24 n) σ2 x1 x3 x4 r2 x4
set_option maxHeartbeats 4000000 in
set_option maxRecDepth 100000 in
theorem t7_lead_b24 {p : Program} {l : Launch} {e : Env} {s : State} {m : MethodId} {args : Array Value} {below : List Frame} {meth : Method} {c : Code} {w : WV} {σ' : Mem} {r : Int32} (S : CallFix p m c cX7_lead 6 s args gtbl RX7) (hr : meth.sig.returnType = (some .int)) (hlk : meth.locks = false) (hK : KS LM w s) : ∀ (n : Nat), ∀ (σ : Mem) (x1 : Int32) (x2 : Int32) (x3 : Int32) (x4 : Int32), f7_lead_b24  n σ x1 x2 x3 x4 = some (σ', r) → ∀ (H : Heap) (locs : List Loc), Rp EM LM w σ H → va_S (AW LM w) s.heap H locs → ∀ (ls : Array Slot), lv_has ls 6 [(0, .ref (w.2.2 0)), (1, .int x1), (2, .int x2), (3, .int x3), (4, .int x4)] → W p l e rm7_lead s m args below meth c H locs 0 0 (MQ below (Qw EM LM w σ' (some (.int r))) args s 0 0 (AW LM w)) (F0 m 24 ls []) := by
  obtain ⟨hx, hb, hml, hown, hts⟩ := id S
  intro n
  induction n with
  | zero =>
    intro σ x1 x2 x3 x4 h0
    cases (show none = _ from h0)
  | succ n ih =>
    intro σ x1 x2 x3 x4 h0 H locs hR hS ls hl
    rw [f7_lead_b24] at h0
    refine lv_iload hx hb d7_lead_24 (lv_at hl 4 rfl) ?_
    refine lv_bipush (v := 100) hx hb d7_lead_26 (by decide) ?_
    refine lv_icmp_ge (tgt := 72) hx hb d7_lead_28 (by decide) (fun hc1 => ?_) (fun hc1 => ?_)
    · have h0 := og_t hc1 h0
      refine lv_iload_n hx hb d7_lead_72 rfl (lv_at hl 1 rfl) ?_
      refine lv_if_ne (tgt := 80) hx hb d7_lead_73 (by decide) (fun hc2 => ?_) (fun hc2 => ?_)
      · have h0 := og_f hc2 h0
        refine lv_iload_n hx hb d7_lead_80 rfl (lv_at hl 3 rfl) ?_
        exact q_iret S hr hlk hR hS h0 d7_lead_81
      · have h0 := og_t hc2 h0
        refine lv_iload_n hx hb d7_lead_76 rfl (lv_at hl 2 rfl) ?_
        refine lv_goto (tgt := 81) hx hb d7_lead_77 (by decide) ?_
        exact q_iret S hr hlk hR hS h0 d7_lead_81
    · have h0 := og_f hc1 h0
      refine lv_aload_n hx hb d7_lead_31 rfl (lv_at hl 0 rfl) ?_
      refine lv_iconst (v := 4) hx hb d7_lead_32 (by decide) ?_
      refine lv_iload hx hb d7_lead_33 (lv_at hl 4 rfl) ?_
      obtain ⟨σ2, r2, hr2, h0⟩ := og_o h0
      refine k7_257 S hK hR hS  hr2 ⟨Nat.zero_le _, Nat.zero_le _⟩ ⟨Nat.le_of_ble_eq_true rfl, Nat.le_of_ble_eq_true rfl⟩ hl.1 (Nat.le_of_ble_eq_true rfl) d7_lead_35 (fun H locs hR hS => ?_)
      refine lv_istore (lv' := [(5, .int r2), (0, .ref (w.2.2 0)), (1, .int x1), (2, .int x2), (3, .int x3), (4, .int x4)]) hx hb d7_lead_38 hl (by decide) rfl (fun ls hl => ?_)
      refine lv_iload hx hb d7_lead_40 (lv_at hl 0 rfl) ?_
      refine lv_iload_n hx hb d7_lead_42 rfl (lv_at hl 4 rfl) ?_
      refine lv_icmp_ge (tgt := 51) hx hb d7_lead_43 (by decide) (fun hc3 => ?_) (fun hc3 => ?_)
      · have h0 := og_t hc3 h0
        refine lv_iload_n hx hb d7_lead_51 rfl (lv_at hl 3 rfl) ?_
        exact t7_lead_b52 S hr hlk hK ih σ2 x1 x3 x4 r2 x2 h0 _ _ hR hS _ (lv_sub hl [1, 2, 4, 5, 0] rfl)
      · have h0 := og_f hc3 h0
        refine lv_iload hx hb d7_lead_46 (lv_at hl 5 rfl) ?_
        refine lv_goto (tgt := 52) hx hb d7_lead_48 (by decide) ?_
        exact t7_lead_b52 S hr hlk hK ih σ2 x1 x3 x4 r2 x4 h0 _ _ hR hS _ (lv_sub hl [1, 2, 4, 5, 0] rfl)
def f7_lead (σ : Mem) (x1 : Int32) : Option (Mem × Int32) := Option.bind (f7_in x1.toInt64 (0 : Int64) (1 : Int64)) fun r1 => if r1 = 0 then some (σ, (-1)) else ob (f7_costBy σ 4 0) fun σ3 r3 => f7_lead_b24 1000 σ3 x1 0 r3 1
set_option maxHeartbeats 4000000 in
set_option maxRecDepth 100000 in
theorem c7_lead (l : Launch) {w : WV} {σ : Mem} {x1 : Int32} {σ' : Mem} {r : Int32} (h0 : f7_lead σ x1 = some (σ', r)) : Met l yX7_lead (wy yX7_lead cX7_lead 6 (some .int)) rm7_lead (Pw EM LM w [.ref (w.2.2 0), .int x1] σ) (Qw EM LM w σ' (some (.int r))) 0 0 (AW LM w) := by
  refine mk_met (by decide) (Nat.le_of_ble_eq_true rfl) ?_
  intro p e s m below meth c S hr hlk hK hR ls hl
  obtain ⟨hx, hb, hml, hown, hts⟩ := id S
  have hl : lv_has ls 6 [(0, .ref (w.2.2 0)), (1, .int x1)] := hl
  have hS : va_S (AW LM w) s.heap s.heap [] := va_S.rf
  unfold f7_lead at h0
  refine lv_iload_n hx hb d7_lead_0 rfl (lv_at hl 1 rfl) ?_
  refine lv_i2l hx hb d7_lead_1 rfl ?_
  refine lv_lconst (v := 0) hx hb d7_lead_2 (by decide) ?_
  refine lv_lconst (v := 1) hx hb d7_lead_3 (by decide) ?_
  obtain ⟨r1, hr1, h0⟩ := og_b h0
  refine k7_113 S  hr1 ⟨Nat.zero_le _, Nat.zero_le _⟩ ⟨Nat.le_of_ble_eq_true rfl, Nat.le_of_ble_eq_true rfl⟩ hl.1 (Nat.le_of_ble_eq_true rfl) d7_lead_4 ?_
  refine lv_if_ne (tgt := 12) hx hb d7_lead_7 (by decide) (fun hc2 => ?_) (fun hc2 => ?_)
  · have h0 := og_f hc2 h0
    refine lv_iconst (v := 0) hx hb d7_lead_12 (by decide) ?_
    refine lv_istore_n (lv' := [(2, .int 0), (0, .ref (w.2.2 0)), (1, .int x1)]) hx hb d7_lead_13 rfl hl (by decide) rfl (fun ls hl => ?_)
    refine lv_aload_n hx hb d7_lead_14 rfl (lv_at hl 1 rfl) ?_
    refine lv_iconst (v := 4) hx hb d7_lead_15 (by decide) ?_
    refine lv_iconst (v := 0) hx hb d7_lead_16 (by decide) ?_
    obtain ⟨σ3, r3, hr3, h0⟩ := og_o h0
    refine k7_257 S hK hR hS  hr3 ⟨Nat.zero_le _, Nat.zero_le _⟩ ⟨Nat.le_of_ble_eq_true rfl, Nat.le_of_ble_eq_true rfl⟩ hl.1 (Nat.le_of_ble_eq_true rfl) d7_lead_17 (fun H locs hR hS => ?_)
    refine lv_istore_n (lv' := [(3, .int r3), (2, .int 0), (0, .ref (w.2.2 0)), (1, .int x1)]) hx hb d7_lead_20 rfl hl (by decide) rfl (fun ls hl => ?_)
    refine lv_iconst (v := 1) hx hb d7_lead_21 (by decide) ?_
    refine lv_istore (lv' := [(4, .int 1), (3, .int r3), (2, .int 0), (0, .ref (w.2.2 0)), (1, .int x1)]) hx hb d7_lead_22 hl (by decide) rfl (fun ls hl => ?_)
    exact t7_lead_b24 S hr hlk hK 1000 σ3 x1 0 r3 1 h0 _ _ hR hS _ (lv_sub hl [3, 4, 2, 1, 0] rfl)
  · have h0 := og_t hc2 h0
    refine lv_iconst (v := (-1)) hx hb d7_lead_10 (by decide) ?_
    exact q_iret S hr hlk hR hS h0 d7_lead_11
/-! FourTenGatesModel.more(III)I -/
abbrev rm7_more : Room := { frames := 7, cells := 0, slots := 0, locals := 161 }
theorem d7_more_0 : decode cX7_more 0 = .ok (.iload_n 1, 1) := by decide +kernel
theorem d7_more_1 : decode cX7_more 1 = .ok (.invokestatic 252, 3) := by decide +kernel
theorem d7_more_4 : decode cX7_more 4 = .ok (.ifCond .eq 23, 3) := by decide +kernel
theorem d7_more_7 : decode cX7_more 7 = .ok (.aload_n 0, 1) := by decide +kernel
theorem d7_more_8 : decode cX7_more 8 = .ok (.iload_n 2, 1) := by decide +kernel
theorem d7_more_9 : decode cX7_more 9 = .ok (.invokevirtual 173, 3) := by decide +kernel
theorem d7_more_12 : decode cX7_more 12 = .ok (.ifCond .eq 15, 3) := by decide +kernel
theorem d7_more_15 : decode cX7_more 15 = .ok (.iload_n 3, 1) := by decide +kernel
theorem d7_more_16 : decode cX7_more 16 = .ok (.i2l, 1) := by decide +kernel
theorem d7_more_17 : decode cX7_more 17 = .ok (.lconst 1, 1) := by decide +kernel
theorem d7_more_18 : decode cX7_more 18 = .ok (.ldc2_w 270, 3) := by decide +kernel
theorem d7_more_21 : decode cX7_more 21 = .ok (.invokestatic 113, 3) := by decide +kernel
theorem d7_more_24 : decode cX7_more 24 = .ok (.ifCond .ne 5, 3) := by decide +kernel
theorem d7_more_27 : decode cX7_more 27 = .ok (.iconst (-1), 1) := by decide +kernel
theorem d7_more_28 : decode cX7_more 28 = .ok (.ireturn, 1) := by decide +kernel
theorem d7_more_29 : decode cX7_more 29 = .ok (.aload_n 0, 1) := by decide +kernel
theorem d7_more_30 : decode cX7_more 30 = .ok (.getfield 55, 3) := by decide +kernel
theorem d7_more_33 : decode cX7_more 33 = .ok (.iload_n 2, 1) := by decide +kernel
theorem d7_more_34 : decode cX7_more 34 = .ok (.iaload, 1) := by decide +kernel
theorem d7_more_35 : decode cX7_more 35 = .ok (.iload_n 3, 1) := by decide +kernel
theorem d7_more_36 : decode cX7_more 36 = .ok (.iadd, 1) := by decide +kernel
theorem d7_more_37 : decode cX7_more 37 = .ok (.bipush 30, 2) := by decide +kernel
theorem d7_more_39 : decode cX7_more 39 = .ok (.if_icmp .le 6, 3) := by decide +kernel
theorem d7_more_42 : decode cX7_more 42 = .ok (.bipush (-2), 2) := by decide +kernel
theorem d7_more_44 : decode cX7_more 44 = .ok (.ireturn, 1) := by decide +kernel
theorem d7_more_45 : decode cX7_more 45 = .ok (.aload_n 0, 1) := by decide +kernel
theorem d7_more_46 : decode cX7_more 46 = .ok (.iload_n 1, 1) := by decide +kernel
theorem d7_more_47 : decode cX7_more 47 = .ok (.iconst 0, 1) := by decide +kernel
theorem d7_more_48 : decode cX7_more 48 = .ok (.invokevirtual 257, 3) := by decide +kernel
theorem d7_more_51 : decode cX7_more 51 = .ok (.istore 4, 2) := by decide +kernel
theorem d7_more_53 : decode cX7_more 53 = .ok (.aload_n 0, 1) := by decide +kernel
theorem d7_more_54 : decode cX7_more 54 = .ok (.getfield 55, 3) := by decide +kernel
theorem d7_more_57 : decode cX7_more 57 = .ok (.iload_n 2, 1) := by decide +kernel
theorem d7_more_58 : decode cX7_more 58 = .ok (.dup2, 1) := by decide +kernel
theorem d7_more_59 : decode cX7_more 59 = .ok (.iaload, 1) := by decide +kernel
theorem d7_more_60 : decode cX7_more 60 = .ok (.iload_n 3, 1) := by decide +kernel
theorem d7_more_61 : decode cX7_more 61 = .ok (.iadd, 1) := by decide +kernel
theorem d7_more_62 : decode cX7_more 62 = .ok (.iastore, 1) := by decide +kernel
theorem d7_more_63 : decode cX7_more 63 = .ok (.aload_n 0, 1) := by decide +kernel
theorem d7_more_64 : decode cX7_more 64 = .ok (.iload_n 1, 1) := by decide +kernel
theorem d7_more_65 : decode cX7_more 65 = .ok (.iconst 0, 1) := by decide +kernel
theorem d7_more_66 : decode cX7_more 66 = .ok (.invokevirtual 257, 3) := by decide +kernel
theorem d7_more_69 : decode cX7_more 69 = .ok (.istore 5, 2) := by decide +kernel
theorem d7_more_71 : decode cX7_more 71 = .ok (.aload_n 0, 1) := by decide +kernel
theorem d7_more_72 : decode cX7_more 72 = .ok (.getfield 55, 3) := by decide +kernel
theorem d7_more_75 : decode cX7_more 75 = .ok (.iload_n 2, 1) := by decide +kernel
theorem d7_more_76 : decode cX7_more 76 = .ok (.dup2, 1) := by decide +kernel
theorem d7_more_77 : decode cX7_more 77 = .ok (.iaload, 1) := by decide +kernel
theorem d7_more_78 : decode cX7_more 78 = .ok (.iload_n 3, 1) := by decide +kernel
theorem d7_more_79 : decode cX7_more 79 = .ok (.isub, 1) := by decide +kernel
theorem d7_more_80 : decode cX7_more 80 = .ok (.iastore, 1) := by decide +kernel
theorem d7_more_81 : decode cX7_more 81 = .ok (.iload 5, 2) := by decide +kernel
theorem d7_more_83 : decode cX7_more 83 = .ok (.iload 4, 2) := by decide +kernel
theorem d7_more_85 : decode cX7_more 85 = .ok (.isub, 1) := by decide +kernel
theorem d7_more_86 : decode cX7_more 86 = .ok (.ldc_w 272, 3) := by decide +kernel
theorem d7_more_89 : decode cX7_more 89 = .ok (.iadd, 1) := by decide +kernel
theorem d7_more_90 : decode cX7_more 90 = .ok (.ireturn, 1) := by decide +kernel
def f7_more (σ : Mem) (x1 : Int32) (x2 : Int32) (x3 : Int32) : Option (Mem × Int32) := Option.bind (f7_isRule x1) fun r1 => if r1 = 0 then some (σ, (-1)) else Option.bind (f7_isTrain σ x2) fun r3 => if r3 = 0 then some (σ, (-1)) else Option.bind (f7_in x3.toInt64 (1 : Int64) (9 : Int64)) fun r5 => if r5 = 0 then some (σ, (-1)) else if ¬ (x2 < 0 ∨ 19 ≤ x2.toNatClampNeg) then if ((σ 17 x2.toNatClampNeg) + x3) ≤ 30 then ob (f7_costBy σ x1 0) fun σ9 r9 => if ¬ (x2 < 0 ∨ 19 ≤ x2.toNatClampNeg) then if ¬ (x2 < 0 ∨ 19 ≤ x2.toNatClampNeg) then (bm (mu σ9 17 x2.toNatClampNeg ((σ9 17 x2.toNatClampNeg) + x3)) fun σ12 => ob (f7_costBy σ12 x1 0) fun σ13 r13 => if ¬ (x2 < 0 ∨ 19 ≤ x2.toNatClampNeg) then if ¬ (x2 < 0 ∨ 19 ≤ x2.toNatClampNeg) then (bm (mu σ13 17 x2.toNatClampNeg ((σ13 17 x2.toNatClampNeg) - x3)) fun σ16 => some (σ16, (r13 - r9) + 99999)) else none else none) else none else none else some (σ, (-2)) else none
set_option maxHeartbeats 4000000 in
set_option maxRecDepth 100000 in
theorem c7_more (l : Launch) {w : WV} {σ : Mem} {x1 : Int32} {x2 : Int32} {x3 : Int32} {σ' : Mem} {r : Int32} (h0 : f7_more σ x1 x2 x3 = some (σ', r)) : Met l yX7_more (wy yX7_more cX7_more 6 (some .int)) rm7_more (Pw EM LM w [.ref (w.2.2 0), .int x1, .int x2, .int x3] σ) (Qw EM LM w σ' (some (.int r))) 0 0 (AW LM w) := by
  refine mk_met (by decide) (Nat.le_of_ble_eq_true rfl) ?_
  intro p e s m below meth c S hr hlk hK hR ls hl
  obtain ⟨hx, hb, hml, hown, hts⟩ := id S
  have hl : lv_has ls 6 [(0, .ref (w.2.2 0)), (1, .int x1), (2, .int x2), (3, .int x3)] := hl
  have hS : va_S (AW LM w) s.heap s.heap [] := va_S.rf
  unfold f7_more at h0
  refine lv_iload_n hx hb d7_more_0 rfl (lv_at hl 1 rfl) ?_
  obtain ⟨r1, hr1, h0⟩ := og_b h0
  refine k7_252 S  hr1 ⟨Nat.zero_le _, Nat.zero_le _⟩ ⟨Nat.le_of_ble_eq_true rfl, Nat.le_of_ble_eq_true rfl⟩ hl.1 (Nat.le_of_ble_eq_true rfl) d7_more_1 ?_
  refine lv_if_eq (tgt := 27) hx hb d7_more_4 (by decide) (fun hc2 => ?_) (fun hc2 => ?_)
  · have h0 := og_t hc2 h0
    refine lv_iconst (v := (-1)) hx hb d7_more_27 (by decide) ?_
    exact q_iret S hr hlk hR hS h0 d7_more_28
  · have h0 := og_f hc2 h0
    refine lv_aload_n hx hb d7_more_7 rfl (lv_at hl 0 rfl) ?_
    refine lv_iload_n hx hb d7_more_8 rfl (lv_at hl 2 rfl) ?_
    obtain ⟨r3, hr3, h0⟩ := og_b h0
    refine k7_173 S hK hR  hr3 ⟨Nat.zero_le _, Nat.zero_le _⟩ ⟨Nat.le_of_ble_eq_true rfl, Nat.le_of_ble_eq_true rfl⟩ hl.1 (Nat.le_of_ble_eq_true rfl) d7_more_9 ?_
    refine lv_if_eq (tgt := 27) hx hb d7_more_12 (by decide) (fun hc4 => ?_) (fun hc4 => ?_)
    · have h0 := og_t hc4 h0
      refine lv_iconst (v := (-1)) hx hb d7_more_27 (by decide) ?_
      exact q_iret S hr hlk hR hS h0 d7_more_28
    · have h0 := og_f hc4 h0
      refine lv_iload_n hx hb d7_more_15 rfl (lv_at hl 3 rfl) ?_
      refine lv_i2l hx hb d7_more_16 rfl ?_
      refine lv_lconst (v := 1) hx hb d7_more_17 (by decide) ?_
      refine lv_ldc2 (v := 9) hx hb hown (hts _ (gt_at 1238 (by decide +kernel) (by decide +kernel))) d7_more_18 ?_
      obtain ⟨r5, hr5, h0⟩ := og_b h0
      refine k7_113 S  hr5 ⟨Nat.zero_le _, Nat.zero_le _⟩ ⟨Nat.le_of_ble_eq_true rfl, Nat.le_of_ble_eq_true rfl⟩ hl.1 (Nat.le_of_ble_eq_true rfl) d7_more_21 ?_
      refine lv_if_ne (tgt := 29) hx hb d7_more_24 (by decide) (fun hc6 => ?_) (fun hc6 => ?_)
      · have h0 := og_f hc6 h0
        refine lv_aload_n hx hb d7_more_29 rfl (lv_at hl 0 rfl) ?_
        refine g7_55 S hK hR d7_more_30 ?_
        refine lv_iload_n hx hb d7_more_33 rfl (lv_at hl 2 rfl) ?_
        obtain ⟨hi7, h0⟩ := og_if h0
        refine q_ld (k := x2.toNatClampNeg) S hK hR (by decide) (eM_116 w _) hi7 rfl d7_more_34 ?_
        refine lv_iload_n hx hb d7_more_35 rfl (lv_at hl 3 rfl) ?_
        refine lv_iadd hx hb d7_more_36 ?_
        refine lv_bipush (v := 30) hx hb d7_more_37 (by decide) ?_
        refine lv_icmp_le (tgt := 45) hx hb d7_more_39 (by decide) (fun hc8 => ?_) (fun hc8 => ?_)
        · have h0 := og_t hc8 h0
          refine lv_aload_n hx hb d7_more_45 rfl (lv_at hl 0 rfl) ?_
          refine lv_iload_n hx hb d7_more_46 rfl (lv_at hl 1 rfl) ?_
          refine lv_iconst (v := 0) hx hb d7_more_47 (by decide) ?_
          obtain ⟨σ9, r9, hr9, h0⟩ := og_o h0
          refine k7_257 S hK hR hS  hr9 ⟨Nat.zero_le _, Nat.zero_le _⟩ ⟨Nat.le_of_ble_eq_true rfl, Nat.le_of_ble_eq_true rfl⟩ hl.1 (Nat.le_of_ble_eq_true rfl) d7_more_48 (fun H locs hR hS => ?_)
          refine lv_istore (lv' := [(4, .int r9), (0, .ref (w.2.2 0)), (1, .int x1), (2, .int x2), (3, .int x3)]) hx hb d7_more_51 hl (by decide) rfl (fun ls hl => ?_)
          refine lv_aload_n hx hb d7_more_53 rfl (lv_at hl 1 rfl) ?_
          refine g7_55 S hK hR d7_more_54 ?_
          refine lv_iload_n hx hb d7_more_57 rfl (lv_at hl 3 rfl) ?_
          refine lv_dup2_11 hx hb d7_more_58 rfl rfl ?_
          obtain ⟨hi10, h0⟩ := og_if h0
          refine q_ld (k := x2.toNatClampNeg) S hK hR (by decide) (eM_116 w _) hi10 rfl d7_more_59 ?_
          refine lv_iload_n hx hb d7_more_60 rfl (lv_at hl 4 rfl) ?_
          refine lv_iadd hx hb d7_more_61 ?_
          obtain ⟨hi11, h0⟩ := og_if h0
          obtain ⟨σ12, hm12, h0⟩ := og_m h0
          refine q_st S hK hR hS (by decide) (eM_116 w) hi11 rfl hm12 d7_more_62 (fun H locs hR hS => ?_)
          refine lv_aload_n hx hb d7_more_63 rfl (lv_at hl 1 rfl) ?_
          refine lv_iload_n hx hb d7_more_64 rfl (lv_at hl 2 rfl) ?_
          refine lv_iconst (v := 0) hx hb d7_more_65 (by decide) ?_
          obtain ⟨σ13, r13, hr13, h0⟩ := og_o h0
          refine k7_257 S hK hR hS  hr13 ⟨Nat.zero_le _, Nat.zero_le _⟩ ⟨Nat.le_of_ble_eq_true rfl, Nat.le_of_ble_eq_true rfl⟩ hl.1 (Nat.le_of_ble_eq_true rfl) d7_more_66 (fun H locs hR hS => ?_)
          refine lv_istore (lv' := [(5, .int r13), (4, .int r9), (0, .ref (w.2.2 0)), (1, .int x1), (2, .int x2), (3, .int x3)]) hx hb d7_more_69 hl (by decide) rfl (fun ls hl => ?_)
          refine lv_aload_n hx hb d7_more_71 rfl (lv_at hl 2 rfl) ?_
          refine g7_55 S hK hR d7_more_72 ?_
          refine lv_iload_n hx hb d7_more_75 rfl (lv_at hl 4 rfl) ?_
          refine lv_dup2_11 hx hb d7_more_76 rfl rfl ?_
          obtain ⟨hi14, h0⟩ := og_if h0
          refine q_ld (k := x2.toNatClampNeg) S hK hR (by decide) (eM_116 w _) hi14 rfl d7_more_77 ?_
          refine lv_iload_n hx hb d7_more_78 rfl (lv_at hl 5 rfl) ?_
          refine lv_isub hx hb d7_more_79 ?_
          obtain ⟨hi15, h0⟩ := og_if h0
          obtain ⟨σ16, hm16, h0⟩ := og_m h0
          refine q_st S hK hR hS (by decide) (eM_116 w) hi15 rfl hm16 d7_more_80 (fun H locs hR hS => ?_)
          refine lv_iload hx hb d7_more_81 (lv_at hl 0 rfl) ?_
          refine lv_iload hx hb d7_more_83 (lv_at hl 1 rfl) ?_
          refine lv_isub hx hb d7_more_85 ?_
          refine lv_ldcw (v := 99999) hx hb hown (hts _ (gt_at 1239 (by decide +kernel) (by decide +kernel))) d7_more_86 ?_
          refine lv_iadd hx hb d7_more_89 ?_
          exact q_iret S hr hlk hR hS h0 d7_more_90
        · have h0 := og_f hc8 h0
          refine lv_bipush (v := (-2)) hx hb d7_more_42 (by decide) ?_
          exact q_iret S hr hlk hR hS h0 d7_more_44
      · have h0 := og_t hc6 h0
        refine lv_iconst (v := (-1)) hx hb d7_more_27 (by decide) ?_
        exact q_iret S hr hlk hR hS h0 d7_more_28
/-! FourTenGatesModel.dinner(II)I -/
abbrev rm7_dinner : Room := { frames := 6, cells := 0, slots := 0, locals := 139 }
theorem d7_dinner_0 : decode cX7_dinner 0 = .ok (.iload_n 1, 1) := by decide +kernel
theorem d7_dinner_1 : decode cX7_dinner 1 = .ok (.invokestatic 252, 3) := by decide +kernel
theorem d7_dinner_4 : decode cX7_dinner 4 = .ok (.ifCond .eq 13, 3) := by decide +kernel
theorem d7_dinner_7 : decode cX7_dinner 7 = .ok (.iload_n 2, 1) := by decide +kernel
theorem d7_dinner_8 : decode cX7_dinner 8 = .ok (.i2l, 1) := by decide +kernel
theorem d7_dinner_9 : decode cX7_dinner 9 = .ok (.lconst 0, 1) := by decide +kernel
theorem d7_dinner_10 : decode cX7_dinner 10 = .ok (.lconst 1, 1) := by decide +kernel
theorem d7_dinner_11 : decode cX7_dinner 11 = .ok (.invokestatic 113, 3) := by decide +kernel
theorem d7_dinner_14 : decode cX7_dinner 14 = .ok (.ifCond .ne 5, 3) := by decide +kernel
theorem d7_dinner_17 : decode cX7_dinner 17 = .ok (.iconst (-1), 1) := by decide +kernel
theorem d7_dinner_18 : decode cX7_dinner 18 = .ok (.ireturn, 1) := by decide +kernel
theorem d7_dinner_19 : decode cX7_dinner 19 = .ok (.aload_n 0, 1) := by decide +kernel
theorem d7_dinner_20 : decode cX7_dinner 20 = .ok (.iload_n 1, 1) := by decide +kernel
theorem d7_dinner_21 : decode cX7_dinner 21 = .ok (.iconst 0, 1) := by decide +kernel
theorem d7_dinner_22 : decode cX7_dinner 22 = .ok (.invokevirtual 245, 3) := by decide +kernel
theorem d7_dinner_25 : decode cX7_dinner 25 = .ok (.iconst 0, 1) := by decide +kernel
theorem d7_dinner_26 : decode cX7_dinner 26 = .ok (.istore_n 3, 1) := by decide +kernel
theorem d7_dinner_27 : decode cX7_dinner 27 = .ok (.bipush (-4), 2) := by decide +kernel
theorem d7_dinner_29 : decode cX7_dinner 29 = .ok (.istore 4, 2) := by decide +kernel
theorem d7_dinner_31 : decode cX7_dinner 31 = .ok (.iconst 0, 1) := by decide +kernel
theorem d7_dinner_32 : decode cX7_dinner 32 = .ok (.istore 5, 2) := by decide +kernel
theorem d7_dinner_34 : decode cX7_dinner 34 = .ok (.iconst 0, 1) := by decide +kernel
theorem d7_dinner_35 : decode cX7_dinner 35 = .ok (.istore 6, 2) := by decide +kernel
theorem d7_dinner_37 : decode cX7_dinner 37 = .ok (.iload 6, 2) := by decide +kernel
theorem d7_dinner_39 : decode cX7_dinner 39 = .ok (.sipush 360, 3) := by decide +kernel
theorem d7_dinner_42 : decode cX7_dinner 42 = .ok (.if_icmp .ge 47, 3) := by decide +kernel
theorem d7_dinner_45 : decode cX7_dinner 45 = .ok (.aload_n 0, 1) := by decide +kernel
theorem d7_dinner_46 : decode cX7_dinner 46 = .ok (.getfield 73, 3) := by decide +kernel
theorem d7_dinner_49 : decode cX7_dinner 49 = .ok (.iload 6, 2) := by decide +kernel
theorem d7_dinner_51 : decode cX7_dinner 51 = .ok (.iaload, 1) := by decide +kernel
theorem d7_dinner_52 : decode cX7_dinner 52 = .ok (.ifCond .ne 10, 3) := by decide +kernel
theorem d7_dinner_55 : decode cX7_dinner 55 = .ok (.iload 5, 2) := by decide +kernel
theorem d7_dinner_57 : decode cX7_dinner 57 = .ok (.iconst 1, 1) := by decide +kernel
theorem d7_dinner_58 : decode cX7_dinner 58 = .ok (.iadd, 1) := by decide +kernel
theorem d7_dinner_59 : decode cX7_dinner 59 = .ok (.goto 4, 3) := by decide +kernel
theorem d7_dinner_62 : decode cX7_dinner 62 = .ok (.iconst 0, 1) := by decide +kernel
theorem d7_dinner_63 : decode cX7_dinner 63 = .ok (.istore 5, 2) := by decide +kernel
theorem d7_dinner_65 : decode cX7_dinner 65 = .ok (.iload 5, 2) := by decide +kernel
theorem d7_dinner_67 : decode cX7_dinner 67 = .ok (.iload_n 3, 1) := by decide +kernel
theorem d7_dinner_68 : decode cX7_dinner 68 = .ok (.if_icmp .le 15, 3) := by decide +kernel
theorem d7_dinner_71 : decode cX7_dinner 71 = .ok (.iload 5, 2) := by decide +kernel
theorem d7_dinner_73 : decode cX7_dinner 73 = .ok (.istore_n 3, 1) := by decide +kernel
theorem d7_dinner_74 : decode cX7_dinner 74 = .ok (.iload 6, 2) := by decide +kernel
theorem d7_dinner_76 : decode cX7_dinner 76 = .ok (.iload 5, 2) := by decide +kernel
theorem d7_dinner_78 : decode cX7_dinner 78 = .ok (.isub, 1) := by decide +kernel
theorem d7_dinner_79 : decode cX7_dinner 79 = .ok (.iconst 1, 1) := by decide +kernel
theorem d7_dinner_80 : decode cX7_dinner 80 = .ok (.iadd, 1) := by decide +kernel
theorem d7_dinner_81 : decode cX7_dinner 81 = .ok (.istore 4, 2) := by decide +kernel
theorem d7_dinner_83 : decode cX7_dinner 83 = .ok (.iinc 6 1, 3) := by decide +kernel
theorem d7_dinner_86 : decode cX7_dinner 86 = .ok (.goto (-49), 3) := by decide +kernel
theorem d7_dinner_89 : decode cX7_dinner 89 = .ok (.iload_n 3, 1) := by decide +kernel
theorem d7_dinner_90 : decode cX7_dinner 90 = .ok (.ifCond .eq 8, 3) := by decide +kernel
theorem d7_dinner_93 : decode cX7_dinner 93 = .ok (.iload_n 2, 1) := by decide +kernel
theorem d7_dinner_94 : decode cX7_dinner 94 = .ok (.iconst 1, 1) := by decide +kernel
theorem d7_dinner_95 : decode cX7_dinner 95 = .ok (.if_icmp .ne 8, 3) := by decide +kernel
theorem d7_dinner_98 : decode cX7_dinner 98 = .ok (.iload 4, 2) := by decide +kernel
theorem d7_dinner_100 : decode cX7_dinner 100 = .ok (.goto 4, 3) := by decide +kernel
theorem d7_dinner_103 : decode cX7_dinner 103 = .ok (.iload_n 3, 1) := by decide +kernel
theorem d7_dinner_104 : decode cX7_dinner 104 = .ok (.ireturn, 1) := by decide +kernel
def f7_dinner_b63 (k37 : Mem → Int32 → Int32 → Int32 → Int32 → Int32 → Option (Mem × Int32)) (σ : Mem) (x2 : Int32) (x3 : Int32) (x4 : Int32) (x6 : Int32) (s0 : Int32) : Option (Mem × Int32) := if s0 ≤ x3 then k37 σ x2 x3 x4 s0 (x6 + 1) else k37 σ x2 s0 ((x6 - s0) + 1) s0 (x6 + 1)
set_option maxHeartbeats 4000000 in
set_option maxRecDepth 100000 in
theorem t7_dinner_b63 {p : Program} {l : Launch} {e : Env} {s : State} {m : MethodId} {args : Array Value} {below : List Frame} {meth : Method} {c : Code} {w : WV} {σ' : Mem} {r : Int32} {k37 : Mem → Int32 → Int32 → Int32 → Int32 → Int32 → Option (Mem × Int32)} (S : CallFix p m c cX7_dinner 7 s args gtbl RX7) (hr : meth.sig.returnType = (some .int)) (hlk : meth.locks = false) (hK : KS LM w s) (hk37 : ∀ (σ : Mem) (x2 : Int32) (x3 : Int32) (x4 : Int32) (x5 : Int32) (x6 : Int32), k37 σ x2 x3 x4 x5 x6 = some (σ', r) → ∀ (H : Heap) (locs : List Loc), Rp EM LM w σ H → va_S (AW LM w) s.heap H locs → ∀ (ls : Array Slot), lv_has ls 7 [(0, .ref (w.2.2 0)), (2, .int x2), (3, .int x3), (4, .int x4), (5, .int x5), (6, .int x6)] → W p l e rm7_dinner s m args below meth c H locs 0 0 (MQ below (Qw EM LM w σ' (some (.int r))) args s 0 0 (AW LM w)) (F0 m 37 ls [])) : ∀ (σ : Mem) (x2 : Int32) (x3 : Int32) (x4 : Int32) (x6 : Int32) (s0 : Int32), f7_dinner_b63 k37 σ x2 x3 x4 x6 s0 = some (σ', r) → ∀ (H : Heap) (locs : List Loc), Rp EM LM w σ H → va_S (AW LM w) s.heap H locs → ∀ (ls : Array Slot), lv_has ls 7 [(0, .ref (w.2.2 0)), (2, .int x2), (3, .int x3), (4, .int x4), (6, .int x6)] → W p l e rm7_dinner s m args below meth c H locs 0 0 (MQ below (Qw EM LM w σ' (some (.int r))) args s 0 0 (AW LM w)) (F0 m 63 ls [.int s0]) := by
  obtain ⟨hx, hb, hml, hown, hts⟩ := id S
  intro σ x2 x3 x4 x6 s0 h0 H locs hR hS ls hl
  unfold f7_dinner_b63 at h0
  refine lv_istore (lv' := [(5, .int s0), (0, .ref (w.2.2 0)), (2, .int x2), (3, .int x3), (4, .int x4), (6, .int x6)]) hx hb d7_dinner_63 hl (by decide) rfl (fun ls hl => ?_)
  refine lv_iload hx hb d7_dinner_65 (lv_at hl 0 rfl) ?_
  refine lv_iload_n hx hb d7_dinner_67 rfl (lv_at hl 3 rfl) ?_
  refine lv_icmp_le (tgt := 83) hx hb d7_dinner_68 (by decide) (fun hc1 => ?_) (fun hc1 => ?_)
  · have h0 := og_t hc1 h0
    refine lv_iinc (v := x6 + 1) (lv' := [(6, .int (x6 + 1)), (5, .int s0), (0, .ref (w.2.2 0)), (2, .int x2), (3, .int x3), (4, .int x4)]) hx hb d7_dinner_83 hl (k := 5) rfl (ii1 _) (by decide) rfl (fun ls hl => ?_)
    refine lv_goto (tgt := 37) hx hb d7_dinner_86 (by decide) ?_
    exact hk37 σ x2 x3 x4 s0 (x6 + 1) h0 _ _ hR hS _ (lv_sub hl [2, 3, 4, 5, 1, 0] rfl)
  · have h0 := og_f hc1 h0
    refine lv_iload hx hb d7_dinner_71 (lv_at hl 0 rfl) ?_
    refine lv_istore_n (lv' := [(3, .int s0), (5, .int s0), (0, .ref (w.2.2 0)), (2, .int x2), (4, .int x4), (6, .int x6)]) hx hb d7_dinner_73 rfl hl (by decide) rfl (fun ls hl => ?_)
    refine lv_iload hx hb d7_dinner_74 (lv_at hl 5 rfl) ?_
    refine lv_iload hx hb d7_dinner_76 (lv_at hl 1 rfl) ?_
    refine lv_isub hx hb d7_dinner_78 ?_
    refine lv_iconst (v := 1) hx hb d7_dinner_79 (by decide) ?_
    refine lv_iadd hx hb d7_dinner_80 ?_
    refine lv_istore (lv' := [(4, .int ((x6 - s0) + 1)), (3, .int s0), (5, .int s0), (0, .ref (w.2.2 0)), (2, .int x2), (6, .int x6)]) hx hb d7_dinner_81 hl (by decide) rfl (fun ls hl => ?_)
    refine lv_iinc (v := x6 + 1) (lv' := [(6, .int (x6 + 1)), (4, .int ((x6 - s0) + 1)), (3, .int s0), (5, .int s0), (0, .ref (w.2.2 0)), (2, .int x2)]) hx hb d7_dinner_83 hl (k := 5) rfl (ii1 _) (by decide) rfl (fun ls hl => ?_)
    refine lv_goto (tgt := 37) hx hb d7_dinner_86 (by decide) ?_
    exact hk37 σ x2 s0 ((x6 - s0) + 1) s0 (x6 + 1) h0 _ _ hR hS _ (lv_sub hl [4, 5, 2, 1, 3, 0] rfl)
def f7_dinner_b37 : Nat → Mem → Int32 → Int32 → Int32 → Int32 → Int32 → Option (Mem × Int32)
  | 0, _, _, _, _, _, _ => none
  | n + 1, σ, x2, x3, x4, x5, x6 => if 360 ≤ x6 then if x3 = 0 then some (σ, x4) else if x2 = 1 then some (σ, x4) else some (σ, x3) else if ¬ (x6 < 0 ∨ 360 ≤ x6.toNatClampNeg) then if (σ 27 x6.toNatClampNeg) = 0 then f7_dinner_b63 (f7_dinner_b37 n) σ x2 x3 x4 x6 (x5 + 1) else f7_dinner_b63 (f7_dinner_b37 n) σ x2 x3 x4 x6 0 else none
set_option maxHeartbeats 4000000 in
set_option maxRecDepth 100000 in
theorem t7_dinner_b37 {p : Program} {l : Launch} {e : Env} {s : State} {m : MethodId} {args : Array Value} {below : List Frame} {meth : Method} {c : Code} {w : WV} {σ' : Mem} {r : Int32} (S : CallFix p m c cX7_dinner 7 s args gtbl RX7) (hr : meth.sig.returnType = (some .int)) (hlk : meth.locks = false) (hK : KS LM w s) : ∀ (n : Nat), ∀ (σ : Mem) (x2 : Int32) (x3 : Int32) (x4 : Int32) (x5 : Int32) (x6 : Int32), f7_dinner_b37  n σ x2 x3 x4 x5 x6 = some (σ', r) → ∀ (H : Heap) (locs : List Loc), Rp EM LM w σ H → va_S (AW LM w) s.heap H locs → ∀ (ls : Array Slot), lv_has ls 7 [(0, .ref (w.2.2 0)), (2, .int x2), (3, .int x3), (4, .int x4), (5, .int x5), (6, .int x6)] → W p l e rm7_dinner s m args below meth c H locs 0 0 (MQ below (Qw EM LM w σ' (some (.int r))) args s 0 0 (AW LM w)) (F0 m 37 ls []) := by
  obtain ⟨hx, hb, hml, hown, hts⟩ := id S
  intro n
  induction n with
  | zero =>
    intro σ x2 x3 x4 x5 x6 h0
    cases (show none = _ from h0)
  | succ n ih =>
    intro σ x2 x3 x4 x5 x6 h0 H locs hR hS ls hl
    rw [f7_dinner_b37] at h0
    refine lv_iload hx hb d7_dinner_37 (lv_at hl 5 rfl) ?_
    refine lv_sipush (v := 360) hx hb d7_dinner_39 (by decide) ?_
    refine lv_icmp_ge (tgt := 89) hx hb d7_dinner_42 (by decide) (fun hc1 => ?_) (fun hc1 => ?_)
    · have h0 := og_t hc1 h0
      refine lv_iload_n hx hb d7_dinner_89 rfl (lv_at hl 2 rfl) ?_
      refine lv_if_eq (tgt := 98) hx hb d7_dinner_90 (by decide) (fun hc2 => ?_) (fun hc2 => ?_)
      · have h0 := og_t hc2 h0
        refine lv_iload hx hb d7_dinner_98 (lv_at hl 3 rfl) ?_
        refine lv_goto (tgt := 104) hx hb d7_dinner_100 (by decide) ?_
        exact q_iret S hr hlk hR hS h0 d7_dinner_104
      · have h0 := og_f hc2 h0
        refine lv_iload_n hx hb d7_dinner_93 rfl (lv_at hl 1 rfl) ?_
        refine lv_iconst (v := 1) hx hb d7_dinner_94 (by decide) ?_
        refine lv_icmp_ne (tgt := 103) hx hb d7_dinner_95 (by decide) (fun hc3 => ?_) (fun hc3 => ?_)
        · have h0 := og_f hc3 h0
          refine lv_iload_n hx hb d7_dinner_103 rfl (lv_at hl 2 rfl) ?_
          exact q_iret S hr hlk hR hS h0 d7_dinner_104
        · have h0 := og_t hc3 h0
          refine lv_iload hx hb d7_dinner_98 (lv_at hl 3 rfl) ?_
          refine lv_goto (tgt := 104) hx hb d7_dinner_100 (by decide) ?_
          exact q_iret S hr hlk hR hS h0 d7_dinner_104
    · have h0 := og_f hc1 h0
      refine lv_aload_n hx hb d7_dinner_45 rfl (lv_at hl 0 rfl) ?_
      refine g7_73 S hK hR d7_dinner_46 ?_
      refine lv_iload hx hb d7_dinner_49 (lv_at hl 5 rfl) ?_
      obtain ⟨hi2, h0⟩ := og_if h0
      refine q_ld (k := x6.toNatClampNeg) S hK hR (by decide) (eM_126 w _) hi2 rfl d7_dinner_51 ?_
      refine lv_if_ne (tgt := 62) hx hb d7_dinner_52 (by decide) (fun hc3 => ?_) (fun hc3 => ?_)
      · have h0 := og_f hc3 h0
        refine lv_iconst (v := 0) hx hb d7_dinner_62 (by decide) ?_
        exact t7_dinner_b63 S hr hlk hK ih σ x2 x3 x4 x6 0 h0 _ _ hR hS _ (lv_sub hl [0, 1, 2, 3, 5] rfl)
      · have h0 := og_t hc3 h0
        refine lv_iload hx hb d7_dinner_55 (lv_at hl 4 rfl) ?_
        refine lv_iconst (v := 1) hx hb d7_dinner_57 (by decide) ?_
        refine lv_iadd hx hb d7_dinner_58 ?_
        refine lv_goto (tgt := 63) hx hb d7_dinner_59 (by decide) ?_
        exact t7_dinner_b63 S hr hlk hK ih σ x2 x3 x4 x6 (x5 + 1) h0 _ _ hR hS _ (lv_sub hl [0, 1, 2, 3, 5] rfl)
def f7_dinner (σ : Mem) (x1 : Int32) (x2 : Int32) : Option (Mem × Int32) := Option.bind (f7_isRule x1) fun r1 => if r1 = 0 then some (σ, (-1)) else Option.bind (f7_in x2.toInt64 (0 : Int64) (1 : Int64)) fun r3 => if r3 = 0 then some (σ, (-1)) else Option.bind (f7_goHour σ x1 0) fun σ5 => f7_dinner_b37 1000 σ5 x2 0 (-4) 0 0
set_option maxHeartbeats 4000000 in
set_option maxRecDepth 100000 in
theorem c7_dinner (l : Launch) {w : WV} {σ : Mem} {x1 : Int32} {x2 : Int32} {σ' : Mem} {r : Int32} (h0 : f7_dinner σ x1 x2 = some (σ', r)) : Met l yX7_dinner (wy yX7_dinner cX7_dinner 7 (some .int)) rm7_dinner (Pw EM LM w [.ref (w.2.2 0), .int x1, .int x2] σ) (Qw EM LM w σ' (some (.int r))) 0 0 (AW LM w) := by
  refine mk_met (by decide) (Nat.le_of_ble_eq_true rfl) ?_
  intro p e s m below meth c S hr hlk hK hR ls hl
  obtain ⟨hx, hb, hml, hown, hts⟩ := id S
  have hl : lv_has ls 7 [(0, .ref (w.2.2 0)), (1, .int x1), (2, .int x2)] := hl
  have hS : va_S (AW LM w) s.heap s.heap [] := va_S.rf
  unfold f7_dinner at h0
  refine lv_iload_n hx hb d7_dinner_0 rfl (lv_at hl 1 rfl) ?_
  obtain ⟨r1, hr1, h0⟩ := og_b h0
  refine k7_252 S  hr1 ⟨Nat.zero_le _, Nat.zero_le _⟩ ⟨Nat.le_of_ble_eq_true rfl, Nat.le_of_ble_eq_true rfl⟩ hl.1 (Nat.le_of_ble_eq_true rfl) d7_dinner_1 ?_
  refine lv_if_eq (tgt := 17) hx hb d7_dinner_4 (by decide) (fun hc2 => ?_) (fun hc2 => ?_)
  · have h0 := og_t hc2 h0
    refine lv_iconst (v := (-1)) hx hb d7_dinner_17 (by decide) ?_
    exact q_iret S hr hlk hR hS h0 d7_dinner_18
  · have h0 := og_f hc2 h0
    refine lv_iload_n hx hb d7_dinner_7 rfl (lv_at hl 2 rfl) ?_
    refine lv_i2l hx hb d7_dinner_8 rfl ?_
    refine lv_lconst (v := 0) hx hb d7_dinner_9 (by decide) ?_
    refine lv_lconst (v := 1) hx hb d7_dinner_10 (by decide) ?_
    obtain ⟨r3, hr3, h0⟩ := og_b h0
    refine k7_113 S  hr3 ⟨Nat.zero_le _, Nat.zero_le _⟩ ⟨Nat.le_of_ble_eq_true rfl, Nat.le_of_ble_eq_true rfl⟩ hl.1 (Nat.le_of_ble_eq_true rfl) d7_dinner_11 ?_
    refine lv_if_ne (tgt := 19) hx hb d7_dinner_14 (by decide) (fun hc4 => ?_) (fun hc4 => ?_)
    · have h0 := og_f hc4 h0
      refine lv_aload_n hx hb d7_dinner_19 rfl (lv_at hl 0 rfl) ?_
      refine lv_iload_n hx hb d7_dinner_20 rfl (lv_at hl 1 rfl) ?_
      refine lv_iconst (v := 0) hx hb d7_dinner_21 (by decide) ?_
      obtain ⟨σ5, hr5, h0⟩ := og_b h0
      refine k7_245 S hK hR hS  hr5 ⟨Nat.zero_le _, Nat.zero_le _⟩ ⟨Nat.le_of_ble_eq_true rfl, Nat.le_of_ble_eq_true rfl⟩ hl.1 (Nat.le_of_ble_eq_true rfl) d7_dinner_22 (fun H locs hR hS => ?_)
      refine lv_iconst (v := 0) hx hb d7_dinner_25 (by decide) ?_
      refine lv_istore_n (lv' := [(3, .int 0), (0, .ref (w.2.2 0)), (1, .int x1), (2, .int x2)]) hx hb d7_dinner_26 rfl hl (by decide) rfl (fun ls hl => ?_)
      refine lv_bipush (v := (-4)) hx hb d7_dinner_27 (by decide) ?_
      refine lv_istore (lv' := [(4, .int (-4)), (3, .int 0), (0, .ref (w.2.2 0)), (1, .int x1), (2, .int x2)]) hx hb d7_dinner_29 hl (by decide) rfl (fun ls hl => ?_)
      refine lv_iconst (v := 0) hx hb d7_dinner_31 (by decide) ?_
      refine lv_istore (lv' := [(5, .int 0), (4, .int (-4)), (3, .int 0), (0, .ref (w.2.2 0)), (1, .int x1), (2, .int x2)]) hx hb d7_dinner_32 hl (by decide) rfl (fun ls hl => ?_)
      refine lv_iconst (v := 0) hx hb d7_dinner_34 (by decide) ?_
      refine lv_istore (lv' := [(6, .int 0), (5, .int 0), (4, .int (-4)), (3, .int 0), (0, .ref (w.2.2 0)), (1, .int x1), (2, .int x2)]) hx hb d7_dinner_35 hl (by decide) rfl (fun ls hl => ?_)
      exact t7_dinner_b37 S hr hlk hK 1000 σ5 x2 0 (-4) 0 0 h0 _ _ hR hS _ (lv_sub hl [4, 6, 3, 2, 1, 0] rfl)
    · have h0 := og_t hc4 h0
      refine lv_iconst (v := (-1)) hx hb d7_dinner_17 (by decide) ?_
      exact q_iret S hr hlk hR hS h0 d7_dinner_18
/-! FourTenGatesModel.common(II)I -/
abbrev rm7_common : Room := { frames := 0, cells := 0, slots := 0, locals := 0 }
theorem d7_common_0 : decode cX7_common 0 = .ok (.iload_n 0, 1) := by decide +kernel
theorem d7_common_1 : decode cX7_common 1 = .ok (.istore_n 2, 1) := by decide +kernel
theorem d7_common_2 : decode cX7_common 2 = .ok (.iload_n 1, 1) := by decide +kernel
theorem d7_common_3 : decode cX7_common 3 = .ok (.istore_n 3, 1) := by decide +kernel
theorem d7_common_4 : decode cX7_common 4 = .ok (.iload_n 3, 1) := by decide +kernel
theorem d7_common_5 : decode cX7_common 5 = .ok (.ifCond .eq 16, 3) := by decide +kernel
theorem d7_common_8 : decode cX7_common 8 = .ok (.iload_n 2, 1) := by decide +kernel
theorem d7_common_9 : decode cX7_common 9 = .ok (.iload_n 3, 1) := by decide +kernel
theorem d7_common_10 : decode cX7_common 10 = .ok (.irem, 1) := by decide +kernel
theorem d7_common_11 : decode cX7_common 11 = .ok (.istore 4, 2) := by decide +kernel
theorem d7_common_13 : decode cX7_common 13 = .ok (.iload_n 3, 1) := by decide +kernel
theorem d7_common_14 : decode cX7_common 14 = .ok (.istore_n 2, 1) := by decide +kernel
theorem d7_common_15 : decode cX7_common 15 = .ok (.iload 4, 2) := by decide +kernel
theorem d7_common_17 : decode cX7_common 17 = .ok (.istore_n 3, 1) := by decide +kernel
theorem d7_common_18 : decode cX7_common 18 = .ok (.goto (-14), 3) := by decide +kernel
theorem d7_common_21 : decode cX7_common 21 = .ok (.iload_n 2, 1) := by decide +kernel
theorem d7_common_22 : decode cX7_common 22 = .ok (.ireturn, 1) := by decide +kernel
def f7_common_b4 : Nat → Int32 → Int32 → Option Int32
  | 0, _, _ => none
  | n + 1, x2, x3 => if x3 = 0 then some x2 else if ¬ x3 = 0 then f7_common_b4 n x3 (x2 - x2 / x3 * x3) else none
set_option maxHeartbeats 4000000 in
set_option maxRecDepth 100000 in
theorem t7_common_b4 {p : Program} {l : Launch} {e : Env} {s : State} {m : MethodId} {args : Array Value} {below : List Frame} {meth : Method} {c : Code} {r : Int32} (S : CallFix p m c cX7_common 5 s args gtbl RX7) (hr : meth.sig.returnType = (some .int)) (hlk : meth.locks = false) : ∀ (n : Nat), ∀ (x2 : Int32) (x3 : Int32), f7_common_b4  n x2 x3 = some r → ∀ (ls : Array Slot), lv_has ls 5 [(2, .int x2), (3, .int x3)] → W p l e rm7_common s m args below meth c s.heap [] 0 0 (MQ below (Qp (.int r)) args s 0 0 (fun _ => False)) (F0 m 4 ls []) := by
  obtain ⟨hx, hb, hml, hown, hts⟩ := id S
  intro n
  induction n with
  | zero =>
    intro x2 x3 h0
    cases (show none = _ from h0)
  | succ n ih =>
    intro x2 x3 h0 ls hl
    rw [f7_common_b4] at h0
    refine lv_iload_n hx hb d7_common_4 rfl (lv_at hl 1 rfl) ?_
    refine lv_if_eq (tgt := 21) hx hb d7_common_5 (by decide) (fun hc1 => ?_) (fun hc1 => ?_)
    · have h0 := og_t hc1 h0
      refine lv_iload_n hx hb d7_common_21 rfl (lv_at hl 0 rfl) ?_
      exact q_ipure S hr hlk h0 d7_common_22
    · have h0 := og_f hc1 h0
      refine lv_iload_n hx hb d7_common_8 rfl (lv_at hl 0 rfl) ?_
      refine lv_iload_n hx hb d7_common_9 rfl (lv_at hl 1 rfl) ?_
      obtain ⟨hi2, h0⟩ := og_if h0
      refine lv_irem hx hb d7_common_10 hi2 ?_
      refine lv_istore (lv' := [(4, .int (x2 - x2 / x3 * x3)), (2, .int x2), (3, .int x3)]) hx hb d7_common_11 hl (by decide) rfl (fun ls hl => ?_)
      refine lv_iload_n hx hb d7_common_13 rfl (lv_at hl 2 rfl) ?_
      refine lv_istore_n (lv' := [(2, .int x3), (4, .int (x2 - x2 / x3 * x3)), (3, .int x3)]) hx hb d7_common_14 rfl hl (by decide) rfl (fun ls hl => ?_)
      refine lv_iload hx hb d7_common_15 (lv_at hl 1 rfl) ?_
      refine lv_istore_n (lv' := [(3, .int (x2 - x2 / x3 * x3)), (2, .int x3), (4, .int (x2 - x2 / x3 * x3))]) hx hb d7_common_17 rfl hl (by decide) rfl (fun ls hl => ?_)
      refine lv_goto (tgt := 4) hx hb d7_common_18 (by decide) ?_
      exact ih x3 (x2 - x2 / x3 * x3) h0 _ (lv_sub hl [1, 0] rfl)
def f7_common (x0 : Int32) (x1 : Int32) : Option Int32 := f7_common_b4 1000 x0 x1
set_option maxHeartbeats 4000000 in
set_option maxRecDepth 100000 in
theorem c7_common (l : Launch) {x0 : Int32} {x1 : Int32} {r : Int32} (h0 : f7_common x0 x1 = some r) : Met l yX7_common (wy yX7_common cX7_common 5 (some .int)) rm7_common (Ps [.int x0, .int x1]) (Qp (.int r)) 0 0 (fun _ => False) := by
  refine mk_mets (by decide) (Nat.le_of_ble_eq_true rfl) ?_
  intro p e s m below meth c S hr hlk ls hl
  obtain ⟨hx, hb, hml, hown, hts⟩ := id S
  have hl : lv_has ls 5 [(0, .int x0), (1, .int x1)] := hl
  unfold f7_common at h0
  refine lv_iload_n hx hb d7_common_0 rfl (lv_at hl 0 rfl) ?_
  refine lv_istore_n (lv' := [(2, .int x0), (0, .int x0), (1, .int x1)]) hx hb d7_common_1 rfl hl (by decide) rfl (fun ls hl => ?_)
  refine lv_iload_n hx hb d7_common_2 rfl (lv_at hl 2 rfl) ?_
  refine lv_istore_n (lv' := [(3, .int x1), (2, .int x0), (0, .int x0), (1, .int x1)]) hx hb d7_common_3 rfl hl (by decide) rfl (fun ls hl => ?_)
  exact t7_common_b4 S hr hlk 1000 x0 x1 h0 _ (lv_sub hl [1, 0] rfl)
set_option maxHeartbeats 4000000 in
set_option maxRecDepth 100000 in
theorem k7_273 {p : Program} {l : Launch} {e : Env} {R : Room} {s : State} {m : MethodId} {args : Array Value} {below : List Frame} {meth : Method} {c : Code} {H : Heap} {locs : List Loc} {cells slots : Nat} {Q : State → Prop} {cc : ByteArray} {pc nL : Nat} {ls : Array Slot} {rest : List Value} {x0 : Int32} {x1 : Int32} {r : Int32} (S : CallFix p m c cc nL s args gtbl RX7) (h0 : f7_common x0 x1 = some r) (hf : cells + 0 ≤ R.cells ∧ slots + 0 ≤ R.slots) (hRm : rm7_common.frames + 1 ≤ R.frames ∧ 8 + (5 + 11) + rm7_common.locals ≤ R.locals) (hl : ls.size = nL) (hW : (rest.map fun v => v.category).sum ≤ 8) (hdg : decode cc pc = .ok (.invokestatic 273, 3)) (kk : W p l e R s m args below meth c H locs cells slots Q (F0 m (pc + 3) ls (.int r :: rest))) : W p l e R s m args below meth c H locs cells slots Q (F0 m pc ls (.int x1 :: .int x0 :: rest)) := r_endp (run_S (n := 2) (As := [.int x0, .int x1]) S (gw_S (gt_at 1248 (by decide +kernel) (by decide +kernel)) (gt_at 1249 (by decide +kernel) (by decide +kernel)) (gt_at 86 (by decide +kernel) (by decide +kernel)) (gt_at 1250 (by decide +kernel) (by decide +kernel))) (by decide +kernel) rfl (c7_common l h0) ⟨rfl, rfl⟩ hRm hf hl rfl hW hdg) kk
/-! FourTenGatesModel.byNow(III)I -/
abbrev rm7_byNow : Room := { frames := 1, cells := 0, slots := 0, locals := 25 }
theorem d7_byNow_0 : decode cX7_byNow 0 = .ok (.iload_n 1, 1) := by decide +kernel
theorem d7_byNow_1 : decode cX7_byNow 1 = .ok (.i2l, 1) := by decide +kernel
theorem d7_byNow_2 : decode cX7_byNow 2 = .ok (.lconst 0, 1) := by decide +kernel
theorem d7_byNow_3 : decode cX7_byNow 3 = .ok (.ldc2_w 270, 3) := by decide +kernel
theorem d7_byNow_6 : decode cX7_byNow 6 = .ok (.invokestatic 113, 3) := by decide +kernel
theorem d7_byNow_9 : decode cX7_byNow 9 = .ok (.ifCond .eq 25, 3) := by decide +kernel
theorem d7_byNow_12 : decode cX7_byNow 12 = .ok (.iload_n 2, 1) := by decide +kernel
theorem d7_byNow_13 : decode cX7_byNow 13 = .ok (.i2l, 1) := by decide +kernel
theorem d7_byNow_14 : decode cX7_byNow 14 = .ok (.lconst 0, 1) := by decide +kernel
theorem d7_byNow_15 : decode cX7_byNow 15 = .ok (.ldc2_w 270, 3) := by decide +kernel
theorem d7_byNow_18 : decode cX7_byNow 18 = .ok (.invokestatic 113, 3) := by decide +kernel
theorem d7_byNow_21 : decode cX7_byNow 21 = .ok (.ifCond .eq 13, 3) := by decide +kernel
theorem d7_byNow_24 : decode cX7_byNow 24 = .ok (.iload_n 3, 1) := by decide +kernel
theorem d7_byNow_25 : decode cX7_byNow 25 = .ok (.i2l, 1) := by decide +kernel
theorem d7_byNow_26 : decode cX7_byNow 26 = .ok (.lconst 0, 1) := by decide +kernel
theorem d7_byNow_27 : decode cX7_byNow 27 = .ok (.lconst 1, 1) := by decide +kernel
theorem d7_byNow_28 : decode cX7_byNow 28 = .ok (.invokestatic 113, 3) := by decide +kernel
theorem d7_byNow_31 : decode cX7_byNow 31 = .ok (.ifCond .ne 5, 3) := by decide +kernel
theorem d7_byNow_34 : decode cX7_byNow 34 = .ok (.iconst (-1), 1) := by decide +kernel
theorem d7_byNow_35 : decode cX7_byNow 35 = .ok (.ireturn, 1) := by decide +kernel
theorem d7_byNow_36 : decode cX7_byNow 36 = .ok (.iconst 0, 1) := by decide +kernel
theorem d7_byNow_37 : decode cX7_byNow 37 = .ok (.istore 4, 2) := by decide +kernel
theorem d7_byNow_39 : decode cX7_byNow 39 = .ok (.iconst 0, 1) := by decide +kernel
theorem d7_byNow_40 : decode cX7_byNow 40 = .ok (.istore 5, 2) := by decide +kernel
theorem d7_byNow_42 : decode cX7_byNow 42 = .ok (.iconst 0, 1) := by decide +kernel
theorem d7_byNow_43 : decode cX7_byNow 43 = .ok (.istore 6, 2) := by decide +kernel
theorem d7_byNow_45 : decode cX7_byNow 45 = .ok (.iload 6, 2) := by decide +kernel
theorem d7_byNow_47 : decode cX7_byNow 47 = .ok (.aload_n 0, 1) := by decide +kernel
theorem d7_byNow_48 : decode cX7_byNow 48 = .ok (.getfield 46, 3) := by decide +kernel
theorem d7_byNow_51 : decode cX7_byNow 51 = .ok (.iconst 0, 1) := by decide +kernel
theorem d7_byNow_52 : decode cX7_byNow 52 = .ok (.iaload, 1) := by decide +kernel
theorem d7_byNow_53 : decode cX7_byNow 53 = .ok (.if_icmp .ge 62, 3) := by decide +kernel
theorem d7_byNow_56 : decode cX7_byNow 56 = .ok (.aload_n 0, 1) := by decide +kernel
theorem d7_byNow_57 : decode cX7_byNow 57 = .ok (.getfield 49, 3) := by decide +kernel
theorem d7_byNow_60 : decode cX7_byNow 60 = .ok (.iload 6, 2) := by decide +kernel
theorem d7_byNow_62 : decode cX7_byNow 62 = .ok (.iaload, 1) := by decide +kernel
theorem d7_byNow_63 : decode cX7_byNow 63 = .ok (.iload_n 1, 1) := by decide +kernel
theorem d7_byNow_64 : decode cX7_byNow 64 = .ok (.if_icmp .le 13, 3) := by decide +kernel
theorem d7_byNow_67 : decode cX7_byNow 67 = .ok (.aload_n 0, 1) := by decide +kernel
theorem d7_byNow_68 : decode cX7_byNow 68 = .ok (.getfield 52, 3) := by decide +kernel
theorem d7_byNow_71 : decode cX7_byNow 71 = .ok (.iload 6, 2) := by decide +kernel
theorem d7_byNow_73 : decode cX7_byNow 73 = .ok (.iaload, 1) := by decide +kernel
theorem d7_byNow_74 : decode cX7_byNow 74 = .ok (.goto 4, 3) := by decide +kernel
theorem d7_byNow_77 : decode cX7_byNow 77 = .ok (.iconst 0, 1) := by decide +kernel
theorem d7_byNow_78 : decode cX7_byNow 78 = .ok (.istore 7, 2) := by decide +kernel
theorem d7_byNow_80 : decode cX7_byNow 80 = .ok (.iload 5, 2) := by decide +kernel
theorem d7_byNow_82 : decode cX7_byNow 82 = .ok (.iload 7, 2) := by decide +kernel
theorem d7_byNow_84 : decode cX7_byNow 84 = .ok (.iadd, 1) := by decide +kernel
theorem d7_byNow_85 : decode cX7_byNow 85 = .ok (.istore 5, 2) := by decide +kernel
theorem d7_byNow_87 : decode cX7_byNow 87 = .ok (.iload 4, 2) := by decide +kernel
theorem d7_byNow_89 : decode cX7_byNow 89 = .ok (.aload_n 0, 1) := by decide +kernel
theorem d7_byNow_90 : decode cX7_byNow 90 = .ok (.getfield 49, 3) := by decide +kernel
theorem d7_byNow_93 : decode cX7_byNow 93 = .ok (.iload 6, 2) := by decide +kernel
theorem d7_byNow_95 : decode cX7_byNow 95 = .ok (.iaload, 1) := by decide +kernel
theorem d7_byNow_96 : decode cX7_byNow 96 = .ok (.iload_n 2, 1) := by decide +kernel
theorem d7_byNow_97 : decode cX7_byNow 97 = .ok (.if_icmp .ne 8, 3) := by decide +kernel
theorem d7_byNow_100 : decode cX7_byNow 100 = .ok (.iload 7, 2) := by decide +kernel
theorem d7_byNow_102 : decode cX7_byNow 102 = .ok (.goto 4, 3) := by decide +kernel
theorem d7_byNow_105 : decode cX7_byNow 105 = .ok (.iconst 0, 1) := by decide +kernel
theorem d7_byNow_106 : decode cX7_byNow 106 = .ok (.iadd, 1) := by decide +kernel
theorem d7_byNow_107 : decode cX7_byNow 107 = .ok (.istore 4, 2) := by decide +kernel
theorem d7_byNow_109 : decode cX7_byNow 109 = .ok (.iinc 6 1, 3) := by decide +kernel
theorem d7_byNow_112 : decode cX7_byNow 112 = .ok (.goto (-67), 3) := by decide +kernel
theorem d7_byNow_115 : decode cX7_byNow 115 = .ok (.iload 5, 2) := by decide +kernel
theorem d7_byNow_117 : decode cX7_byNow 117 = .ok (.ifCond .ne 6, 3) := by decide +kernel
theorem d7_byNow_120 : decode cX7_byNow 120 = .ok (.bipush (-4), 2) := by decide +kernel
theorem d7_byNow_122 : decode cX7_byNow 122 = .ok (.ireturn, 1) := by decide +kernel
theorem d7_byNow_123 : decode cX7_byNow 123 = .ok (.iload 4, 2) := by decide +kernel
theorem d7_byNow_125 : decode cX7_byNow 125 = .ok (.iload 5, 2) := by decide +kernel
theorem d7_byNow_127 : decode cX7_byNow 127 = .ok (.invokestatic 273, 3) := by decide +kernel
theorem d7_byNow_130 : decode cX7_byNow 130 = .ok (.istore 6, 2) := by decide +kernel
theorem d7_byNow_132 : decode cX7_byNow 132 = .ok (.iload_n 3, 1) := by decide +kernel
theorem d7_byNow_133 : decode cX7_byNow 133 = .ok (.ifCond .ne 11, 3) := by decide +kernel
theorem d7_byNow_136 : decode cX7_byNow 136 = .ok (.iload 4, 2) := by decide +kernel
theorem d7_byNow_138 : decode cX7_byNow 138 = .ok (.iload 6, 2) := by decide +kernel
theorem d7_byNow_140 : decode cX7_byNow 140 = .ok (.idiv, 1) := by decide +kernel
theorem d7_byNow_141 : decode cX7_byNow 141 = .ok (.goto 8, 3) := by decide +kernel
theorem d7_byNow_144 : decode cX7_byNow 144 = .ok (.iload 5, 2) := by decide +kernel
theorem d7_byNow_146 : decode cX7_byNow 146 = .ok (.iload 6, 2) := by decide +kernel
theorem d7_byNow_148 : decode cX7_byNow 148 = .ok (.idiv, 1) := by decide +kernel
theorem d7_byNow_149 : decode cX7_byNow 149 = .ok (.ireturn, 1) := by decide +kernel
def f7_byNow_b78 (σ : Mem) (k45 : Int32 → Int32 → Int32 → Int32 → Int32 → Int32 → Option Int32) (x1 : Int32) (x2 : Int32) (x3 : Int32) (x4 : Int32) (x5 : Int32) (x6 : Int32) (s0 : Int32) : Option Int32 := if ¬ (x6 < 0 ∨ 10 ≤ x6.toNatClampNeg) then if (σ 15 x6.toNatClampNeg) = x2 then k45 x1 x2 x3 (x4 + s0) (x5 + s0) (x6 + 1) else k45 x1 x2 x3 (x4 + 0) (x5 + s0) (x6 + 1) else none
set_option maxHeartbeats 4000000 in
set_option maxRecDepth 100000 in
theorem t7_byNow_b78 {p : Program} {l : Launch} {e : Env} {s : State} {m : MethodId} {args : Array Value} {below : List Frame} {meth : Method} {c : Code} {w : WV} {σ : Mem} {r : Int32} {k45 : Int32 → Int32 → Int32 → Int32 → Int32 → Int32 → Option Int32} (S : CallFix p m c cX7_byNow 8 s args gtbl RX7) (hr : meth.sig.returnType = (some .int)) (hlk : meth.locks = false) (hK : KS LM w s) (hR : Rp EM LM w σ s.heap) (hk45 : ∀ (x1 : Int32) (x2 : Int32) (x3 : Int32) (x4 : Int32) (x5 : Int32) (x6 : Int32), k45 x1 x2 x3 x4 x5 x6 = some r → ∀ (ls : Array Slot), lv_has ls 8 [(0, .ref (w.2.2 0)), (1, .int x1), (2, .int x2), (3, .int x3), (4, .int x4), (5, .int x5), (6, .int x6)] → W p l e rm7_byNow s m args below meth c s.heap [] 0 0 (MQ below (Qp (.int r)) args s 0 0 (fun _ => False)) (F0 m 45 ls [])) : ∀ (x1 : Int32) (x2 : Int32) (x3 : Int32) (x4 : Int32) (x5 : Int32) (x6 : Int32) (s0 : Int32), f7_byNow_b78 σ k45 x1 x2 x3 x4 x5 x6 s0 = some r → ∀ (ls : Array Slot), lv_has ls 8 [(0, .ref (w.2.2 0)), (1, .int x1), (2, .int x2), (3, .int x3), (4, .int x4), (5, .int x5), (6, .int x6)] → W p l e rm7_byNow s m args below meth c s.heap [] 0 0 (MQ below (Qp (.int r)) args s 0 0 (fun _ => False)) (F0 m 78 ls [.int s0]) := by
  obtain ⟨hx, hb, hml, hown, hts⟩ := id S
  intro x1 x2 x3 x4 x5 x6 s0 h0 ls hl
  unfold f7_byNow_b78 at h0
  refine lv_istore (lv' := [(7, .int s0), (0, .ref (w.2.2 0)), (1, .int x1), (2, .int x2), (3, .int x3), (4, .int x4), (5, .int x5), (6, .int x6)]) hx hb d7_byNow_78 hl (by decide) rfl (fun ls hl => ?_)
  refine lv_iload hx hb d7_byNow_80 (lv_at hl 6 rfl) ?_
  refine lv_iload hx hb d7_byNow_82 (lv_at hl 0 rfl) ?_
  refine lv_iadd hx hb d7_byNow_84 ?_
  refine lv_istore (lv' := [(5, .int (x5 + s0)), (7, .int s0), (0, .ref (w.2.2 0)), (1, .int x1), (2, .int x2), (3, .int x3), (4, .int x4), (6, .int x6)]) hx hb d7_byNow_85 hl (by decide) rfl (fun ls hl => ?_)
  refine lv_iload hx hb d7_byNow_87 (lv_at hl 6 rfl) ?_
  refine lv_aload_n hx hb d7_byNow_89 rfl (lv_at hl 2 rfl) ?_
  refine g7_49 S hK hR d7_byNow_90 ?_
  refine lv_iload hx hb d7_byNow_93 (lv_at hl 7 rfl) ?_
  obtain ⟨hi1, h0⟩ := og_if h0
  refine q_ld (k := x6.toNatClampNeg) S hK hR (by decide) (eM_114 w _) hi1 rfl d7_byNow_95 ?_
  refine lv_iload_n hx hb d7_byNow_96 rfl (lv_at hl 4 rfl) ?_
  refine lv_icmp_ne (tgt := 105) hx hb d7_byNow_97 (by decide) (fun hc2 => ?_) (fun hc2 => ?_)
  · have h0 := og_f hc2 h0
    refine lv_iconst (v := 0) hx hb d7_byNow_105 (by decide) ?_
    refine lv_iadd hx hb d7_byNow_106 ?_
    refine lv_istore (lv' := [(4, .int (x4 + 0)), (5, .int (x5 + s0)), (7, .int s0), (0, .ref (w.2.2 0)), (1, .int x1), (2, .int x2), (3, .int x3), (6, .int x6)]) hx hb d7_byNow_107 hl (by decide) rfl (fun ls hl => ?_)
    refine lv_iinc (v := x6 + 1) (lv' := [(6, .int (x6 + 1)), (4, .int (x4 + 0)), (5, .int (x5 + s0)), (7, .int s0), (0, .ref (w.2.2 0)), (1, .int x1), (2, .int x2), (3, .int x3)]) hx hb d7_byNow_109 hl (k := 7) rfl (ii1 _) (by decide) rfl (fun ls hl => ?_)
    refine lv_goto (tgt := 45) hx hb d7_byNow_112 (by decide) ?_
    exact hk45 x1 x2 x3 (x4 + 0) (x5 + s0) (x6 + 1) h0 _ (lv_sub hl [4, 5, 6, 7, 1, 2, 0] rfl)
  · have h0 := og_t hc2 h0
    refine lv_iload hx hb d7_byNow_100 (lv_at hl 1 rfl) ?_
    refine lv_goto (tgt := 106) hx hb d7_byNow_102 (by decide) ?_
    refine lv_iadd hx hb d7_byNow_106 ?_
    refine lv_istore (lv' := [(4, .int (x4 + s0)), (5, .int (x5 + s0)), (7, .int s0), (0, .ref (w.2.2 0)), (1, .int x1), (2, .int x2), (3, .int x3), (6, .int x6)]) hx hb d7_byNow_107 hl (by decide) rfl (fun ls hl => ?_)
    refine lv_iinc (v := x6 + 1) (lv' := [(6, .int (x6 + 1)), (4, .int (x4 + s0)), (5, .int (x5 + s0)), (7, .int s0), (0, .ref (w.2.2 0)), (1, .int x1), (2, .int x2), (3, .int x3)]) hx hb d7_byNow_109 hl (k := 7) rfl (ii1 _) (by decide) rfl (fun ls hl => ?_)
    refine lv_goto (tgt := 45) hx hb d7_byNow_112 (by decide) ?_
    exact hk45 x1 x2 x3 (x4 + s0) (x5 + s0) (x6 + 1) h0 _ (lv_sub hl [4, 5, 6, 7, 1, 2, 0] rfl)
def f7_byNow_b45 (σ : Mem) : Nat → Int32 → Int32 → Int32 → Int32 → Int32 → Int32 → Option Int32
  | 0, _, _, _, _, _, _ => none
  | n + 1, x1, x2, x3, x4, x5, x6 => if (σ 14 0) ≤ x6 then if x5 = 0 then some (-4) else Option.bind (f7_common x4 x5) fun r3 => if x3 = 0 then if ¬ r3 = 0 then some (x4 / r3) else none else if ¬ r3 = 0 then some (x5 / r3) else none else if ¬ (x6 < 0 ∨ 10 ≤ x6.toNatClampNeg) then if (σ 15 x6.toNatClampNeg) ≤ x1 then f7_byNow_b78 σ (f7_byNow_b45 σ n) x1 x2 x3 x4 x5 x6 0 else if ¬ (x6 < 0 ∨ 10 ≤ x6.toNatClampNeg) then f7_byNow_b78 σ (f7_byNow_b45 σ n) x1 x2 x3 x4 x5 x6 (σ 16 x6.toNatClampNeg) else none else none
set_option maxHeartbeats 4000000 in
set_option maxRecDepth 100000 in
theorem t7_byNow_b45 {p : Program} {l : Launch} {e : Env} {s : State} {m : MethodId} {args : Array Value} {below : List Frame} {meth : Method} {c : Code} {w : WV} {σ : Mem} {r : Int32} (S : CallFix p m c cX7_byNow 8 s args gtbl RX7) (hr : meth.sig.returnType = (some .int)) (hlk : meth.locks = false) (hK : KS LM w s) (hR : Rp EM LM w σ s.heap) : ∀ (n : Nat), ∀ (x1 : Int32) (x2 : Int32) (x3 : Int32) (x4 : Int32) (x5 : Int32) (x6 : Int32), f7_byNow_b45 σ n x1 x2 x3 x4 x5 x6 = some r → ∀ (ls : Array Slot), lv_has ls 8 [(0, .ref (w.2.2 0)), (1, .int x1), (2, .int x2), (3, .int x3), (4, .int x4), (5, .int x5), (6, .int x6)] → W p l e rm7_byNow s m args below meth c s.heap [] 0 0 (MQ below (Qp (.int r)) args s 0 0 (fun _ => False)) (F0 m 45 ls []) := by
  obtain ⟨hx, hb, hml, hown, hts⟩ := id S
  intro n
  induction n with
  | zero =>
    intro x1 x2 x3 x4 x5 x6 h0
    cases (show none = _ from h0)
  | succ n ih =>
    intro x1 x2 x3 x4 x5 x6 h0 ls hl
    rw [f7_byNow_b45] at h0
    refine lv_iload hx hb d7_byNow_45 (lv_at hl 6 rfl) ?_
    refine lv_aload_n hx hb d7_byNow_47 rfl (lv_at hl 0 rfl) ?_
    refine g7_46 S hK hR d7_byNow_48 ?_
    refine lv_iconst (v := 0) hx hb d7_byNow_51 (by decide) ?_
    refine q_ld (k := 0) S hK hR (by decide) (eM_113 w _) (vin (by decide)) (by decide) d7_byNow_52 ?_
    refine lv_icmp_ge (tgt := 115) hx hb d7_byNow_53 (by decide) (fun hc1 => ?_) (fun hc1 => ?_)
    · have h0 := og_t hc1 h0
      refine lv_iload hx hb d7_byNow_115 (lv_at hl 5 rfl) ?_
      refine lv_if_ne (tgt := 123) hx hb d7_byNow_117 (by decide) (fun hc2 => ?_) (fun hc2 => ?_)
      · have h0 := og_f hc2 h0
        refine lv_iload hx hb d7_byNow_123 (lv_at hl 4 rfl) ?_
        refine lv_iload hx hb d7_byNow_125 (lv_at hl 5 rfl) ?_
        obtain ⟨r3, hr3, h0⟩ := og_b h0
        refine k7_273 S  hr3 ⟨Nat.zero_le _, Nat.zero_le _⟩ ⟨Nat.le_of_ble_eq_true rfl, Nat.le_of_ble_eq_true rfl⟩ hl.1 (Nat.le_of_ble_eq_true rfl) d7_byNow_127 ?_
        refine lv_istore (lv' := [(6, .int r3), (0, .ref (w.2.2 0)), (1, .int x1), (2, .int x2), (3, .int x3), (4, .int x4), (5, .int x5)]) hx hb d7_byNow_130 hl (by decide) rfl (fun ls hl => ?_)
        refine lv_iload_n hx hb d7_byNow_132 rfl (lv_at hl 4 rfl) ?_
        refine lv_if_ne (tgt := 144) hx hb d7_byNow_133 (by decide) (fun hc4 => ?_) (fun hc4 => ?_)
        · have h0 := og_f hc4 h0
          refine lv_iload hx hb d7_byNow_144 (lv_at hl 6 rfl) ?_
          refine lv_iload hx hb d7_byNow_146 (lv_at hl 0 rfl) ?_
          obtain ⟨hi5, h0⟩ := og_if h0
          refine lv_idiv hx hb d7_byNow_148 hi5 ?_
          exact q_ipure S hr hlk h0 d7_byNow_149
        · have h0 := og_t hc4 h0
          refine lv_iload hx hb d7_byNow_136 (lv_at hl 5 rfl) ?_
          refine lv_iload hx hb d7_byNow_138 (lv_at hl 0 rfl) ?_
          obtain ⟨hi5, h0⟩ := og_if h0
          refine lv_idiv hx hb d7_byNow_140 hi5 ?_
          refine lv_goto (tgt := 149) hx hb d7_byNow_141 (by decide) ?_
          exact q_ipure S hr hlk h0 d7_byNow_149
      · have h0 := og_t hc2 h0
        refine lv_bipush (v := (-4)) hx hb d7_byNow_120 (by decide) ?_
        exact q_ipure S hr hlk h0 d7_byNow_122
    · have h0 := og_f hc1 h0
      refine lv_aload_n hx hb d7_byNow_56 rfl (lv_at hl 0 rfl) ?_
      refine g7_49 S hK hR d7_byNow_57 ?_
      refine lv_iload hx hb d7_byNow_60 (lv_at hl 6 rfl) ?_
      obtain ⟨hi2, h0⟩ := og_if h0
      refine q_ld (k := x6.toNatClampNeg) S hK hR (by decide) (eM_114 w _) hi2 rfl d7_byNow_62 ?_
      refine lv_iload_n hx hb d7_byNow_63 rfl (lv_at hl 1 rfl) ?_
      refine lv_icmp_le (tgt := 77) hx hb d7_byNow_64 (by decide) (fun hc3 => ?_) (fun hc3 => ?_)
      · have h0 := og_t hc3 h0
        refine lv_iconst (v := 0) hx hb d7_byNow_77 (by decide) ?_
        exact t7_byNow_b78 S hr hlk hK hR ih x1 x2 x3 x4 x5 x6 0 h0 _ (lv_sub hl [0, 1, 2, 3, 4, 5, 6] rfl)
      · have h0 := og_f hc3 h0
        refine lv_aload_n hx hb d7_byNow_67 rfl (lv_at hl 0 rfl) ?_
        refine g7_52 S hK hR d7_byNow_68 ?_
        refine lv_iload hx hb d7_byNow_71 (lv_at hl 6 rfl) ?_
        obtain ⟨hi4, h0⟩ := og_if h0
        refine q_ld (k := x6.toNatClampNeg) S hK hR (by decide) (eM_115 w _) hi4 rfl d7_byNow_73 ?_
        refine lv_goto (tgt := 78) hx hb d7_byNow_74 (by decide) ?_
        exact t7_byNow_b78 S hr hlk hK hR ih x1 x2 x3 x4 x5 x6 (σ 16 x6.toNatClampNeg) h0 _ (lv_sub hl [0, 1, 2, 3, 4, 5, 6] rfl)
def f7_byNow (σ : Mem) (x1 : Int32) (x2 : Int32) (x3 : Int32) : Option Int32 := Option.bind (f7_in x1.toInt64 (0 : Int64) (9 : Int64)) fun r1 => if r1 = 0 then some (-1) else Option.bind (f7_in x2.toInt64 (0 : Int64) (9 : Int64)) fun r3 => if r3 = 0 then some (-1) else Option.bind (f7_in x3.toInt64 (0 : Int64) (1 : Int64)) fun r5 => if r5 = 0 then some (-1) else f7_byNow_b45 σ 1000 x1 x2 x3 0 0 0
set_option maxHeartbeats 4000000 in
set_option maxRecDepth 100000 in
theorem c7_byNow (l : Launch) {w : WV} {σ : Mem} {x1 : Int32} {x2 : Int32} {x3 : Int32} {r : Int32} (h0 : f7_byNow σ x1 x2 x3 = some r) : Met l yX7_byNow (wy yX7_byNow cX7_byNow 8 (some .int)) rm7_byNow (Pw EM LM w [.ref (w.2.2 0), .int x1, .int x2, .int x3] σ) (Qp (.int r)) 0 0 (fun _ => False) := by
  refine mk_met (by decide) (Nat.le_of_ble_eq_true rfl) ?_
  intro p e s m below meth c S hr hlk hK hR ls hl
  obtain ⟨hx, hb, hml, hown, hts⟩ := id S
  have hl : lv_has ls 8 [(0, .ref (w.2.2 0)), (1, .int x1), (2, .int x2), (3, .int x3)] := hl
  unfold f7_byNow at h0
  refine lv_iload_n hx hb d7_byNow_0 rfl (lv_at hl 1 rfl) ?_
  refine lv_i2l hx hb d7_byNow_1 rfl ?_
  refine lv_lconst (v := 0) hx hb d7_byNow_2 (by decide) ?_
  refine lv_ldc2 (v := 9) hx hb hown (hts _ (gt_at 1238 (by decide +kernel) (by decide +kernel))) d7_byNow_3 ?_
  obtain ⟨r1, hr1, h0⟩ := og_b h0
  refine k7_113 S  hr1 ⟨Nat.zero_le _, Nat.zero_le _⟩ ⟨Nat.le_of_ble_eq_true rfl, Nat.le_of_ble_eq_true rfl⟩ hl.1 (Nat.le_of_ble_eq_true rfl) d7_byNow_6 ?_
  refine lv_if_eq (tgt := 34) hx hb d7_byNow_9 (by decide) (fun hc2 => ?_) (fun hc2 => ?_)
  · have h0 := og_t hc2 h0
    refine lv_iconst (v := (-1)) hx hb d7_byNow_34 (by decide) ?_
    exact q_ipure S hr hlk h0 d7_byNow_35
  · have h0 := og_f hc2 h0
    refine lv_iload_n hx hb d7_byNow_12 rfl (lv_at hl 2 rfl) ?_
    refine lv_i2l hx hb d7_byNow_13 rfl ?_
    refine lv_lconst (v := 0) hx hb d7_byNow_14 (by decide) ?_
    refine lv_ldc2 (v := 9) hx hb hown (hts _ (gt_at 1238 (by decide +kernel) (by decide +kernel))) d7_byNow_15 ?_
    obtain ⟨r3, hr3, h0⟩ := og_b h0
    refine k7_113 S  hr3 ⟨Nat.zero_le _, Nat.zero_le _⟩ ⟨Nat.le_of_ble_eq_true rfl, Nat.le_of_ble_eq_true rfl⟩ hl.1 (Nat.le_of_ble_eq_true rfl) d7_byNow_18 ?_
    refine lv_if_eq (tgt := 34) hx hb d7_byNow_21 (by decide) (fun hc4 => ?_) (fun hc4 => ?_)
    · have h0 := og_t hc4 h0
      refine lv_iconst (v := (-1)) hx hb d7_byNow_34 (by decide) ?_
      exact q_ipure S hr hlk h0 d7_byNow_35
    · have h0 := og_f hc4 h0
      refine lv_iload_n hx hb d7_byNow_24 rfl (lv_at hl 3 rfl) ?_
      refine lv_i2l hx hb d7_byNow_25 rfl ?_
      refine lv_lconst (v := 0) hx hb d7_byNow_26 (by decide) ?_
      refine lv_lconst (v := 1) hx hb d7_byNow_27 (by decide) ?_
      obtain ⟨r5, hr5, h0⟩ := og_b h0
      refine k7_113 S  hr5 ⟨Nat.zero_le _, Nat.zero_le _⟩ ⟨Nat.le_of_ble_eq_true rfl, Nat.le_of_ble_eq_true rfl⟩ hl.1 (Nat.le_of_ble_eq_true rfl) d7_byNow_28 ?_
      refine lv_if_ne (tgt := 36) hx hb d7_byNow_31 (by decide) (fun hc6 => ?_) (fun hc6 => ?_)
      · have h0 := og_f hc6 h0
        refine lv_iconst (v := 0) hx hb d7_byNow_36 (by decide) ?_
        refine lv_istore (lv' := [(4, .int 0), (0, .ref (w.2.2 0)), (1, .int x1), (2, .int x2), (3, .int x3)]) hx hb d7_byNow_37 hl (by decide) rfl (fun ls hl => ?_)
        refine lv_iconst (v := 0) hx hb d7_byNow_39 (by decide) ?_
        refine lv_istore (lv' := [(5, .int 0), (4, .int 0), (0, .ref (w.2.2 0)), (1, .int x1), (2, .int x2), (3, .int x3)]) hx hb d7_byNow_40 hl (by decide) rfl (fun ls hl => ?_)
        refine lv_iconst (v := 0) hx hb d7_byNow_42 (by decide) ?_
        refine lv_istore (lv' := [(6, .int 0), (5, .int 0), (4, .int 0), (0, .ref (w.2.2 0)), (1, .int x1), (2, .int x2), (3, .int x3)]) hx hb d7_byNow_43 hl (by decide) rfl (fun ls hl => ?_)
        exact t7_byNow_b45 S hr hlk hK hR 1000 x1 x2 x3 0 0 0 h0 _ (lv_sub hl [3, 4, 5, 6, 2, 1, 0] rfl)
      · have h0 := og_t hc6 h0
        refine lv_iconst (v := (-1)) hx hb d7_byNow_34 (by decide) ?_
        exact q_ipure S hr hlk h0 d7_byNow_35
/-! FourTenGatesModel.which(I)I -/
abbrev rm7_which : Room := { frames := 2, cells := 0, slots := 0, locals := 44 }
theorem d7_which_0 : decode cX7_which 0 = .ok (.iload_n 1, 1) := by decide +kernel
theorem d7_which_1 : decode cX7_which 1 = .ok (.i2l, 1) := by decide +kernel
theorem d7_which_2 : decode cX7_which 2 = .ok (.lconst 0, 1) := by decide +kernel
theorem d7_which_3 : decode cX7_which 3 = .ok (.ldc2_w 266, 3) := by decide +kernel
theorem d7_which_6 : decode cX7_which 6 = .ok (.invokestatic 113, 3) := by decide +kernel
theorem d7_which_9 : decode cX7_which 9 = .ok (.ifCond .ne 5, 3) := by decide +kernel
theorem d7_which_12 : decode cX7_which 12 = .ok (.iconst (-1), 1) := by decide +kernel
theorem d7_which_13 : decode cX7_which 13 = .ok (.ireturn, 1) := by decide +kernel
theorem d7_which_14 : decode cX7_which 14 = .ok (.iconst 0, 1) := by decide +kernel
theorem d7_which_15 : decode cX7_which 15 = .ok (.istore_n 2, 1) := by decide +kernel
theorem d7_which_16 : decode cX7_which 16 = .ok (.iconst 0, 1) := by decide +kernel
theorem d7_which_17 : decode cX7_which 17 = .ok (.istore_n 3, 1) := by decide +kernel
theorem d7_which_18 : decode cX7_which 18 = .ok (.iload_n 3, 1) := by decide +kernel
theorem d7_which_19 : decode cX7_which 19 = .ok (.aload_n 0, 1) := by decide +kernel
theorem d7_which_20 : decode cX7_which 20 = .ok (.getfield 13, 3) := by decide +kernel
theorem d7_which_23 : decode cX7_which 23 = .ok (.iconst 0, 1) := by decide +kernel
theorem d7_which_24 : decode cX7_which 24 = .ok (.iaload, 1) := by decide +kernel
theorem d7_which_25 : decode cX7_which 25 = .ok (.if_icmp .ge 31, 3) := by decide +kernel
theorem d7_which_28 : decode cX7_which 28 = .ok (.iload_n 2, 1) := by decide +kernel
theorem d7_which_29 : decode cX7_which 29 = .ok (.aload_n 0, 1) := by decide +kernel
theorem d7_which_30 : decode cX7_which 30 = .ok (.iload_n 3, 1) := by decide +kernel
theorem d7_which_31 : decode cX7_which 31 = .ok (.invokevirtual 176, 3) := by decide +kernel
theorem d7_which_34 : decode cX7_which 34 = .ok (.bipush 6, 2) := by decide +kernel
theorem d7_which_36 : decode cX7_which 36 = .ok (.idiv, 1) := by decide +kernel
theorem d7_which_37 : decode cX7_which 37 = .ok (.iload_n 1, 1) := by decide +kernel
theorem d7_which_38 : decode cX7_which 38 = .ok (.if_icmp .ne 9, 3) := by decide +kernel
theorem d7_which_41 : decode cX7_which 41 = .ok (.iconst 1, 1) := by decide +kernel
theorem d7_which_42 : decode cX7_which 42 = .ok (.iload_n 3, 1) := by decide +kernel
theorem d7_which_43 : decode cX7_which 43 = .ok (.ishl, 1) := by decide +kernel
theorem d7_which_44 : decode cX7_which 44 = .ok (.goto 4, 3) := by decide +kernel
theorem d7_which_47 : decode cX7_which 47 = .ok (.iconst 0, 1) := by decide +kernel
theorem d7_which_48 : decode cX7_which 48 = .ok (.ior, 1) := by decide +kernel
theorem d7_which_49 : decode cX7_which 49 = .ok (.istore_n 2, 1) := by decide +kernel
theorem d7_which_50 : decode cX7_which 50 = .ok (.iinc 3 1, 3) := by decide +kernel
theorem d7_which_53 : decode cX7_which 53 = .ok (.goto (-35), 3) := by decide +kernel
theorem d7_which_56 : decode cX7_which 56 = .ok (.iload_n 2, 1) := by decide +kernel
theorem d7_which_57 : decode cX7_which 57 = .ok (.ireturn, 1) := by decide +kernel
def f7_which_b18 (σ : Mem) : Nat → Int32 → Int32 → Int32 → Option Int32
  | 0, _, _, _ => none
  | n + 1, x1, x2, x3 => if (σ 3 0) ≤ x3 then some x2 else Option.bind (f7_bellOf σ x3) fun r2 => if (r2 / 6) = x1 then f7_which_b18 σ n x1 (x2 ||| (1 <<< (x3 &&& 31))) (x3 + 1) else f7_which_b18 σ n x1 (x2 ||| 0) (x3 + 1)
set_option maxHeartbeats 4000000 in
set_option maxRecDepth 100000 in
theorem t7_which_b18 {p : Program} {l : Launch} {e : Env} {s : State} {m : MethodId} {args : Array Value} {below : List Frame} {meth : Method} {c : Code} {w : WV} {σ : Mem} {r : Int32} (S : CallFix p m c cX7_which 4 s args gtbl RX7) (hr : meth.sig.returnType = (some .int)) (hlk : meth.locks = false) (hK : KS LM w s) (hR : Rp EM LM w σ s.heap) : ∀ (n : Nat), ∀ (x1 : Int32) (x2 : Int32) (x3 : Int32), f7_which_b18 σ n x1 x2 x3 = some r → ∀ (ls : Array Slot), lv_has ls 4 [(0, .ref (w.2.2 0)), (1, .int x1), (2, .int x2), (3, .int x3)] → W p l e rm7_which s m args below meth c s.heap [] 0 0 (MQ below (Qp (.int r)) args s 0 0 (fun _ => False)) (F0 m 18 ls []) := by
  obtain ⟨hx, hb, hml, hown, hts⟩ := id S
  intro n
  induction n with
  | zero =>
    intro x1 x2 x3 h0
    cases (show none = _ from h0)
  | succ n ih =>
    intro x1 x2 x3 h0 ls hl
    rw [f7_which_b18] at h0
    refine lv_iload_n hx hb d7_which_18 rfl (lv_at hl 3 rfl) ?_
    refine lv_aload_n hx hb d7_which_19 rfl (lv_at hl 0 rfl) ?_
    refine g7_13 S hK hR d7_which_20 ?_
    refine lv_iconst (v := 0) hx hb d7_which_23 (by decide) ?_
    refine q_ld (k := 0) S hK hR (by decide) (eM_102 w _) (vin (by decide)) (by decide) d7_which_24 ?_
    refine lv_icmp_ge (tgt := 56) hx hb d7_which_25 (by decide) (fun hc1 => ?_) (fun hc1 => ?_)
    · have h0 := og_t hc1 h0
      refine lv_iload_n hx hb d7_which_56 rfl (lv_at hl 2 rfl) ?_
      exact q_ipure S hr hlk h0 d7_which_57
    · have h0 := og_f hc1 h0
      refine lv_iload_n hx hb d7_which_28 rfl (lv_at hl 2 rfl) ?_
      refine lv_aload_n hx hb d7_which_29 rfl (lv_at hl 0 rfl) ?_
      refine lv_iload_n hx hb d7_which_30 rfl (lv_at hl 3 rfl) ?_
      obtain ⟨r2, hr2, h0⟩ := og_b h0
      refine k7_176 S hK hR  hr2 ⟨Nat.zero_le _, Nat.zero_le _⟩ ⟨Nat.le_of_ble_eq_true rfl, Nat.le_of_ble_eq_true rfl⟩ hl.1 (Nat.le_of_ble_eq_true rfl) d7_which_31 ?_
      refine lv_bipush (v := 6) hx hb d7_which_34 (by decide) ?_
      refine lv_idiv hx hb d7_which_36 (by decide) ?_
      refine lv_iload_n hx hb d7_which_37 rfl (lv_at hl 1 rfl) ?_
      refine lv_icmp_ne (tgt := 47) hx hb d7_which_38 (by decide) (fun hc3 => ?_) (fun hc3 => ?_)
      · have h0 := og_f hc3 h0
        refine lv_iconst (v := 0) hx hb d7_which_47 (by decide) ?_
        refine lv_ior hx hb d7_which_48 ?_
        refine lv_istore_n (lv' := [(2, .int (x2 ||| 0)), (0, .ref (w.2.2 0)), (1, .int x1), (3, .int x3)]) hx hb d7_which_49 rfl hl (by decide) rfl (fun ls hl => ?_)
        refine lv_iinc (v := x3 + 1) (lv' := [(3, .int (x3 + 1)), (2, .int (x2 ||| 0)), (0, .ref (w.2.2 0)), (1, .int x1)]) hx hb d7_which_50 hl (k := 3) rfl (ii1 _) (by decide) rfl (fun ls hl => ?_)
        refine lv_goto (tgt := 18) hx hb d7_which_53 (by decide) ?_
        exact ih x1 (x2 ||| 0) (x3 + 1) h0 _ (lv_sub hl [2, 3, 1, 0] rfl)
      · have h0 := og_t hc3 h0
        refine lv_iconst (v := 1) hx hb d7_which_41 (by decide) ?_
        refine lv_iload_n hx hb d7_which_42 rfl (lv_at hl 3 rfl) ?_
        refine lv_ishl hx hb d7_which_43 ?_
        refine lv_goto (tgt := 48) hx hb d7_which_44 (by decide) ?_
        refine lv_ior hx hb d7_which_48 ?_
        refine lv_istore_n (lv' := [(2, .int (x2 ||| (1 <<< (x3 &&& 31)))), (0, .ref (w.2.2 0)), (1, .int x1), (3, .int x3)]) hx hb d7_which_49 rfl hl (by decide) rfl (fun ls hl => ?_)
        refine lv_iinc (v := x3 + 1) (lv' := [(3, .int (x3 + 1)), (2, .int (x2 ||| (1 <<< (x3 &&& 31)))), (0, .ref (w.2.2 0)), (1, .int x1)]) hx hb d7_which_50 hl (k := 3) rfl (ii1 _) (by decide) rfl (fun ls hl => ?_)
        refine lv_goto (tgt := 18) hx hb d7_which_53 (by decide) ?_
        exact ih x1 (x2 ||| (1 <<< (x3 &&& 31))) (x3 + 1) h0 _ (lv_sub hl [2, 3, 1, 0] rfl)
def f7_which (σ : Mem) (x1 : Int32) : Option Int32 := Option.bind (f7_in x1.toInt64 (0 : Int64) (59 : Int64)) fun r1 => if r1 = 0 then some (-1) else f7_which_b18 σ 1000 x1 0 0
set_option maxHeartbeats 4000000 in
set_option maxRecDepth 100000 in
theorem c7_which (l : Launch) {w : WV} {σ : Mem} {x1 : Int32} {r : Int32} (h0 : f7_which σ x1 = some r) : Met l yX7_which (wy yX7_which cX7_which 4 (some .int)) rm7_which (Pw EM LM w [.ref (w.2.2 0), .int x1] σ) (Qp (.int r)) 0 0 (fun _ => False) := by
  refine mk_met (by decide) (Nat.le_of_ble_eq_true rfl) ?_
  intro p e s m below meth c S hr hlk hK hR ls hl
  obtain ⟨hx, hb, hml, hown, hts⟩ := id S
  have hl : lv_has ls 4 [(0, .ref (w.2.2 0)), (1, .int x1)] := hl
  unfold f7_which at h0
  refine lv_iload_n hx hb d7_which_0 rfl (lv_at hl 1 rfl) ?_
  refine lv_i2l hx hb d7_which_1 rfl ?_
  refine lv_lconst (v := 0) hx hb d7_which_2 (by decide) ?_
  refine lv_ldc2 (v := 59) hx hb hown (hts _ (gt_at 1216 (by decide +kernel) (by decide +kernel))) d7_which_3 ?_
  obtain ⟨r1, hr1, h0⟩ := og_b h0
  refine k7_113 S  hr1 ⟨Nat.zero_le _, Nat.zero_le _⟩ ⟨Nat.le_of_ble_eq_true rfl, Nat.le_of_ble_eq_true rfl⟩ hl.1 (Nat.le_of_ble_eq_true rfl) d7_which_6 ?_
  refine lv_if_ne (tgt := 14) hx hb d7_which_9 (by decide) (fun hc2 => ?_) (fun hc2 => ?_)
  · have h0 := og_f hc2 h0
    refine lv_iconst (v := 0) hx hb d7_which_14 (by decide) ?_
    refine lv_istore_n (lv' := [(2, .int 0), (0, .ref (w.2.2 0)), (1, .int x1)]) hx hb d7_which_15 rfl hl (by decide) rfl (fun ls hl => ?_)
    refine lv_iconst (v := 0) hx hb d7_which_16 (by decide) ?_
    refine lv_istore_n (lv' := [(3, .int 0), (2, .int 0), (0, .ref (w.2.2 0)), (1, .int x1)]) hx hb d7_which_17 rfl hl (by decide) rfl (fun ls hl => ?_)
    exact t7_which_b18 S hr hlk hK hR 1000 x1 0 0 h0 _ (lv_sub hl [2, 3, 1, 0] rfl)
  · have h0 := og_t hc2 h0
    refine lv_iconst (v := (-1)) hx hb d7_which_12 (by decide) ?_
    exact q_ipure S hr hlk h0 d7_which_13
/-! FourTenGatesModel.seen(II)I -/
abbrev rm7_seen : Room := { frames := 1, cells := 0, slots := 0, locals := 25 }
theorem d7_seen_0 : decode cX7_seen 0 = .ok (.iload_n 1, 1) := by decide +kernel
theorem d7_seen_1 : decode cX7_seen 1 = .ok (.i2l, 1) := by decide +kernel
theorem d7_seen_2 : decode cX7_seen 2 = .ok (.lconst 0, 1) := by decide +kernel
theorem d7_seen_3 : decode cX7_seen 3 = .ok (.ldc2_w 255, 3) := by decide +kernel
theorem d7_seen_6 : decode cX7_seen 6 = .ok (.invokestatic 113, 3) := by decide +kernel
theorem d7_seen_9 : decode cX7_seen 9 = .ok (.ifCond .eq 15, 3) := by decide +kernel
theorem d7_seen_12 : decode cX7_seen 12 = .ok (.iload_n 2, 1) := by decide +kernel
theorem d7_seen_13 : decode cX7_seen 13 = .ok (.i2l, 1) := by decide +kernel
theorem d7_seen_14 : decode cX7_seen 14 = .ok (.lconst 0, 1) := by decide +kernel
theorem d7_seen_15 : decode cX7_seen 15 = .ok (.ldc2_w 132, 3) := by decide +kernel
theorem d7_seen_18 : decode cX7_seen 18 = .ok (.invokestatic 113, 3) := by decide +kernel
theorem d7_seen_21 : decode cX7_seen 21 = .ok (.ifCond .ne 5, 3) := by decide +kernel
theorem d7_seen_24 : decode cX7_seen 24 = .ok (.iconst (-1), 1) := by decide +kernel
theorem d7_seen_25 : decode cX7_seen 25 = .ok (.ireturn, 1) := by decide +kernel
theorem d7_seen_26 : decode cX7_seen 26 = .ok (.aload_n 0, 1) := by decide +kernel
theorem d7_seen_27 : decode cX7_seen 27 = .ok (.getfield 165, 3) := by decide +kernel
theorem d7_seen_30 : decode cX7_seen 30 = .ok (.bipush 8, 2) := by decide +kernel
theorem d7_seen_32 : decode cX7_seen 32 = .ok (.if_icmp .ne 6, 3) := by decide +kernel
theorem d7_seen_35 : decode cX7_seen 35 = .ok (.bipush (-3), 2) := by decide +kernel
theorem d7_seen_37 : decode cX7_seen 37 = .ok (.ireturn, 1) := by decide +kernel
theorem d7_seen_38 : decode cX7_seen 38 = .ok (.aload_n 0, 1) := by decide +kernel
theorem d7_seen_39 : decode cX7_seen 39 = .ok (.getfield 64, 3) := by decide +kernel
theorem d7_seen_42 : decode cX7_seen 42 = .ok (.aload_n 0, 1) := by decide +kernel
theorem d7_seen_43 : decode cX7_seen 43 = .ok (.getfield 165, 3) := by decide +kernel
theorem d7_seen_46 : decode cX7_seen 46 = .ok (.iload_n 1, 1) := by decide +kernel
theorem d7_seen_47 : decode cX7_seen 47 = .ok (.iastore, 1) := by decide +kernel
theorem d7_seen_48 : decode cX7_seen 48 = .ok (.aload_n 0, 1) := by decide +kernel
theorem d7_seen_49 : decode cX7_seen 49 = .ok (.getfield 67, 3) := by decide +kernel
theorem d7_seen_52 : decode cX7_seen 52 = .ok (.aload_n 0, 1) := by decide +kernel
theorem d7_seen_53 : decode cX7_seen 53 = .ok (.getfield 165, 3) := by decide +kernel
theorem d7_seen_56 : decode cX7_seen 56 = .ok (.iload_n 2, 1) := by decide +kernel
theorem d7_seen_57 : decode cX7_seen 57 = .ok (.iastore, 1) := by decide +kernel
theorem d7_seen_58 : decode cX7_seen 58 = .ok (.aload_n 0, 1) := by decide +kernel
theorem d7_seen_59 : decode cX7_seen 59 = .ok (.dup, 1) := by decide +kernel
theorem d7_seen_60 : decode cX7_seen 60 = .ok (.getfield 165, 3) := by decide +kernel
theorem d7_seen_63 : decode cX7_seen 63 = .ok (.iconst 1, 1) := by decide +kernel
theorem d7_seen_64 : decode cX7_seen 64 = .ok (.iadd, 1) := by decide +kernel
theorem d7_seen_65 : decode cX7_seen 65 = .ok (.putfield 165, 3) := by decide +kernel
theorem d7_seen_68 : decode cX7_seen 68 = .ok (.aload_n 0, 1) := by decide +kernel
theorem d7_seen_69 : decode cX7_seen 69 = .ok (.getfield 165, 3) := by decide +kernel
theorem d7_seen_72 : decode cX7_seen 72 = .ok (.ireturn, 1) := by decide +kernel
def f7_seen (σ : Mem) (x1 : Int32) (x2 : Int32) : Option (Mem × Int32) := Option.bind (f7_in x1.toInt64 (0 : Int64) (359 : Int64)) fun r1 => if r1 = 0 then some (σ, (-1)) else Option.bind (f7_in x2.toInt64 (0 : Int64) (2 : Int64)) fun r3 => if r3 = 0 then some (σ, (-1)) else if (σ 0 21) = 8 then some (σ, (-3)) else if ¬ (σ 0 21 < 0 ∨ 8 ≤ (σ 0 21).toNatClampNeg) then (bm (mu σ 23 ((σ 0 21).toNatClampNeg) x1) fun σ7 => if ¬ (σ7 0 21 < 0 ∨ 8 ≤ (σ7 0 21).toNatClampNeg) then (bm (mu σ7 24 ((σ7 0 21).toNatClampNeg) x2) fun σ9 => bm (mu σ9 0 21 ((σ9 0 21) + 1)) fun σ10 => some (σ10, σ10 0 21)) else none) else none
set_option maxHeartbeats 4000000 in
set_option maxRecDepth 100000 in
theorem c7_seen (l : Launch) {w : WV} {σ : Mem} {x1 : Int32} {x2 : Int32} {σ' : Mem} {r : Int32} (h0 : f7_seen σ x1 x2 = some (σ', r)) : Met l yX7_seen (wy yX7_seen cX7_seen 3 (some .int)) rm7_seen (Pw EM LM w [.ref (w.2.2 0), .int x1, .int x2] σ) (Qw EM LM w σ' (some (.int r))) 0 0 (AW LM w) := by
  refine mk_met (by decide) (Nat.le_of_ble_eq_true rfl) ?_
  intro p e s m below meth c S hr hlk hK hR ls hl
  obtain ⟨hx, hb, hml, hown, hts⟩ := id S
  have hl : lv_has ls 3 [(0, .ref (w.2.2 0)), (1, .int x1), (2, .int x2)] := hl
  have hS : va_S (AW LM w) s.heap s.heap [] := va_S.rf
  unfold f7_seen at h0
  refine lv_iload_n hx hb d7_seen_0 rfl (lv_at hl 1 rfl) ?_
  refine lv_i2l hx hb d7_seen_1 rfl ?_
  refine lv_lconst (v := 0) hx hb d7_seen_2 (by decide) ?_
  refine lv_ldc2 (v := 359) hx hb hown (hts _ (gt_at 1110 (by decide +kernel) (by decide +kernel))) d7_seen_3 ?_
  obtain ⟨r1, hr1, h0⟩ := og_b h0
  refine k7_113 S  hr1 ⟨Nat.zero_le _, Nat.zero_le _⟩ ⟨Nat.le_of_ble_eq_true rfl, Nat.le_of_ble_eq_true rfl⟩ hl.1 (Nat.le_of_ble_eq_true rfl) d7_seen_6 ?_
  refine lv_if_eq (tgt := 24) hx hb d7_seen_9 (by decide) (fun hc2 => ?_) (fun hc2 => ?_)
  · have h0 := og_t hc2 h0
    refine lv_iconst (v := (-1)) hx hb d7_seen_24 (by decide) ?_
    exact q_iret S hr hlk hR hS h0 d7_seen_25
  · have h0 := og_f hc2 h0
    refine lv_iload_n hx hb d7_seen_12 rfl (lv_at hl 2 rfl) ?_
    refine lv_i2l hx hb d7_seen_13 rfl ?_
    refine lv_lconst (v := 0) hx hb d7_seen_14 (by decide) ?_
    refine lv_ldc2 (v := 2) hx hb hown (hts _ (gt_at 1057 (by decide +kernel) (by decide +kernel))) d7_seen_15 ?_
    obtain ⟨r3, hr3, h0⟩ := og_b h0
    refine k7_113 S  hr3 ⟨Nat.zero_le _, Nat.zero_le _⟩ ⟨Nat.le_of_ble_eq_true rfl, Nat.le_of_ble_eq_true rfl⟩ hl.1 (Nat.le_of_ble_eq_true rfl) d7_seen_18 ?_
    refine lv_if_ne (tgt := 26) hx hb d7_seen_21 (by decide) (fun hc4 => ?_) (fun hc4 => ?_)
    · have h0 := og_f hc4 h0
      refine lv_aload_n hx hb d7_seen_26 rfl (lv_at hl 0 rfl) ?_
      refine g7_165 S hK hR d7_seen_27 ?_
      refine lv_bipush (v := 8) hx hb d7_seen_30 (by decide) ?_
      refine lv_icmp_ne (tgt := 38) hx hb d7_seen_32 (by decide) (fun hc5 => ?_) (fun hc5 => ?_)
      · have h0 := og_f hc5 h0
        refine lv_aload_n hx hb d7_seen_38 rfl (lv_at hl 0 rfl) ?_
        refine g7_64 S hK hR d7_seen_39 ?_
        refine lv_aload_n hx hb d7_seen_42 rfl (lv_at hl 0 rfl) ?_
        refine g7_165 S hK hR d7_seen_43 ?_
        refine lv_iload_n hx hb d7_seen_46 rfl (lv_at hl 1 rfl) ?_
        obtain ⟨hi6, h0⟩ := og_if h0
        obtain ⟨σ7, hm7, h0⟩ := og_m h0
        refine q_st S hK hR hS (by decide) (eM_122 w) hi6 rfl hm7 d7_seen_47 (fun H locs hR hS => ?_)
        refine lv_aload_n hx hb d7_seen_48 rfl (lv_at hl 0 rfl) ?_
        refine g7_67 S hK hR d7_seen_49 ?_
        refine lv_aload_n hx hb d7_seen_52 rfl (lv_at hl 0 rfl) ?_
        refine g7_165 S hK hR d7_seen_53 ?_
        refine lv_iload_n hx hb d7_seen_56 rfl (lv_at hl 2 rfl) ?_
        obtain ⟨hi8, h0⟩ := og_if h0
        obtain ⟨σ9, hm9, h0⟩ := og_m h0
        refine q_st S hK hR hS (by decide) (eM_123 w) hi8 rfl hm9 d7_seen_57 (fun H locs hR hS => ?_)
        refine lv_aload_n hx hb d7_seen_58 rfl (lv_at hl 0 rfl) ?_
        refine lv_dup hx hb d7_seen_59 rfl ?_
        refine g7_165 S hK hR d7_seen_60 ?_
        refine lv_iconst (v := 1) hx hb d7_seen_63 (by decide) ?_
        refine lv_iadd hx hb d7_seen_64 ?_
        obtain ⟨σ10, hm10, h0⟩ := og_m h0
        refine u7_165 S hK hR hS hm10 d7_seen_65 (fun H locs hR hS => ?_)
        refine lv_aload_n hx hb d7_seen_68 rfl (lv_at hl 0 rfl) ?_
        refine g7_165 S hK hR d7_seen_69 ?_
        exact q_iret S hr hlk hR hS h0 d7_seen_72
      · have h0 := og_t hc5 h0
        refine lv_bipush (v := (-3)) hx hb d7_seen_35 (by decide) ?_
        exact q_iret S hr hlk hR hS h0 d7_seen_37
    · have h0 := og_t hc4 h0
      refine lv_iconst (v := (-1)) hx hb d7_seen_24 (by decide) ?_
      exact q_iret S hr hlk hR hS h0 d7_seen_25
/-! FourTenGatesModel.forget()I -/
abbrev rm7_forget : Room := { frames := 0, cells := 0, slots := 0, locals := 0 }
theorem d7_forget_0 : decode cX7_forget 0 = .ok (.aload_n 0, 1) := by decide +kernel
theorem d7_forget_1 : decode cX7_forget 1 = .ok (.getfield 165, 3) := by decide +kernel
theorem d7_forget_4 : decode cX7_forget 4 = .ok (.istore_n 1, 1) := by decide +kernel
theorem d7_forget_5 : decode cX7_forget 5 = .ok (.aload_n 0, 1) := by decide +kernel
theorem d7_forget_6 : decode cX7_forget 6 = .ok (.iconst 0, 1) := by decide +kernel
theorem d7_forget_7 : decode cX7_forget 7 = .ok (.putfield 165, 3) := by decide +kernel
theorem d7_forget_10 : decode cX7_forget 10 = .ok (.iload_n 1, 1) := by decide +kernel
theorem d7_forget_11 : decode cX7_forget 11 = .ok (.ireturn, 1) := by decide +kernel
def f7_forget (σ : Mem) : Option (Mem × Int32) := bm (mu σ 0 21 0) fun σ1 => some (σ1, σ 0 21)
set_option maxHeartbeats 4000000 in
set_option maxRecDepth 100000 in
theorem c7_forget (l : Launch) {w : WV} {σ : Mem} {σ' : Mem} {r : Int32} (h0 : f7_forget σ = some (σ', r)) : Met l yX7_forget (wy yX7_forget cX7_forget 2 (some .int)) rm7_forget (Pw EM LM w [.ref (w.2.2 0)] σ) (Qw EM LM w σ' (some (.int r))) 0 0 (AW LM w) := by
  refine mk_met (by decide) (Nat.le_of_ble_eq_true rfl) ?_
  intro p e s m below meth c S hr hlk hK hR ls hl
  obtain ⟨hx, hb, hml, hown, hts⟩ := id S
  have hl : lv_has ls 2 [(0, .ref (w.2.2 0))] := hl
  have hS : va_S (AW LM w) s.heap s.heap [] := va_S.rf
  unfold f7_forget at h0
  refine lv_aload_n hx hb d7_forget_0 rfl (lv_at hl 0 rfl) ?_
  refine g7_165 S hK hR d7_forget_1 ?_
  refine lv_istore_n (lv' := [(1, .int (σ 0 21)), (0, .ref (w.2.2 0))]) hx hb d7_forget_4 rfl hl (by decide) rfl (fun ls hl => ?_)
  refine lv_aload_n hx hb d7_forget_5 rfl (lv_at hl 1 rfl) ?_
  refine lv_iconst (v := 0) hx hb d7_forget_6 (by decide) ?_
  obtain ⟨σ1, hm1, h0⟩ := og_m h0
  refine u7_165 S hK hR hS hm1 d7_forget_7 (fun H locs hR hS => ?_)
  refine lv_iload_n hx hb d7_forget_10 rfl (lv_at hl 0 rfl) ?_
  exact q_iret S hr hlk hR hS h0 d7_forget_11
/-! FourTenGatesModel.fits()I -/
abbrev rm7_fits : Room := { frames := 6, cells := 0, slots := 0, locals := 139 }
theorem d7_fits_0 : decode cX7_fits 0 = .ok (.iconst 0, 1) := by decide +kernel
theorem d7_fits_1 : decode cX7_fits 1 = .ok (.istore_n 1, 1) := by decide +kernel
theorem d7_fits_2 : decode cX7_fits 2 = .ok (.iconst 0, 1) := by decide +kernel
theorem d7_fits_3 : decode cX7_fits 3 = .ok (.istore_n 2, 1) := by decide +kernel
theorem d7_fits_4 : decode cX7_fits 4 = .ok (.iload_n 2, 1) := by decide +kernel
theorem d7_fits_5 : decode cX7_fits 5 = .ok (.iconst 4, 1) := by decide +kernel
theorem d7_fits_6 : decode cX7_fits 6 = .ok (.if_icmp .ge 81, 3) := by decide +kernel
theorem d7_fits_9 : decode cX7_fits 9 = .ok (.aload_n 0, 1) := by decide +kernel
theorem d7_fits_10 : decode cX7_fits 10 = .ok (.iload_n 2, 1) := by decide +kernel
theorem d7_fits_11 : decode cX7_fits 11 = .ok (.iconst 0, 1) := by decide +kernel
theorem d7_fits_12 : decode cX7_fits 12 = .ok (.invokevirtual 245, 3) := by decide +kernel
theorem d7_fits_15 : decode cX7_fits 15 = .ok (.iconst 1, 1) := by decide +kernel
theorem d7_fits_16 : decode cX7_fits 16 = .ok (.istore_n 3, 1) := by decide +kernel
theorem d7_fits_17 : decode cX7_fits 17 = .ok (.iconst 0, 1) := by decide +kernel
theorem d7_fits_18 : decode cX7_fits 18 = .ok (.istore 4, 2) := by decide +kernel
theorem d7_fits_20 : decode cX7_fits 20 = .ok (.iload 4, 2) := by decide +kernel
theorem d7_fits_22 : decode cX7_fits 22 = .ok (.aload_n 0, 1) := by decide +kernel
theorem d7_fits_23 : decode cX7_fits 23 = .ok (.getfield 165, 3) := by decide +kernel
theorem d7_fits_26 : decode cX7_fits 26 = .ok (.if_icmp .ge 41, 3) := by decide +kernel
theorem d7_fits_29 : decode cX7_fits 29 = .ok (.iload_n 3, 1) := by decide +kernel
theorem d7_fits_30 : decode cX7_fits 30 = .ok (.ifCond .eq 29, 3) := by decide +kernel
theorem d7_fits_33 : decode cX7_fits 33 = .ok (.aload_n 0, 1) := by decide +kernel
theorem d7_fits_34 : decode cX7_fits 34 = .ok (.getfield 73, 3) := by decide +kernel
theorem d7_fits_37 : decode cX7_fits 37 = .ok (.aload_n 0, 1) := by decide +kernel
theorem d7_fits_38 : decode cX7_fits 38 = .ok (.getfield 64, 3) := by decide +kernel
theorem d7_fits_41 : decode cX7_fits 41 = .ok (.iload 4, 2) := by decide +kernel
theorem d7_fits_43 : decode cX7_fits 43 = .ok (.iaload, 1) := by decide +kernel
theorem d7_fits_44 : decode cX7_fits 44 = .ok (.iaload, 1) := by decide +kernel
theorem d7_fits_45 : decode cX7_fits 45 = .ok (.aload_n 0, 1) := by decide +kernel
theorem d7_fits_46 : decode cX7_fits 46 = .ok (.getfield 67, 3) := by decide +kernel
theorem d7_fits_49 : decode cX7_fits 49 = .ok (.iload 4, 2) := by decide +kernel
theorem d7_fits_51 : decode cX7_fits 51 = .ok (.iaload, 1) := by decide +kernel
theorem d7_fits_52 : decode cX7_fits 52 = .ok (.if_icmp .ne 7, 3) := by decide +kernel
theorem d7_fits_55 : decode cX7_fits 55 = .ok (.iconst 1, 1) := by decide +kernel
theorem d7_fits_56 : decode cX7_fits 56 = .ok (.goto 4, 3) := by decide +kernel
theorem d7_fits_59 : decode cX7_fits 59 = .ok (.iconst 0, 1) := by decide +kernel
theorem d7_fits_60 : decode cX7_fits 60 = .ok (.istore_n 3, 1) := by decide +kernel
theorem d7_fits_61 : decode cX7_fits 61 = .ok (.iinc 4 1, 3) := by decide +kernel
theorem d7_fits_64 : decode cX7_fits 64 = .ok (.goto (-44), 3) := by decide +kernel
theorem d7_fits_67 : decode cX7_fits 67 = .ok (.iload_n 1, 1) := by decide +kernel
theorem d7_fits_68 : decode cX7_fits 68 = .ok (.iload_n 3, 1) := by decide +kernel
theorem d7_fits_69 : decode cX7_fits 69 = .ok (.ifCond .eq 9, 3) := by decide +kernel
theorem d7_fits_72 : decode cX7_fits 72 = .ok (.iconst 1, 1) := by decide +kernel
theorem d7_fits_73 : decode cX7_fits 73 = .ok (.iload_n 2, 1) := by decide +kernel
theorem d7_fits_74 : decode cX7_fits 74 = .ok (.ishl, 1) := by decide +kernel
theorem d7_fits_75 : decode cX7_fits 75 = .ok (.goto 4, 3) := by decide +kernel
theorem d7_fits_78 : decode cX7_fits 78 = .ok (.iconst 0, 1) := by decide +kernel
theorem d7_fits_79 : decode cX7_fits 79 = .ok (.ior, 1) := by decide +kernel
theorem d7_fits_80 : decode cX7_fits 80 = .ok (.istore_n 1, 1) := by decide +kernel
theorem d7_fits_81 : decode cX7_fits 81 = .ok (.iinc 2 1, 3) := by decide +kernel
theorem d7_fits_84 : decode cX7_fits 84 = .ok (.goto (-80), 3) := by decide +kernel
theorem d7_fits_87 : decode cX7_fits 87 = .ok (.iload_n 1, 1) := by decide +kernel
theorem d7_fits_88 : decode cX7_fits 88 = .ok (.ireturn, 1) := by decide +kernel
def f7_fits_b20 (k4 : Mem → Int32 → Int32 → Option (Mem × Int32)) : Nat → Mem → Int32 → Int32 → Int32 → Int32 → Option (Mem × Int32)
  | 0, _, _, _, _, _ => none
  | n + 1, σ, x1, x2, x3, x4 => if (σ 0 21) ≤ x4 then if x3 = 0 then k4 σ (x1 ||| 0) (x2 + 1) else k4 σ (x1 ||| (1 <<< (x2 &&& 31))) (x2 + 1) else if x3 = 0 then f7_fits_b20 k4 n σ x1 x2 0 (x4 + 1) else if ¬ (x4 < 0 ∨ 8 ≤ x4.toNatClampNeg) then if ¬ (σ 23 x4.toNatClampNeg < 0 ∨ 360 ≤ (σ 23 x4.toNatClampNeg).toNatClampNeg) then if ¬ (x4 < 0 ∨ 8 ≤ x4.toNatClampNeg) then if (σ 27 ((σ 23 x4.toNatClampNeg).toNatClampNeg)) = (σ 24 x4.toNatClampNeg) then f7_fits_b20 k4 n σ x1 x2 1 (x4 + 1) else f7_fits_b20 k4 n σ x1 x2 0 (x4 + 1) else none else none else none
set_option maxHeartbeats 4000000 in
set_option maxRecDepth 100000 in
theorem t7_fits_b20 {p : Program} {l : Launch} {e : Env} {s : State} {m : MethodId} {args : Array Value} {below : List Frame} {meth : Method} {c : Code} {w : WV} {σ' : Mem} {r : Int32} {k4 : Mem → Int32 → Int32 → Option (Mem × Int32)} (S : CallFix p m c cX7_fits 5 s args gtbl RX7) (hr : meth.sig.returnType = (some .int)) (hlk : meth.locks = false) (hK : KS LM w s) (hk4 : ∀ (σ : Mem) (x1 : Int32) (x2 : Int32), k4 σ x1 x2 = some (σ', r) → ∀ (H : Heap) (locs : List Loc), Rp EM LM w σ H → va_S (AW LM w) s.heap H locs → ∀ (ls : Array Slot), lv_has ls 5 [(0, .ref (w.2.2 0)), (1, .int x1), (2, .int x2)] → W p l e rm7_fits s m args below meth c H locs 0 0 (MQ below (Qw EM LM w σ' (some (.int r))) args s 0 0 (AW LM w)) (F0 m 4 ls [])) : ∀ (n : Nat), ∀ (σ : Mem) (x1 : Int32) (x2 : Int32) (x3 : Int32) (x4 : Int32), f7_fits_b20 k4 n σ x1 x2 x3 x4 = some (σ', r) → ∀ (H : Heap) (locs : List Loc), Rp EM LM w σ H → va_S (AW LM w) s.heap H locs → ∀ (ls : Array Slot), lv_has ls 5 [(0, .ref (w.2.2 0)), (1, .int x1), (2, .int x2), (3, .int x3), (4, .int x4)] → W p l e rm7_fits s m args below meth c H locs 0 0 (MQ below (Qw EM LM w σ' (some (.int r))) args s 0 0 (AW LM w)) (F0 m 20 ls []) := by
  obtain ⟨hx, hb, hml, hown, hts⟩ := id S
  intro n
  induction n with
  | zero =>
    intro σ x1 x2 x3 x4 h0
    cases (show none = _ from h0)
  | succ n ih =>
    intro σ x1 x2 x3 x4 h0 H locs hR hS ls hl
    rw [f7_fits_b20] at h0
    refine lv_iload hx hb d7_fits_20 (lv_at hl 4 rfl) ?_
    refine lv_aload_n hx hb d7_fits_22 rfl (lv_at hl 0 rfl) ?_
    refine g7_165 S hK hR d7_fits_23 ?_
    refine lv_icmp_ge (tgt := 67) hx hb d7_fits_26 (by decide) (fun hc1 => ?_) (fun hc1 => ?_)
    · have h0 := og_t hc1 h0
      refine lv_iload_n hx hb d7_fits_67 rfl (lv_at hl 1 rfl) ?_
      refine lv_iload_n hx hb d7_fits_68 rfl (lv_at hl 3 rfl) ?_
      refine lv_if_eq (tgt := 78) hx hb d7_fits_69 (by decide) (fun hc2 => ?_) (fun hc2 => ?_)
      · have h0 := og_t hc2 h0
        refine lv_iconst (v := 0) hx hb d7_fits_78 (by decide) ?_
        refine lv_ior hx hb d7_fits_79 ?_
        refine lv_istore_n (lv' := [(1, .int (x1 ||| 0)), (0, .ref (w.2.2 0)), (2, .int x2), (3, .int x3), (4, .int x4)]) hx hb d7_fits_80 rfl hl (by decide) rfl (fun ls hl => ?_)
        refine lv_iinc (v := x2 + 1) (lv' := [(2, .int (x2 + 1)), (1, .int (x1 ||| 0)), (0, .ref (w.2.2 0)), (3, .int x3), (4, .int x4)]) hx hb d7_fits_81 hl (k := 2) rfl (ii1 _) (by decide) rfl (fun ls hl => ?_)
        refine lv_goto (tgt := 4) hx hb d7_fits_84 (by decide) ?_
        exact hk4 σ (x1 ||| 0) (x2 + 1) h0 _ _ hR hS _ (lv_sub hl [2, 1, 0] rfl)
      · have h0 := og_f hc2 h0
        refine lv_iconst (v := 1) hx hb d7_fits_72 (by decide) ?_
        refine lv_iload_n hx hb d7_fits_73 rfl (lv_at hl 2 rfl) ?_
        refine lv_ishl hx hb d7_fits_74 ?_
        refine lv_goto (tgt := 79) hx hb d7_fits_75 (by decide) ?_
        refine lv_ior hx hb d7_fits_79 ?_
        refine lv_istore_n (lv' := [(1, .int (x1 ||| (1 <<< (x2 &&& 31)))), (0, .ref (w.2.2 0)), (2, .int x2), (3, .int x3), (4, .int x4)]) hx hb d7_fits_80 rfl hl (by decide) rfl (fun ls hl => ?_)
        refine lv_iinc (v := x2 + 1) (lv' := [(2, .int (x2 + 1)), (1, .int (x1 ||| (1 <<< (x2 &&& 31)))), (0, .ref (w.2.2 0)), (3, .int x3), (4, .int x4)]) hx hb d7_fits_81 hl (k := 2) rfl (ii1 _) (by decide) rfl (fun ls hl => ?_)
        refine lv_goto (tgt := 4) hx hb d7_fits_84 (by decide) ?_
        exact hk4 σ (x1 ||| (1 <<< (x2 &&& 31))) (x2 + 1) h0 _ _ hR hS _ (lv_sub hl [2, 1, 0] rfl)
    · have h0 := og_f hc1 h0
      refine lv_iload_n hx hb d7_fits_29 rfl (lv_at hl 3 rfl) ?_
      refine lv_if_eq (tgt := 59) hx hb d7_fits_30 (by decide) (fun hc2 => ?_) (fun hc2 => ?_)
      · have h0 := og_t hc2 h0
        refine lv_iconst (v := 0) hx hb d7_fits_59 (by decide) ?_
        refine lv_istore_n (lv' := [(3, .int 0), (0, .ref (w.2.2 0)), (1, .int x1), (2, .int x2), (4, .int x4)]) hx hb d7_fits_60 rfl hl (by decide) rfl (fun ls hl => ?_)
        refine lv_iinc (v := x4 + 1) (lv' := [(4, .int (x4 + 1)), (3, .int 0), (0, .ref (w.2.2 0)), (1, .int x1), (2, .int x2)]) hx hb d7_fits_61 hl (k := 4) rfl (ii1 _) (by decide) rfl (fun ls hl => ?_)
        refine lv_goto (tgt := 20) hx hb d7_fits_64 (by decide) ?_
        exact ih σ x1 x2 0 (x4 + 1) h0 _ _ hR hS _ (lv_sub hl [2, 3, 4, 1, 0] rfl)
      · have h0 := og_f hc2 h0
        refine lv_aload_n hx hb d7_fits_33 rfl (lv_at hl 0 rfl) ?_
        refine g7_73 S hK hR d7_fits_34 ?_
        refine lv_aload_n hx hb d7_fits_37 rfl (lv_at hl 0 rfl) ?_
        refine g7_64 S hK hR d7_fits_38 ?_
        refine lv_iload hx hb d7_fits_41 (lv_at hl 4 rfl) ?_
        obtain ⟨hi3, h0⟩ := og_if h0
        refine q_ld (k := x4.toNatClampNeg) S hK hR (by decide) (eM_122 w _) hi3 rfl d7_fits_43 ?_
        obtain ⟨hi4, h0⟩ := og_if h0
        refine q_ld (k := ((σ 23 x4.toNatClampNeg).toNatClampNeg)) S hK hR (by decide) (eM_126 w _) hi4 rfl d7_fits_44 ?_
        refine lv_aload_n hx hb d7_fits_45 rfl (lv_at hl 0 rfl) ?_
        refine g7_67 S hK hR d7_fits_46 ?_
        refine lv_iload hx hb d7_fits_49 (lv_at hl 4 rfl) ?_
        obtain ⟨hi5, h0⟩ := og_if h0
        refine q_ld (k := x4.toNatClampNeg) S hK hR (by decide) (eM_123 w _) hi5 rfl d7_fits_51 ?_
        refine lv_icmp_ne (tgt := 59) hx hb d7_fits_52 (by decide) (fun hc6 => ?_) (fun hc6 => ?_)
        · have h0 := og_f hc6 h0
          refine lv_iconst (v := 0) hx hb d7_fits_59 (by decide) ?_
          refine lv_istore_n (lv' := [(3, .int 0), (0, .ref (w.2.2 0)), (1, .int x1), (2, .int x2), (4, .int x4)]) hx hb d7_fits_60 rfl hl (by decide) rfl (fun ls hl => ?_)
          refine lv_iinc (v := x4 + 1) (lv' := [(4, .int (x4 + 1)), (3, .int 0), (0, .ref (w.2.2 0)), (1, .int x1), (2, .int x2)]) hx hb d7_fits_61 hl (k := 4) rfl (ii1 _) (by decide) rfl (fun ls hl => ?_)
          refine lv_goto (tgt := 20) hx hb d7_fits_64 (by decide) ?_
          exact ih σ x1 x2 0 (x4 + 1) h0 _ _ hR hS _ (lv_sub hl [2, 3, 4, 1, 0] rfl)
        · have h0 := og_t hc6 h0
          refine lv_iconst (v := 1) hx hb d7_fits_55 (by decide) ?_
          refine lv_goto (tgt := 60) hx hb d7_fits_56 (by decide) ?_
          refine lv_istore_n (lv' := [(3, .int 1), (0, .ref (w.2.2 0)), (1, .int x1), (2, .int x2), (4, .int x4)]) hx hb d7_fits_60 rfl hl (by decide) rfl (fun ls hl => ?_)
          refine lv_iinc (v := x4 + 1) (lv' := [(4, .int (x4 + 1)), (3, .int 1), (0, .ref (w.2.2 0)), (1, .int x1), (2, .int x2)]) hx hb d7_fits_61 hl (k := 4) rfl (ii1 _) (by decide) rfl (fun ls hl => ?_)
          refine lv_goto (tgt := 20) hx hb d7_fits_64 (by decide) ?_
          exact ih σ x1 x2 1 (x4 + 1) h0 _ _ hR hS _ (lv_sub hl [2, 3, 4, 1, 0] rfl)
def f7_fits_b4 : Nat → Mem → Int32 → Int32 → Option (Mem × Int32)
  | 0, _, _, _ => none
  | n + 1, σ, x1, x2 => if 4 ≤ x2 then some (σ, x1) else Option.bind (f7_goHour σ x2 0) fun σ2 => f7_fits_b20 (f7_fits_b4 n) 1000 σ2 x1 x2 1 0
set_option maxHeartbeats 4000000 in
set_option maxRecDepth 100000 in
theorem t7_fits_b4 {p : Program} {l : Launch} {e : Env} {s : State} {m : MethodId} {args : Array Value} {below : List Frame} {meth : Method} {c : Code} {w : WV} {σ' : Mem} {r : Int32} (S : CallFix p m c cX7_fits 5 s args gtbl RX7) (hr : meth.sig.returnType = (some .int)) (hlk : meth.locks = false) (hK : KS LM w s) : ∀ (n : Nat), ∀ (σ : Mem) (x1 : Int32) (x2 : Int32), f7_fits_b4  n σ x1 x2 = some (σ', r) → ∀ (H : Heap) (locs : List Loc), Rp EM LM w σ H → va_S (AW LM w) s.heap H locs → ∀ (ls : Array Slot), lv_has ls 5 [(0, .ref (w.2.2 0)), (1, .int x1), (2, .int x2)] → W p l e rm7_fits s m args below meth c H locs 0 0 (MQ below (Qw EM LM w σ' (some (.int r))) args s 0 0 (AW LM w)) (F0 m 4 ls []) := by
  obtain ⟨hx, hb, hml, hown, hts⟩ := id S
  intro n
  induction n with
  | zero =>
    intro σ x1 x2 h0
    cases (show none = _ from h0)
  | succ n ih =>
    intro σ x1 x2 h0 H locs hR hS ls hl
    rw [f7_fits_b4] at h0
    refine lv_iload_n hx hb d7_fits_4 rfl (lv_at hl 2 rfl) ?_
    refine lv_iconst (v := 4) hx hb d7_fits_5 (by decide) ?_
    refine lv_icmp_ge (tgt := 87) hx hb d7_fits_6 (by decide) (fun hc1 => ?_) (fun hc1 => ?_)
    · have h0 := og_t hc1 h0
      refine lv_iload_n hx hb d7_fits_87 rfl (lv_at hl 1 rfl) ?_
      exact q_iret S hr hlk hR hS h0 d7_fits_88
    · have h0 := og_f hc1 h0
      refine lv_aload_n hx hb d7_fits_9 rfl (lv_at hl 0 rfl) ?_
      refine lv_iload_n hx hb d7_fits_10 rfl (lv_at hl 2 rfl) ?_
      refine lv_iconst (v := 0) hx hb d7_fits_11 (by decide) ?_
      obtain ⟨σ2, hr2, h0⟩ := og_b h0
      refine k7_245 S hK hR hS  hr2 ⟨Nat.zero_le _, Nat.zero_le _⟩ ⟨Nat.le_of_ble_eq_true rfl, Nat.le_of_ble_eq_true rfl⟩ hl.1 (Nat.le_of_ble_eq_true rfl) d7_fits_12 (fun H locs hR hS => ?_)
      refine lv_iconst (v := 1) hx hb d7_fits_15 (by decide) ?_
      refine lv_istore_n (lv' := [(3, .int 1), (0, .ref (w.2.2 0)), (1, .int x1), (2, .int x2)]) hx hb d7_fits_16 rfl hl (by decide) rfl (fun ls hl => ?_)
      refine lv_iconst (v := 0) hx hb d7_fits_17 (by decide) ?_
      refine lv_istore (lv' := [(4, .int 0), (3, .int 1), (0, .ref (w.2.2 0)), (1, .int x1), (2, .int x2)]) hx hb d7_fits_18 hl (by decide) rfl (fun ls hl => ?_)
      exact t7_fits_b20 S hr hlk hK ih 1000 σ2 x1 x2 1 0 h0 _ _ hR hS _ (lv_sub hl [2, 3, 4, 1, 0] rfl)
def f7_fits (σ : Mem) : Option (Mem × Int32) := f7_fits_b4 1000 σ 0 0
set_option maxHeartbeats 4000000 in
set_option maxRecDepth 100000 in
theorem c7_fits (l : Launch) {w : WV} {σ : Mem} {σ' : Mem} {r : Int32} (h0 : f7_fits σ = some (σ', r)) : Met l yX7_fits (wy yX7_fits cX7_fits 5 (some .int)) rm7_fits (Pw EM LM w [.ref (w.2.2 0)] σ) (Qw EM LM w σ' (some (.int r))) 0 0 (AW LM w) := by
  refine mk_met (by decide) (Nat.le_of_ble_eq_true rfl) ?_
  intro p e s m below meth c S hr hlk hK hR ls hl
  obtain ⟨hx, hb, hml, hown, hts⟩ := id S
  have hl : lv_has ls 5 [(0, .ref (w.2.2 0))] := hl
  have hS : va_S (AW LM w) s.heap s.heap [] := va_S.rf
  unfold f7_fits at h0
  refine lv_iconst (v := 0) hx hb d7_fits_0 (by decide) ?_
  refine lv_istore_n (lv' := [(1, .int 0), (0, .ref (w.2.2 0))]) hx hb d7_fits_1 rfl hl (by decide) rfl (fun ls hl => ?_)
  refine lv_iconst (v := 0) hx hb d7_fits_2 (by decide) ?_
  refine lv_istore_n (lv' := [(2, .int 0), (1, .int 0), (0, .ref (w.2.2 0))]) hx hb d7_fits_3 rfl hl (by decide) rfl (fun ls hl => ?_)
  exact t7_fits_b4 S hr hlk hK 1000 σ 0 0 h0 _ _ hR hS _ (lv_sub hl [2, 1, 0] rfl)
/-! FourTenGatesModel.bridge(II)I -/
abbrev rm7_bridge : Room := { frames := 7, cells := 0, slots := 0, locals := 161 }
theorem d7_bridge_0 : decode cX7_bridge 0 = .ok (.iload_n 1, 1) := by decide +kernel
theorem d7_bridge_1 : decode cX7_bridge 1 = .ok (.invokestatic 252, 3) := by decide +kernel
theorem d7_bridge_4 : decode cX7_bridge 4 = .ok (.ifCond .eq 15, 3) := by decide +kernel
theorem d7_bridge_7 : decode cX7_bridge 7 = .ok (.iload_n 2, 1) := by decide +kernel
theorem d7_bridge_8 : decode cX7_bridge 8 = .ok (.i2l, 1) := by decide +kernel
theorem d7_bridge_9 : decode cX7_bridge 9 = .ok (.lconst 1, 1) := by decide +kernel
theorem d7_bridge_10 : decode cX7_bridge 10 = .ok (.ldc2_w 276, 3) := by decide +kernel
theorem d7_bridge_13 : decode cX7_bridge 13 = .ok (.invokestatic 113, 3) := by decide +kernel
theorem d7_bridge_16 : decode cX7_bridge 16 = .ok (.ifCond .ne 5, 3) := by decide +kernel
theorem d7_bridge_19 : decode cX7_bridge 19 = .ok (.iconst (-1), 1) := by decide +kernel
theorem d7_bridge_20 : decode cX7_bridge 20 = .ok (.ireturn, 1) := by decide +kernel
theorem d7_bridge_21 : decode cX7_bridge 21 = .ok (.aload_n 0, 1) := by decide +kernel
theorem d7_bridge_22 : decode cX7_bridge 22 = .ok (.iload_n 1, 1) := by decide +kernel
theorem d7_bridge_23 : decode cX7_bridge 23 = .ok (.iconst 0, 1) := by decide +kernel
theorem d7_bridge_24 : decode cX7_bridge 24 = .ok (.invokevirtual 257, 3) := by decide +kernel
theorem d7_bridge_27 : decode cX7_bridge 27 = .ok (.istore_n 3, 1) := by decide +kernel
theorem d7_bridge_28 : decode cX7_bridge 28 = .ok (.iload_n 3, 1) := by decide +kernel
theorem d7_bridge_29 : decode cX7_bridge 29 = .ok (.ifCond .ne 9, 3) := by decide +kernel
theorem d7_bridge_32 : decode cX7_bridge 32 = .ok (.sipush 1000, 3) := by decide +kernel
theorem d7_bridge_35 : decode cX7_bridge 35 = .ok (.goto 13, 3) := by decide +kernel
theorem d7_bridge_38 : decode cX7_bridge 38 = .ok (.bipush 100, 2) := by decide +kernel
theorem d7_bridge_40 : decode cX7_bridge 40 = .ok (.iload_n 2, 1) := by decide +kernel
theorem d7_bridge_41 : decode cX7_bridge 41 = .ok (.imul, 1) := by decide +kernel
theorem d7_bridge_42 : decode cX7_bridge 42 = .ok (.iload_n 3, 1) := by decide +kernel
theorem d7_bridge_43 : decode cX7_bridge 43 = .ok (.iadd, 1) := by decide +kernel
theorem d7_bridge_44 : decode cX7_bridge 44 = .ok (.iconst 1, 1) := by decide +kernel
theorem d7_bridge_45 : decode cX7_bridge 45 = .ok (.isub, 1) := by decide +kernel
theorem d7_bridge_46 : decode cX7_bridge 46 = .ok (.iload_n 3, 1) := by decide +kernel
theorem d7_bridge_47 : decode cX7_bridge 47 = .ok (.idiv, 1) := by decide +kernel
theorem d7_bridge_48 : decode cX7_bridge 48 = .ok (.istore 4, 2) := by decide +kernel
theorem d7_bridge_50 : decode cX7_bridge 50 = .ok (.iload 4, 2) := by decide +kernel
theorem d7_bridge_52 : decode cX7_bridge 52 = .ok (.sipush 999, 3) := by decide +kernel
theorem d7_bridge_55 : decode cX7_bridge 55 = .ok (.if_icmp .le 8, 3) := by decide +kernel
theorem d7_bridge_58 : decode cX7_bridge 58 = .ok (.bipush (-4), 2) := by decide +kernel
theorem d7_bridge_60 : decode cX7_bridge 60 = .ok (.goto 5, 3) := by decide +kernel
theorem d7_bridge_63 : decode cX7_bridge 63 = .ok (.iload 4, 2) := by decide +kernel
theorem d7_bridge_65 : decode cX7_bridge 65 = .ok (.ireturn, 1) := by decide +kernel
def f7_bridge_b48 (σ : Mem) (s0 : Int32) : Option (Mem × Int32) := if s0 ≤ 999 then some (σ, s0) else some (σ, (-4))
set_option maxHeartbeats 4000000 in
set_option maxRecDepth 100000 in
theorem t7_bridge_b48 {p : Program} {l : Launch} {e : Env} {s : State} {m : MethodId} {args : Array Value} {below : List Frame} {meth : Method} {c : Code} {w : WV} {σ' : Mem} {r : Int32} (S : CallFix p m c cX7_bridge 5 s args gtbl RX7) (hr : meth.sig.returnType = (some .int)) (hlk : meth.locks = false) (hK : KS LM w s) : ∀ (σ : Mem) (s0 : Int32), f7_bridge_b48  σ s0 = some (σ', r) → ∀ (H : Heap) (locs : List Loc), Rp EM LM w σ H → va_S (AW LM w) s.heap H locs → ∀ (ls : Array Slot), lv_has ls 5 [] → W p l e rm7_bridge s m args below meth c H locs 0 0 (MQ below (Qw EM LM w σ' (some (.int r))) args s 0 0 (AW LM w)) (F0 m 48 ls [.int s0]) := by
  obtain ⟨hx, hb, hml, hown, hts⟩ := id S
  intro σ s0 h0 H locs hR hS ls hl
  unfold f7_bridge_b48 at h0
  refine lv_istore (lv' := [(4, .int s0)]) hx hb d7_bridge_48 hl (by decide) rfl (fun ls hl => ?_)
  refine lv_iload hx hb d7_bridge_50 (lv_at hl 0 rfl) ?_
  refine lv_sipush (v := 999) hx hb d7_bridge_52 (by decide) ?_
  refine lv_icmp_le (tgt := 63) hx hb d7_bridge_55 (by decide) (fun hc1 => ?_) (fun hc1 => ?_)
  · have h0 := og_t hc1 h0
    refine lv_iload hx hb d7_bridge_63 (lv_at hl 0 rfl) ?_
    exact q_iret S hr hlk hR hS h0 d7_bridge_65
  · have h0 := og_f hc1 h0
    refine lv_bipush (v := (-4)) hx hb d7_bridge_58 (by decide) ?_
    refine lv_goto (tgt := 65) hx hb d7_bridge_60 (by decide) ?_
    exact q_iret S hr hlk hR hS h0 d7_bridge_65
def f7_bridge (σ : Mem) (x1 : Int32) (x2 : Int32) : Option (Mem × Int32) := Option.bind (f7_isRule x1) fun r1 => if r1 = 0 then some (σ, (-1)) else Option.bind (f7_in x2.toInt64 (1 : Int64) (99 : Int64)) fun r3 => if r3 = 0 then some (σ, (-1)) else ob (f7_costBy σ x1 0) fun σ5 r5 => if r5 = 0 then f7_bridge_b48 σ5 1000 else if ¬ r5 = 0 then f7_bridge_b48 σ5 ((((100 * x2) + r5) - 1) / r5) else none
set_option maxHeartbeats 4000000 in
set_option maxRecDepth 100000 in
theorem c7_bridge (l : Launch) {w : WV} {σ : Mem} {x1 : Int32} {x2 : Int32} {σ' : Mem} {r : Int32} (h0 : f7_bridge σ x1 x2 = some (σ', r)) : Met l yX7_bridge (wy yX7_bridge cX7_bridge 5 (some .int)) rm7_bridge (Pw EM LM w [.ref (w.2.2 0), .int x1, .int x2] σ) (Qw EM LM w σ' (some (.int r))) 0 0 (AW LM w) := by
  refine mk_met (by decide) (Nat.le_of_ble_eq_true rfl) ?_
  intro p e s m below meth c S hr hlk hK hR ls hl
  obtain ⟨hx, hb, hml, hown, hts⟩ := id S
  have hl : lv_has ls 5 [(0, .ref (w.2.2 0)), (1, .int x1), (2, .int x2)] := hl
  have hS : va_S (AW LM w) s.heap s.heap [] := va_S.rf
  unfold f7_bridge at h0
  refine lv_iload_n hx hb d7_bridge_0 rfl (lv_at hl 1 rfl) ?_
  obtain ⟨r1, hr1, h0⟩ := og_b h0
  refine k7_252 S  hr1 ⟨Nat.zero_le _, Nat.zero_le _⟩ ⟨Nat.le_of_ble_eq_true rfl, Nat.le_of_ble_eq_true rfl⟩ hl.1 (Nat.le_of_ble_eq_true rfl) d7_bridge_1 ?_
  refine lv_if_eq (tgt := 19) hx hb d7_bridge_4 (by decide) (fun hc2 => ?_) (fun hc2 => ?_)
  · have h0 := og_t hc2 h0
    refine lv_iconst (v := (-1)) hx hb d7_bridge_19 (by decide) ?_
    exact q_iret S hr hlk hR hS h0 d7_bridge_20
  · have h0 := og_f hc2 h0
    refine lv_iload_n hx hb d7_bridge_7 rfl (lv_at hl 2 rfl) ?_
    refine lv_i2l hx hb d7_bridge_8 rfl ?_
    refine lv_lconst (v := 1) hx hb d7_bridge_9 (by decide) ?_
    refine lv_ldc2 (v := 99) hx hb hown (hts _ (gt_at 1271 (by decide +kernel) (by decide +kernel))) d7_bridge_10 ?_
    obtain ⟨r3, hr3, h0⟩ := og_b h0
    refine k7_113 S  hr3 ⟨Nat.zero_le _, Nat.zero_le _⟩ ⟨Nat.le_of_ble_eq_true rfl, Nat.le_of_ble_eq_true rfl⟩ hl.1 (Nat.le_of_ble_eq_true rfl) d7_bridge_13 ?_
    refine lv_if_ne (tgt := 21) hx hb d7_bridge_16 (by decide) (fun hc4 => ?_) (fun hc4 => ?_)
    · have h0 := og_f hc4 h0
      refine lv_aload_n hx hb d7_bridge_21 rfl (lv_at hl 0 rfl) ?_
      refine lv_iload_n hx hb d7_bridge_22 rfl (lv_at hl 1 rfl) ?_
      refine lv_iconst (v := 0) hx hb d7_bridge_23 (by decide) ?_
      obtain ⟨σ5, r5, hr5, h0⟩ := og_o h0
      refine k7_257 S hK hR hS  hr5 ⟨Nat.zero_le _, Nat.zero_le _⟩ ⟨Nat.le_of_ble_eq_true rfl, Nat.le_of_ble_eq_true rfl⟩ hl.1 (Nat.le_of_ble_eq_true rfl) d7_bridge_24 (fun H locs hR hS => ?_)
      refine lv_istore_n (lv' := [(3, .int r5), (0, .ref (w.2.2 0)), (1, .int x1), (2, .int x2)]) hx hb d7_bridge_27 rfl hl (by decide) rfl (fun ls hl => ?_)
      refine lv_iload_n hx hb d7_bridge_28 rfl (lv_at hl 0 rfl) ?_
      refine lv_if_ne (tgt := 38) hx hb d7_bridge_29 (by decide) (fun hc6 => ?_) (fun hc6 => ?_)
      · have h0 := og_f hc6 h0
        refine lv_bipush (v := 100) hx hb d7_bridge_38 (by decide) ?_
        refine lv_iload_n hx hb d7_bridge_40 rfl (lv_at hl 3 rfl) ?_
        refine lv_imul hx hb d7_bridge_41 ?_
        refine lv_iload_n hx hb d7_bridge_42 rfl (lv_at hl 0 rfl) ?_
        refine lv_iadd hx hb d7_bridge_43 ?_
        refine lv_iconst (v := 1) hx hb d7_bridge_44 (by decide) ?_
        refine lv_isub hx hb d7_bridge_45 ?_
        refine lv_iload_n hx hb d7_bridge_46 rfl (lv_at hl 0 rfl) ?_
        obtain ⟨hi7, h0⟩ := og_if h0
        refine lv_idiv hx hb d7_bridge_47 hi7 ?_
        exact t7_bridge_b48 S hr hlk hK σ5 ((((100 * x2) + r5) - 1) / r5) h0 _ _ hR hS _ (lv_sub hl [] rfl)
      · have h0 := og_t hc6 h0
        refine lv_sipush (v := 1000) hx hb d7_bridge_32 (by decide) ?_
        refine lv_goto (tgt := 48) hx hb d7_bridge_35 (by decide) ?_
        exact t7_bridge_b48 S hr hlk hK σ5 1000 h0 _ _ hR hS _ (lv_sub hl [] rfl)
    · have h0 := og_t hc4 h0
      refine lv_iconst (v := (-1)) hx hb d7_bridge_19 (by decide) ?_
      exact q_iret S hr hlk hR hS h0 d7_bridge_20
/-! FourTenGatesModel.mean(III)I -/
abbrev rm7_mean : Room := { frames := 7, cells := 0, slots := 0, locals := 161 }
theorem d7_mean_0 : decode cX7_mean 0 = .ok (.iload_n 1, 1) := by decide +kernel
theorem d7_mean_1 : decode cX7_mean 1 = .ok (.invokestatic 252, 3) := by decide +kernel
theorem d7_mean_4 : decode cX7_mean 4 = .ok (.ifCond .eq 21, 3) := by decide +kernel
theorem d7_mean_7 : decode cX7_mean 7 = .ok (.aload_n 0, 1) := by decide +kernel
theorem d7_mean_8 : decode cX7_mean 8 = .ok (.iload_n 2, 1) := by decide +kernel
theorem d7_mean_9 : decode cX7_mean 9 = .ok (.invokevirtual 173, 3) := by decide +kernel
theorem d7_mean_12 : decode cX7_mean 12 = .ok (.ifCond .eq 13, 3) := by decide +kernel
theorem d7_mean_15 : decode cX7_mean 15 = .ok (.iload_n 3, 1) := by decide +kernel
theorem d7_mean_16 : decode cX7_mean 16 = .ok (.i2l, 1) := by decide +kernel
theorem d7_mean_17 : decode cX7_mean 17 = .ok (.lconst 0, 1) := by decide +kernel
theorem d7_mean_18 : decode cX7_mean 18 = .ok (.lconst 1, 1) := by decide +kernel
theorem d7_mean_19 : decode cX7_mean 19 = .ok (.invokestatic 113, 3) := by decide +kernel
theorem d7_mean_22 : decode cX7_mean 22 = .ok (.ifCond .ne 5, 3) := by decide +kernel
theorem d7_mean_25 : decode cX7_mean 25 = .ok (.iconst (-1), 1) := by decide +kernel
theorem d7_mean_26 : decode cX7_mean 26 = .ok (.ireturn, 1) := by decide +kernel
theorem d7_mean_27 : decode cX7_mean 27 = .ok (.aload_n 0, 1) := by decide +kernel
theorem d7_mean_28 : decode cX7_mean 28 = .ok (.getfield 46, 3) := by decide +kernel
theorem d7_mean_31 : decode cX7_mean 31 = .ok (.iconst 0, 1) := by decide +kernel
theorem d7_mean_32 : decode cX7_mean 32 = .ok (.iaload, 1) := by decide +kernel
theorem d7_mean_33 : decode cX7_mean 33 = .ok (.ifCond .ne 6, 3) := by decide +kernel
theorem d7_mean_36 : decode cX7_mean 36 = .ok (.bipush (-4), 2) := by decide +kernel
theorem d7_mean_38 : decode cX7_mean 38 = .ok (.ireturn, 1) := by decide +kernel
theorem d7_mean_39 : decode cX7_mean 39 = .ok (.aload_n 0, 1) := by decide +kernel
theorem d7_mean_40 : decode cX7_mean 40 = .ok (.getfield 55, 3) := by decide +kernel
theorem d7_mean_43 : decode cX7_mean 43 = .ok (.iload_n 2, 1) := by decide +kernel
theorem d7_mean_44 : decode cX7_mean 44 = .ok (.iaload, 1) := by decide +kernel
theorem d7_mean_45 : decode cX7_mean 45 = .ok (.istore 4, 2) := by decide +kernel
theorem d7_mean_47 : decode cX7_mean 47 = .ok (.iconst 0, 1) := by decide +kernel
theorem d7_mean_48 : decode cX7_mean 48 = .ok (.istore 5, 2) := by decide +kernel
theorem d7_mean_50 : decode cX7_mean 50 = .ok (.iconst 0, 1) := by decide +kernel
theorem d7_mean_51 : decode cX7_mean 51 = .ok (.istore 6, 2) := by decide +kernel
theorem d7_mean_53 : decode cX7_mean 53 = .ok (.iload 6, 2) := by decide +kernel
theorem d7_mean_55 : decode cX7_mean 55 = .ok (.aload_n 0, 1) := by decide +kernel
theorem d7_mean_56 : decode cX7_mean 56 = .ok (.getfield 46, 3) := by decide +kernel
theorem d7_mean_59 : decode cX7_mean 59 = .ok (.iconst 0, 1) := by decide +kernel
theorem d7_mean_60 : decode cX7_mean 60 = .ok (.iaload, 1) := by decide +kernel
theorem d7_mean_61 : decode cX7_mean 61 = .ok (.if_icmp .ge 41, 3) := by decide +kernel
theorem d7_mean_64 : decode cX7_mean 64 = .ok (.aload_n 0, 1) := by decide +kernel
theorem d7_mean_65 : decode cX7_mean 65 = .ok (.getfield 55, 3) := by decide +kernel
theorem d7_mean_68 : decode cX7_mean 68 = .ok (.iload_n 2, 1) := by decide +kernel
theorem d7_mean_69 : decode cX7_mean 69 = .ok (.aload_n 0, 1) := by decide +kernel
theorem d7_mean_70 : decode cX7_mean 70 = .ok (.getfield 49, 3) := by decide +kernel
theorem d7_mean_73 : decode cX7_mean 73 = .ok (.iload 6, 2) := by decide +kernel
theorem d7_mean_75 : decode cX7_mean 75 = .ok (.iaload, 1) := by decide +kernel
theorem d7_mean_76 : decode cX7_mean 76 = .ok (.iastore, 1) := by decide +kernel
theorem d7_mean_77 : decode cX7_mean 77 = .ok (.iload 5, 2) := by decide +kernel
theorem d7_mean_79 : decode cX7_mean 79 = .ok (.aload_n 0, 1) := by decide +kernel
theorem d7_mean_80 : decode cX7_mean 80 = .ok (.getfield 52, 3) := by decide +kernel
theorem d7_mean_83 : decode cX7_mean 83 = .ok (.iload 6, 2) := by decide +kernel
theorem d7_mean_85 : decode cX7_mean 85 = .ok (.iaload, 1) := by decide +kernel
theorem d7_mean_86 : decode cX7_mean 86 = .ok (.aload_n 0, 1) := by decide +kernel
theorem d7_mean_87 : decode cX7_mean 87 = .ok (.iload_n 1, 1) := by decide +kernel
theorem d7_mean_88 : decode cX7_mean 88 = .ok (.iconst 0, 1) := by decide +kernel
theorem d7_mean_89 : decode cX7_mean 89 = .ok (.invokevirtual 257, 3) := by decide +kernel
theorem d7_mean_92 : decode cX7_mean 92 = .ok (.imul, 1) := by decide +kernel
theorem d7_mean_93 : decode cX7_mean 93 = .ok (.iadd, 1) := by decide +kernel
theorem d7_mean_94 : decode cX7_mean 94 = .ok (.istore 5, 2) := by decide +kernel
theorem d7_mean_96 : decode cX7_mean 96 = .ok (.iinc 6 1, 3) := by decide +kernel
theorem d7_mean_99 : decode cX7_mean 99 = .ok (.goto (-46), 3) := by decide +kernel
theorem d7_mean_102 : decode cX7_mean 102 = .ok (.aload_n 0, 1) := by decide +kernel
theorem d7_mean_103 : decode cX7_mean 103 = .ok (.getfield 55, 3) := by decide +kernel
theorem d7_mean_106 : decode cX7_mean 106 = .ok (.iload_n 2, 1) := by decide +kernel
theorem d7_mean_107 : decode cX7_mean 107 = .ok (.iload 4, 2) := by decide +kernel
theorem d7_mean_109 : decode cX7_mean 109 = .ok (.iastore, 1) := by decide +kernel
theorem d7_mean_110 : decode cX7_mean 110 = .ok (.iload 5, 2) := by decide +kernel
theorem d7_mean_112 : decode cX7_mean 112 = .ok (.bipush 10, 2) := by decide +kernel
theorem d7_mean_114 : decode cX7_mean 114 = .ok (.invokestatic 273, 3) := by decide +kernel
theorem d7_mean_117 : decode cX7_mean 117 = .ok (.istore 6, 2) := by decide +kernel
theorem d7_mean_119 : decode cX7_mean 119 = .ok (.iload_n 3, 1) := by decide +kernel
theorem d7_mean_120 : decode cX7_mean 120 = .ok (.ifCond .ne 11, 3) := by decide +kernel
theorem d7_mean_123 : decode cX7_mean 123 = .ok (.iload 5, 2) := by decide +kernel
theorem d7_mean_125 : decode cX7_mean 125 = .ok (.iload 6, 2) := by decide +kernel
theorem d7_mean_127 : decode cX7_mean 127 = .ok (.idiv, 1) := by decide +kernel
theorem d7_mean_128 : decode cX7_mean 128 = .ok (.goto 8, 3) := by decide +kernel
theorem d7_mean_131 : decode cX7_mean 131 = .ok (.bipush 10, 2) := by decide +kernel
theorem d7_mean_133 : decode cX7_mean 133 = .ok (.iload 6, 2) := by decide +kernel
theorem d7_mean_135 : decode cX7_mean 135 = .ok (.idiv, 1) := by decide +kernel
theorem d7_mean_136 : decode cX7_mean 136 = .ok (.ireturn, 1) := by decide +kernel
def f7_mean_b53 : Nat → Mem → Int32 → Int32 → Int32 → Int32 → Int32 → Int32 → Option (Mem × Int32)
  | 0, _, _, _, _, _, _, _ => none
  | n + 1, σ, x1, x2, x3, x4, x5, x6 => if (σ 14 0) ≤ x6 then if ¬ (x2 < 0 ∨ 19 ≤ x2.toNatClampNeg) then (bm (mu σ 17 x2.toNatClampNeg x4) fun σ3 => Option.bind (f7_common x5 10) fun r4 => if x3 = 0 then if ¬ r4 = 0 then some (σ3, x5 / r4) else none else if ¬ r4 = 0 then some (σ3, 10 / r4) else none) else none else if ¬ (x6 < 0 ∨ 10 ≤ x6.toNatClampNeg) then if ¬ (x2 < 0 ∨ 19 ≤ x2.toNatClampNeg) then (bm (mu σ 17 x2.toNatClampNeg (σ 15 x6.toNatClampNeg)) fun σ4 => if ¬ (x6 < 0 ∨ 10 ≤ x6.toNatClampNeg) then ob (f7_costBy σ4 x1 0) fun σ6 r6 => f7_mean_b53 n σ6 x1 x2 x3 x4 (x5 + ((σ4 16 x6.toNatClampNeg) * r6)) (x6 + 1) else none) else none else none
set_option maxHeartbeats 4000000 in
set_option maxRecDepth 100000 in
theorem t7_mean_b53 {p : Program} {l : Launch} {e : Env} {s : State} {m : MethodId} {args : Array Value} {below : List Frame} {meth : Method} {c : Code} {w : WV} {σ' : Mem} {r : Int32} (S : CallFix p m c cX7_mean 7 s args gtbl RX7) (hr : meth.sig.returnType = (some .int)) (hlk : meth.locks = false) (hK : KS LM w s) : ∀ (n : Nat), ∀ (σ : Mem) (x1 : Int32) (x2 : Int32) (x3 : Int32) (x4 : Int32) (x5 : Int32) (x6 : Int32), f7_mean_b53  n σ x1 x2 x3 x4 x5 x6 = some (σ', r) → ∀ (H : Heap) (locs : List Loc), Rp EM LM w σ H → va_S (AW LM w) s.heap H locs → ∀ (ls : Array Slot), lv_has ls 7 [(0, .ref (w.2.2 0)), (1, .int x1), (2, .int x2), (3, .int x3), (4, .int x4), (5, .int x5), (6, .int x6)] → W p l e rm7_mean s m args below meth c H locs 0 0 (MQ below (Qw EM LM w σ' (some (.int r))) args s 0 0 (AW LM w)) (F0 m 53 ls []) := by
  obtain ⟨hx, hb, hml, hown, hts⟩ := id S
  intro n
  induction n with
  | zero =>
    intro σ x1 x2 x3 x4 x5 x6 h0
    cases (show none = _ from h0)
  | succ n ih =>
    intro σ x1 x2 x3 x4 x5 x6 h0 H locs hR hS ls hl
    rw [f7_mean_b53] at h0
    refine lv_iload hx hb d7_mean_53 (lv_at hl 6 rfl) ?_
    refine lv_aload_n hx hb d7_mean_55 rfl (lv_at hl 0 rfl) ?_
    refine g7_46 S hK hR d7_mean_56 ?_
    refine lv_iconst (v := 0) hx hb d7_mean_59 (by decide) ?_
    refine q_ld (k := 0) S hK hR (by decide) (eM_113 w _) (vin (by decide)) (by decide) d7_mean_60 ?_
    refine lv_icmp_ge (tgt := 102) hx hb d7_mean_61 (by decide) (fun hc1 => ?_) (fun hc1 => ?_)
    · have h0 := og_t hc1 h0
      refine lv_aload_n hx hb d7_mean_102 rfl (lv_at hl 0 rfl) ?_
      refine g7_55 S hK hR d7_mean_103 ?_
      refine lv_iload_n hx hb d7_mean_106 rfl (lv_at hl 2 rfl) ?_
      refine lv_iload hx hb d7_mean_107 (lv_at hl 4 rfl) ?_
      obtain ⟨hi2, h0⟩ := og_if h0
      obtain ⟨σ3, hm3, h0⟩ := og_m h0
      refine q_st S hK hR hS (by decide) (eM_116 w) hi2 rfl hm3 d7_mean_109 (fun H locs hR hS => ?_)
      refine lv_iload hx hb d7_mean_110 (lv_at hl 5 rfl) ?_
      refine lv_bipush (v := 10) hx hb d7_mean_112 (by decide) ?_
      obtain ⟨r4, hr4, h0⟩ := og_b h0
      refine k7_273 S  hr4 ⟨Nat.zero_le _, Nat.zero_le _⟩ ⟨Nat.le_of_ble_eq_true rfl, Nat.le_of_ble_eq_true rfl⟩ hl.1 (Nat.le_of_ble_eq_true rfl) d7_mean_114 ?_
      refine lv_istore (lv' := [(6, .int r4), (0, .ref (w.2.2 0)), (1, .int x1), (2, .int x2), (3, .int x3), (4, .int x4), (5, .int x5)]) hx hb d7_mean_117 hl (by decide) rfl (fun ls hl => ?_)
      refine lv_iload_n hx hb d7_mean_119 rfl (lv_at hl 4 rfl) ?_
      refine lv_if_ne (tgt := 131) hx hb d7_mean_120 (by decide) (fun hc5 => ?_) (fun hc5 => ?_)
      · have h0 := og_f hc5 h0
        refine lv_bipush (v := 10) hx hb d7_mean_131 (by decide) ?_
        refine lv_iload hx hb d7_mean_133 (lv_at hl 0 rfl) ?_
        obtain ⟨hi6, h0⟩ := og_if h0
        refine lv_idiv hx hb d7_mean_135 hi6 ?_
        exact q_iret S hr hlk hR hS h0 d7_mean_136
      · have h0 := og_t hc5 h0
        refine lv_iload hx hb d7_mean_123 (lv_at hl 6 rfl) ?_
        refine lv_iload hx hb d7_mean_125 (lv_at hl 0 rfl) ?_
        obtain ⟨hi6, h0⟩ := og_if h0
        refine lv_idiv hx hb d7_mean_127 hi6 ?_
        refine lv_goto (tgt := 136) hx hb d7_mean_128 (by decide) ?_
        exact q_iret S hr hlk hR hS h0 d7_mean_136
    · have h0 := og_f hc1 h0
      refine lv_aload_n hx hb d7_mean_64 rfl (lv_at hl 0 rfl) ?_
      refine g7_55 S hK hR d7_mean_65 ?_
      refine lv_iload_n hx hb d7_mean_68 rfl (lv_at hl 2 rfl) ?_
      refine lv_aload_n hx hb d7_mean_69 rfl (lv_at hl 0 rfl) ?_
      refine g7_49 S hK hR d7_mean_70 ?_
      refine lv_iload hx hb d7_mean_73 (lv_at hl 6 rfl) ?_
      obtain ⟨hi2, h0⟩ := og_if h0
      refine q_ld (k := x6.toNatClampNeg) S hK hR (by decide) (eM_114 w _) hi2 rfl d7_mean_75 ?_
      obtain ⟨hi3, h0⟩ := og_if h0
      obtain ⟨σ4, hm4, h0⟩ := og_m h0
      refine q_st S hK hR hS (by decide) (eM_116 w) hi3 rfl hm4 d7_mean_76 (fun H locs hR hS => ?_)
      refine lv_iload hx hb d7_mean_77 (lv_at hl 5 rfl) ?_
      refine lv_aload_n hx hb d7_mean_79 rfl (lv_at hl 0 rfl) ?_
      refine g7_52 S hK hR d7_mean_80 ?_
      refine lv_iload hx hb d7_mean_83 (lv_at hl 6 rfl) ?_
      obtain ⟨hi5, h0⟩ := og_if h0
      refine q_ld (k := x6.toNatClampNeg) S hK hR (by decide) (eM_115 w _) hi5 rfl d7_mean_85 ?_
      refine lv_aload_n hx hb d7_mean_86 rfl (lv_at hl 0 rfl) ?_
      refine lv_iload_n hx hb d7_mean_87 rfl (lv_at hl 1 rfl) ?_
      refine lv_iconst (v := 0) hx hb d7_mean_88 (by decide) ?_
      obtain ⟨σ6, r6, hr6, h0⟩ := og_o h0
      refine k7_257 S hK hR hS  hr6 ⟨Nat.zero_le _, Nat.zero_le _⟩ ⟨Nat.le_of_ble_eq_true rfl, Nat.le_of_ble_eq_true rfl⟩ hl.1 (Nat.le_of_ble_eq_true rfl) d7_mean_89 (fun H locs hR hS => ?_)
      refine lv_imul hx hb d7_mean_92 ?_
      refine lv_iadd hx hb d7_mean_93 ?_
      refine lv_istore (lv' := [(5, .int (x5 + ((σ4 16 x6.toNatClampNeg) * r6))), (0, .ref (w.2.2 0)), (1, .int x1), (2, .int x2), (3, .int x3), (4, .int x4), (6, .int x6)]) hx hb d7_mean_94 hl (by decide) rfl (fun ls hl => ?_)
      refine lv_iinc (v := x6 + 1) (lv' := [(6, .int (x6 + 1)), (5, .int (x5 + ((σ4 16 x6.toNatClampNeg) * r6))), (0, .ref (w.2.2 0)), (1, .int x1), (2, .int x2), (3, .int x3), (4, .int x4)]) hx hb d7_mean_96 hl (k := 6) rfl (ii1 _) (by decide) rfl (fun ls hl => ?_)
      refine lv_goto (tgt := 53) hx hb d7_mean_99 (by decide) ?_
      exact ih σ6 x1 x2 x3 x4 (x5 + ((σ4 16 x6.toNatClampNeg) * r6)) (x6 + 1) h0 _ _ hR hS _ (lv_sub hl [2, 3, 4, 5, 6, 1, 0] rfl)
def f7_mean (σ : Mem) (x1 : Int32) (x2 : Int32) (x3 : Int32) : Option (Mem × Int32) := Option.bind (f7_isRule x1) fun r1 => if r1 = 0 then some (σ, (-1)) else Option.bind (f7_isTrain σ x2) fun r3 => if r3 = 0 then some (σ, (-1)) else Option.bind (f7_in x3.toInt64 (0 : Int64) (1 : Int64)) fun r5 => if r5 = 0 then some (σ, (-1)) else if (σ 14 0) = 0 then some (σ, (-4)) else if ¬ (x2 < 0 ∨ 19 ≤ x2.toNatClampNeg) then f7_mean_b53 1000 σ x1 x2 x3 (σ 17 x2.toNatClampNeg) 0 0 else none
set_option maxHeartbeats 4000000 in
set_option maxRecDepth 100000 in
theorem c7_mean (l : Launch) {w : WV} {σ : Mem} {x1 : Int32} {x2 : Int32} {x3 : Int32} {σ' : Mem} {r : Int32} (h0 : f7_mean σ x1 x2 x3 = some (σ', r)) : Met l yX7_mean (wy yX7_mean cX7_mean 7 (some .int)) rm7_mean (Pw EM LM w [.ref (w.2.2 0), .int x1, .int x2, .int x3] σ) (Qw EM LM w σ' (some (.int r))) 0 0 (AW LM w) := by
  refine mk_met (by decide) (Nat.le_of_ble_eq_true rfl) ?_
  intro p e s m below meth c S hr hlk hK hR ls hl
  obtain ⟨hx, hb, hml, hown, hts⟩ := id S
  have hl : lv_has ls 7 [(0, .ref (w.2.2 0)), (1, .int x1), (2, .int x2), (3, .int x3)] := hl
  have hS : va_S (AW LM w) s.heap s.heap [] := va_S.rf
  unfold f7_mean at h0
  refine lv_iload_n hx hb d7_mean_0 rfl (lv_at hl 1 rfl) ?_
  obtain ⟨r1, hr1, h0⟩ := og_b h0
  refine k7_252 S  hr1 ⟨Nat.zero_le _, Nat.zero_le _⟩ ⟨Nat.le_of_ble_eq_true rfl, Nat.le_of_ble_eq_true rfl⟩ hl.1 (Nat.le_of_ble_eq_true rfl) d7_mean_1 ?_
  refine lv_if_eq (tgt := 25) hx hb d7_mean_4 (by decide) (fun hc2 => ?_) (fun hc2 => ?_)
  · have h0 := og_t hc2 h0
    refine lv_iconst (v := (-1)) hx hb d7_mean_25 (by decide) ?_
    exact q_iret S hr hlk hR hS h0 d7_mean_26
  · have h0 := og_f hc2 h0
    refine lv_aload_n hx hb d7_mean_7 rfl (lv_at hl 0 rfl) ?_
    refine lv_iload_n hx hb d7_mean_8 rfl (lv_at hl 2 rfl) ?_
    obtain ⟨r3, hr3, h0⟩ := og_b h0
    refine k7_173 S hK hR  hr3 ⟨Nat.zero_le _, Nat.zero_le _⟩ ⟨Nat.le_of_ble_eq_true rfl, Nat.le_of_ble_eq_true rfl⟩ hl.1 (Nat.le_of_ble_eq_true rfl) d7_mean_9 ?_
    refine lv_if_eq (tgt := 25) hx hb d7_mean_12 (by decide) (fun hc4 => ?_) (fun hc4 => ?_)
    · have h0 := og_t hc4 h0
      refine lv_iconst (v := (-1)) hx hb d7_mean_25 (by decide) ?_
      exact q_iret S hr hlk hR hS h0 d7_mean_26
    · have h0 := og_f hc4 h0
      refine lv_iload_n hx hb d7_mean_15 rfl (lv_at hl 3 rfl) ?_
      refine lv_i2l hx hb d7_mean_16 rfl ?_
      refine lv_lconst (v := 0) hx hb d7_mean_17 (by decide) ?_
      refine lv_lconst (v := 1) hx hb d7_mean_18 (by decide) ?_
      obtain ⟨r5, hr5, h0⟩ := og_b h0
      refine k7_113 S  hr5 ⟨Nat.zero_le _, Nat.zero_le _⟩ ⟨Nat.le_of_ble_eq_true rfl, Nat.le_of_ble_eq_true rfl⟩ hl.1 (Nat.le_of_ble_eq_true rfl) d7_mean_19 ?_
      refine lv_if_ne (tgt := 27) hx hb d7_mean_22 (by decide) (fun hc6 => ?_) (fun hc6 => ?_)
      · have h0 := og_f hc6 h0
        refine lv_aload_n hx hb d7_mean_27 rfl (lv_at hl 0 rfl) ?_
        refine g7_46 S hK hR d7_mean_28 ?_
        refine lv_iconst (v := 0) hx hb d7_mean_31 (by decide) ?_
        refine q_ld (k := 0) S hK hR (by decide) (eM_113 w _) (vin (by decide)) (by decide) d7_mean_32 ?_
        refine lv_if_ne (tgt := 39) hx hb d7_mean_33 (by decide) (fun hc7 => ?_) (fun hc7 => ?_)
        · have h0 := og_f hc7 h0
          refine lv_aload_n hx hb d7_mean_39 rfl (lv_at hl 0 rfl) ?_
          refine g7_55 S hK hR d7_mean_40 ?_
          refine lv_iload_n hx hb d7_mean_43 rfl (lv_at hl 2 rfl) ?_
          obtain ⟨hi8, h0⟩ := og_if h0
          refine q_ld (k := x2.toNatClampNeg) S hK hR (by decide) (eM_116 w _) hi8 rfl d7_mean_44 ?_
          refine lv_istore (lv' := [(4, .int (σ 17 x2.toNatClampNeg)), (0, .ref (w.2.2 0)), (1, .int x1), (2, .int x2), (3, .int x3)]) hx hb d7_mean_45 hl (by decide) rfl (fun ls hl => ?_)
          refine lv_iconst (v := 0) hx hb d7_mean_47 (by decide) ?_
          refine lv_istore (lv' := [(5, .int 0), (4, .int (σ 17 x2.toNatClampNeg)), (0, .ref (w.2.2 0)), (1, .int x1), (2, .int x2), (3, .int x3)]) hx hb d7_mean_48 hl (by decide) rfl (fun ls hl => ?_)
          refine lv_iconst (v := 0) hx hb d7_mean_50 (by decide) ?_
          refine lv_istore (lv' := [(6, .int 0), (5, .int 0), (4, .int (σ 17 x2.toNatClampNeg)), (0, .ref (w.2.2 0)), (1, .int x1), (2, .int x2), (3, .int x3)]) hx hb d7_mean_51 hl (by decide) rfl (fun ls hl => ?_)
          exact t7_mean_b53 S hr hlk hK 1000 σ x1 x2 x3 (σ 17 x2.toNatClampNeg) 0 0 h0 _ _ hR hS _ (lv_sub hl [3, 4, 5, 6, 2, 1, 0] rfl)
        · have h0 := og_t hc7 h0
          refine lv_bipush (v := (-4)) hx hb d7_mean_36 (by decide) ?_
          exact q_iret S hr hlk hR hS h0 d7_mean_38
      · have h0 := og_t hc6 h0
        refine lv_iconst (v := (-1)) hx hb d7_mean_25 (by decide) ?_
        exact q_iret S hr hlk hR hS h0 d7_mean_26
/-! FourTenGatesModel.day(III)I -/
abbrev rm7_day : Room := { frames := 7, cells := 0, slots := 0, locals := 161 }
theorem d7_day_0 : decode cX7_day 0 = .ok (.iload_n 1, 1) := by decide +kernel
theorem d7_day_1 : decode cX7_day 1 = .ok (.invokestatic 252, 3) := by decide +kernel
theorem d7_day_4 : decode cX7_day 4 = .ok (.ifCond .eq 25, 3) := by decide +kernel
theorem d7_day_7 : decode cX7_day 7 = .ok (.iload_n 2, 1) := by decide +kernel
theorem d7_day_8 : decode cX7_day 8 = .ok (.i2l, 1) := by decide +kernel
theorem d7_day_9 : decode cX7_day 9 = .ok (.lconst 0, 1) := by decide +kernel
theorem d7_day_10 : decode cX7_day 10 = .ok (.ldc2_w 278, 3) := by decide +kernel
theorem d7_day_13 : decode cX7_day 13 = .ok (.invokestatic 113, 3) := by decide +kernel
theorem d7_day_16 : decode cX7_day 16 = .ok (.ifCond .eq 13, 3) := by decide +kernel
theorem d7_day_19 : decode cX7_day 19 = .ok (.iload_n 3, 1) := by decide +kernel
theorem d7_day_20 : decode cX7_day 20 = .ok (.i2l, 1) := by decide +kernel
theorem d7_day_21 : decode cX7_day 21 = .ok (.lconst 0, 1) := by decide +kernel
theorem d7_day_22 : decode cX7_day 22 = .ok (.lconst 1, 1) := by decide +kernel
theorem d7_day_23 : decode cX7_day 23 = .ok (.invokestatic 113, 3) := by decide +kernel
theorem d7_day_26 : decode cX7_day 26 = .ok (.ifCond .ne 5, 3) := by decide +kernel
theorem d7_day_29 : decode cX7_day 29 = .ok (.iconst (-1), 1) := by decide +kernel
theorem d7_day_30 : decode cX7_day 30 = .ok (.ireturn, 1) := by decide +kernel
theorem d7_day_31 : decode cX7_day 31 = .ok (.iconst 0, 1) := by decide +kernel
theorem d7_day_32 : decode cX7_day 32 = .ok (.istore 4, 2) := by decide +kernel
theorem d7_day_34 : decode cX7_day 34 = .ok (.iload 4, 2) := by decide +kernel
theorem d7_day_36 : decode cX7_day 36 = .ok (.bipush 6, 2) := by decide +kernel
theorem d7_day_38 : decode cX7_day 38 = .ok (.if_icmp .ge 62, 3) := by decide +kernel
theorem d7_day_41 : decode cX7_day 41 = .ok (.aload_n 0, 1) := by decide +kernel
theorem d7_day_42 : decode cX7_day 42 = .ok (.getfield 92, 3) := by decide +kernel
theorem d7_day_45 : decode cX7_day 45 = .ok (.iload 4, 2) := by decide +kernel
theorem d7_day_47 : decode cX7_day 47 = .ok (.aload_n 0, 1) := by decide +kernel
theorem d7_day_48 : decode cX7_day 48 = .ok (.getfield 55, 3) := by decide +kernel
theorem d7_day_51 : decode cX7_day 51 = .ok (.iload 4, 2) := by decide +kernel
theorem d7_day_53 : decode cX7_day 53 = .ok (.iaload, 1) := by decide +kernel
theorem d7_day_54 : decode cX7_day 54 = .ok (.iastore, 1) := by decide +kernel
theorem d7_day_55 : decode cX7_day 55 = .ok (.ldc2_w 280, 3) := by decide +kernel
theorem d7_day_58 : decode cX7_day 58 = .ok (.iload_n 2, 1) := by decide +kernel
theorem d7_day_59 : decode cX7_day 59 = .ok (.i2l, 1) := by decide +kernel
theorem d7_day_60 : decode cX7_day 60 = .ok (.lmul, 1) := by decide +kernel
theorem d7_day_61 : decode cX7_day 61 = .ok (.ldc2_w 282, 3) := by decide +kernel
theorem d7_day_64 : decode cX7_day 64 = .ok (.iload 4, 2) := by decide +kernel
theorem d7_day_66 : decode cX7_day 66 = .ok (.i2l, 1) := by decide +kernel
theorem d7_day_67 : decode cX7_day 67 = .ok (.lmul, 1) := by decide +kernel
theorem d7_day_68 : decode cX7_day 68 = .ok (.ladd, 1) := by decide +kernel
theorem d7_day_69 : decode cX7_day 69 = .ok (.lconst 1, 1) := by decide +kernel
theorem d7_day_70 : decode cX7_day 70 = .ok (.ladd, 1) := by decide +kernel
theorem d7_day_71 : decode cX7_day 71 = .ok (.lstore 5, 2) := by decide +kernel
theorem d7_day_73 : decode cX7_day 73 = .ok (.aload_n 0, 1) := by decide +kernel
theorem d7_day_74 : decode cX7_day 74 = .ok (.getfield 55, 3) := by decide +kernel
theorem d7_day_77 : decode cX7_day 77 = .ok (.iload 4, 2) := by decide +kernel
theorem d7_day_79 : decode cX7_day 79 = .ok (.lload 5, 2) := by decide +kernel
theorem d7_day_81 : decode cX7_day 81 = .ok (.lload 5, 2) := by decide +kernel
theorem d7_day_83 : decode cX7_day 83 = .ok (.lmul, 1) := by decide +kernel
theorem d7_day_84 : decode cX7_day 84 = .ok (.ldc2_w 284, 3) := by decide +kernel
theorem d7_day_87 : decode cX7_day 87 = .ok (.lrem, 1) := by decide +kernel
theorem d7_day_88 : decode cX7_day 88 = .ok (.ldc2_w 286, 3) := by decide +kernel
theorem d7_day_91 : decode cX7_day 91 = .ok (.lrem, 1) := by decide +kernel
theorem d7_day_92 : decode cX7_day 92 = .ok (.l2i, 1) := by decide +kernel
theorem d7_day_93 : decode cX7_day 93 = .ok (.iastore, 1) := by decide +kernel
theorem d7_day_94 : decode cX7_day 94 = .ok (.iinc 4 1, 3) := by decide +kernel
theorem d7_day_97 : decode cX7_day 97 = .ok (.goto (-63), 3) := by decide +kernel
theorem d7_day_100 : decode cX7_day 100 = .ok (.aload_n 0, 1) := by decide +kernel
theorem d7_day_101 : decode cX7_day 101 = .ok (.iload_n 1, 1) := by decide +kernel
theorem d7_day_102 : decode cX7_day 102 = .ok (.iconst 0, 1) := by decide +kernel
theorem d7_day_103 : decode cX7_day 103 = .ok (.invokevirtual 257, 3) := by decide +kernel
theorem d7_day_106 : decode cX7_day 106 = .ok (.istore 4, 2) := by decide +kernel
theorem d7_day_108 : decode cX7_day 108 = .ok (.iconst 0, 1) := by decide +kernel
theorem d7_day_109 : decode cX7_day 109 = .ok (.istore 5, 2) := by decide +kernel
theorem d7_day_111 : decode cX7_day 111 = .ok (.iconst 0, 1) := by decide +kernel
theorem d7_day_112 : decode cX7_day 112 = .ok (.istore 6, 2) := by decide +kernel
theorem d7_day_114 : decode cX7_day 114 = .ok (.iload 6, 2) := by decide +kernel
theorem d7_day_116 : decode cX7_day 116 = .ok (.bipush 6, 2) := by decide +kernel
theorem d7_day_118 : decode cX7_day 118 = .ok (.if_icmp .ge 35, 3) := by decide +kernel
theorem d7_day_121 : decode cX7_day 121 = .ok (.aload_n 0, 1) := by decide +kernel
theorem d7_day_122 : decode cX7_day 122 = .ok (.getfield 55, 3) := by decide +kernel
theorem d7_day_125 : decode cX7_day 125 = .ok (.iload 6, 2) := by decide +kernel
theorem d7_day_127 : decode cX7_day 127 = .ok (.aload_n 0, 1) := by decide +kernel
theorem d7_day_128 : decode cX7_day 128 = .ok (.getfield 92, 3) := by decide +kernel
theorem d7_day_131 : decode cX7_day 131 = .ok (.iload 6, 2) := by decide +kernel
theorem d7_day_133 : decode cX7_day 133 = .ok (.iaload, 1) := by decide +kernel
theorem d7_day_134 : decode cX7_day 134 = .ok (.iastore, 1) := by decide +kernel
theorem d7_day_135 : decode cX7_day 135 = .ok (.iload 5, 2) := by decide +kernel
theorem d7_day_137 : decode cX7_day 137 = .ok (.aload_n 0, 1) := by decide +kernel
theorem d7_day_138 : decode cX7_day 138 = .ok (.getfield 79, 3) := by decide +kernel
theorem d7_day_141 : decode cX7_day 141 = .ok (.iload 6, 2) := by decide +kernel
theorem d7_day_143 : decode cX7_day 143 = .ok (.iaload, 1) := by decide +kernel
theorem d7_day_144 : decode cX7_day 144 = .ok (.iadd, 1) := by decide +kernel
theorem d7_day_145 : decode cX7_day 145 = .ok (.istore 5, 2) := by decide +kernel
theorem d7_day_147 : decode cX7_day 147 = .ok (.iinc 6 1, 3) := by decide +kernel
theorem d7_day_150 : decode cX7_day 150 = .ok (.goto (-36), 3) := by decide +kernel
theorem d7_day_153 : decode cX7_day 153 = .ok (.iload_n 3, 1) := by decide +kernel
theorem d7_day_154 : decode cX7_day 154 = .ok (.ifCond .ne 8, 3) := by decide +kernel
theorem d7_day_157 : decode cX7_day 157 = .ok (.iload 4, 2) := by decide +kernel
theorem d7_day_159 : decode cX7_day 159 = .ok (.goto 5, 3) := by decide +kernel
theorem d7_day_162 : decode cX7_day 162 = .ok (.iload 5, 2) := by decide +kernel
theorem d7_day_164 : decode cX7_day 164 = .ok (.ireturn, 1) := by decide +kernel
def f7_day_b114 : Nat → Mem → Int32 → Int32 → Int32 → Int32 → Option (Mem × Int32)
  | 0, _, _, _, _, _ => none
  | n + 1, σ, x3, x4, x5, x6 => if 6 ≤ x6 then if x3 = 0 then some (σ, x4) else some (σ, x5) else if ¬ (x6 < 0 ∨ 6 ≤ x6.toNatClampNeg) then if ¬ (x6 < 0 ∨ 19 ≤ x6.toNatClampNeg) then (bm (mu σ 17 x6.toNatClampNeg (σ 38 x6.toNatClampNeg)) fun σ4 => if ¬ (x6 < 0 ∨ 6 ≤ x6.toNatClampNeg) then f7_day_b114 n σ4 x3 x4 (x5 + (σ4 29 x6.toNatClampNeg)) (x6 + 1) else none) else none else none
set_option maxHeartbeats 4000000 in
set_option maxRecDepth 100000 in
theorem t7_day_b114 {p : Program} {l : Launch} {e : Env} {s : State} {m : MethodId} {args : Array Value} {below : List Frame} {meth : Method} {c : Code} {w : WV} {σ' : Mem} {r : Int32} (S : CallFix p m c cX7_day 7 s args gtbl RX7) (hr : meth.sig.returnType = (some .int)) (hlk : meth.locks = false) (hK : KS LM w s) : ∀ (n : Nat), ∀ (σ : Mem) (x3 : Int32) (x4 : Int32) (x5 : Int32) (x6 : Int32), f7_day_b114  n σ x3 x4 x5 x6 = some (σ', r) → ∀ (H : Heap) (locs : List Loc), Rp EM LM w σ H → va_S (AW LM w) s.heap H locs → ∀ (ls : Array Slot), lv_has ls 7 [(0, .ref (w.2.2 0)), (3, .int x3), (4, .int x4), (5, .int x5), (6, .int x6)] → W p l e rm7_day s m args below meth c H locs 0 0 (MQ below (Qw EM LM w σ' (some (.int r))) args s 0 0 (AW LM w)) (F0 m 114 ls []) := by
  obtain ⟨hx, hb, hml, hown, hts⟩ := id S
  intro n
  induction n with
  | zero =>
    intro σ x3 x4 x5 x6 h0
    cases (show none = _ from h0)
  | succ n ih =>
    intro σ x3 x4 x5 x6 h0 H locs hR hS ls hl
    rw [f7_day_b114] at h0
    refine lv_iload hx hb d7_day_114 (lv_at hl 4 rfl) ?_
    refine lv_bipush (v := 6) hx hb d7_day_116 (by decide) ?_
    refine lv_icmp_ge (tgt := 153) hx hb d7_day_118 (by decide) (fun hc1 => ?_) (fun hc1 => ?_)
    · have h0 := og_t hc1 h0
      refine lv_iload_n hx hb d7_day_153 rfl (lv_at hl 1 rfl) ?_
      refine lv_if_ne (tgt := 162) hx hb d7_day_154 (by decide) (fun hc2 => ?_) (fun hc2 => ?_)
      · have h0 := og_f hc2 h0
        refine lv_iload hx hb d7_day_162 (lv_at hl 3 rfl) ?_
        exact q_iret S hr hlk hR hS h0 d7_day_164
      · have h0 := og_t hc2 h0
        refine lv_iload hx hb d7_day_157 (lv_at hl 2 rfl) ?_
        refine lv_goto (tgt := 164) hx hb d7_day_159 (by decide) ?_
        exact q_iret S hr hlk hR hS h0 d7_day_164
    · have h0 := og_f hc1 h0
      refine lv_aload_n hx hb d7_day_121 rfl (lv_at hl 0 rfl) ?_
      refine g7_55 S hK hR d7_day_122 ?_
      refine lv_iload hx hb d7_day_125 (lv_at hl 4 rfl) ?_
      refine lv_aload_n hx hb d7_day_127 rfl (lv_at hl 0 rfl) ?_
      refine g7_92 S hK hR d7_day_128 ?_
      refine lv_iload hx hb d7_day_131 (lv_at hl 4 rfl) ?_
      obtain ⟨hi2, h0⟩ := og_if h0
      refine q_ld (k := x6.toNatClampNeg) S hK hR (by decide) (eM_137 w _) hi2 rfl d7_day_133 ?_
      obtain ⟨hi3, h0⟩ := og_if h0
      obtain ⟨σ4, hm4, h0⟩ := og_m h0
      refine q_st S hK hR hS (by decide) (eM_116 w) hi3 rfl hm4 d7_day_134 (fun H locs hR hS => ?_)
      refine lv_iload hx hb d7_day_135 (lv_at hl 3 rfl) ?_
      refine lv_aload_n hx hb d7_day_137 rfl (lv_at hl 0 rfl) ?_
      refine g7_79 S hK hR d7_day_138 ?_
      refine lv_iload hx hb d7_day_141 (lv_at hl 4 rfl) ?_
      obtain ⟨hi5, h0⟩ := og_if h0
      refine q_ld (k := x6.toNatClampNeg) S hK hR (by decide) (eM_128 w _) hi5 rfl d7_day_143 ?_
      refine lv_iadd hx hb d7_day_144 ?_
      refine lv_istore (lv' := [(5, .int (x5 + (σ4 29 x6.toNatClampNeg))), (0, .ref (w.2.2 0)), (3, .int x3), (4, .int x4), (6, .int x6)]) hx hb d7_day_145 hl (by decide) rfl (fun ls hl => ?_)
      refine lv_iinc (v := x6 + 1) (lv' := [(6, .int (x6 + 1)), (5, .int (x5 + (σ4 29 x6.toNatClampNeg))), (0, .ref (w.2.2 0)), (3, .int x3), (4, .int x4)]) hx hb d7_day_147 hl (k := 4) rfl (ii1 _) (by decide) rfl (fun ls hl => ?_)
      refine lv_goto (tgt := 114) hx hb d7_day_150 (by decide) ?_
      exact ih σ4 x3 x4 (x5 + (σ4 29 x6.toNatClampNeg)) (x6 + 1) h0 _ _ hR hS _ (lv_sub hl [2, 3, 4, 1, 0] rfl)
def f7_day_b34 : Nat → Mem → Int32 → Int32 → Int32 → Int32 → Option (Mem × Int32)
  | 0, _, _, _, _, _ => none
  | n + 1, σ, x1, x2, x3, x4 => if 6 ≤ x4 then ob (f7_costBy σ x1 0) fun σ2 r2 => f7_day_b114 1000 σ2 x3 r2 0 0 else if ¬ (x4 < 0 ∨ 19 ≤ x4.toNatClampNeg) then if ¬ (x4 < 0 ∨ 6 ≤ x4.toNatClampNeg) then (bm (mu σ 38 x4.toNatClampNeg (σ 17 x4.toNatClampNeg)) fun σ4 => if ¬ (x4 < 0 ∨ 19 ≤ x4.toNatClampNeg) then (bm (mu σ4 17 x4.toNatClampNeg ((((((((7919 : Int64) * x2.toInt64) + ((6151 : Int64) * x4.toInt64)) + (1 : Int64)) * ((((7919 : Int64) * x2.toInt64) + ((6151 : Int64) * x4.toInt64)) + (1 : Int64))) - (((((7919 : Int64) * x2.toInt64) + ((6151 : Int64) * x4.toInt64)) + (1 : Int64)) * ((((7919 : Int64) * x2.toInt64) + ((6151 : Int64) * x4.toInt64)) + (1 : Int64))) / (65521 : Int64) * (65521 : Int64)) - ((((((7919 : Int64) * x2.toInt64) + ((6151 : Int64) * x4.toInt64)) + (1 : Int64)) * ((((7919 : Int64) * x2.toInt64) + ((6151 : Int64) * x4.toInt64)) + (1 : Int64))) - (((((7919 : Int64) * x2.toInt64) + ((6151 : Int64) * x4.toInt64)) + (1 : Int64)) * ((((7919 : Int64) * x2.toInt64) + ((6151 : Int64) * x4.toInt64)) + (1 : Int64))) / (65521 : Int64) * (65521 : Int64)) / (6 : Int64) * (6 : Int64)).toInt32)) fun σ6 => f7_day_b34 n σ6 x1 x2 x3 (x4 + 1)) else none) else none else none
set_option maxHeartbeats 4000000 in
set_option maxRecDepth 100000 in
theorem t7_day_b34 {p : Program} {l : Launch} {e : Env} {s : State} {m : MethodId} {args : Array Value} {below : List Frame} {meth : Method} {c : Code} {w : WV} {σ' : Mem} {r : Int32} (S : CallFix p m c cX7_day 7 s args gtbl RX7) (hr : meth.sig.returnType = (some .int)) (hlk : meth.locks = false) (hK : KS LM w s) : ∀ (n : Nat), ∀ (σ : Mem) (x1 : Int32) (x2 : Int32) (x3 : Int32) (x4 : Int32), f7_day_b34  n σ x1 x2 x3 x4 = some (σ', r) → ∀ (H : Heap) (locs : List Loc), Rp EM LM w σ H → va_S (AW LM w) s.heap H locs → ∀ (ls : Array Slot), lv_has ls 7 [(0, .ref (w.2.2 0)), (1, .int x1), (2, .int x2), (3, .int x3), (4, .int x4)] → W p l e rm7_day s m args below meth c H locs 0 0 (MQ below (Qw EM LM w σ' (some (.int r))) args s 0 0 (AW LM w)) (F0 m 34 ls []) := by
  obtain ⟨hx, hb, hml, hown, hts⟩ := id S
  intro n
  induction n with
  | zero =>
    intro σ x1 x2 x3 x4 h0
    cases (show none = _ from h0)
  | succ n ih =>
    intro σ x1 x2 x3 x4 h0 H locs hR hS ls hl
    rw [f7_day_b34] at h0
    refine lv_iload hx hb d7_day_34 (lv_at hl 4 rfl) ?_
    refine lv_bipush (v := 6) hx hb d7_day_36 (by decide) ?_
    refine lv_icmp_ge (tgt := 100) hx hb d7_day_38 (by decide) (fun hc1 => ?_) (fun hc1 => ?_)
    · have h0 := og_t hc1 h0
      refine lv_aload_n hx hb d7_day_100 rfl (lv_at hl 0 rfl) ?_
      refine lv_iload_n hx hb d7_day_101 rfl (lv_at hl 1 rfl) ?_
      refine lv_iconst (v := 0) hx hb d7_day_102 (by decide) ?_
      obtain ⟨σ2, r2, hr2, h0⟩ := og_o h0
      refine k7_257 S hK hR hS  hr2 ⟨Nat.zero_le _, Nat.zero_le _⟩ ⟨Nat.le_of_ble_eq_true rfl, Nat.le_of_ble_eq_true rfl⟩ hl.1 (Nat.le_of_ble_eq_true rfl) d7_day_103 (fun H locs hR hS => ?_)
      refine lv_istore (lv' := [(4, .int r2), (0, .ref (w.2.2 0)), (1, .int x1), (2, .int x2), (3, .int x3)]) hx hb d7_day_106 hl (by decide) rfl (fun ls hl => ?_)
      refine lv_iconst (v := 0) hx hb d7_day_108 (by decide) ?_
      refine lv_istore (lv' := [(5, .int 0), (4, .int r2), (0, .ref (w.2.2 0)), (1, .int x1), (2, .int x2), (3, .int x3)]) hx hb d7_day_109 hl (by decide) rfl (fun ls hl => ?_)
      refine lv_iconst (v := 0) hx hb d7_day_111 (by decide) ?_
      refine lv_istore (lv' := [(6, .int 0), (5, .int 0), (4, .int r2), (0, .ref (w.2.2 0)), (1, .int x1), (2, .int x2), (3, .int x3)]) hx hb d7_day_112 hl (by decide) rfl (fun ls hl => ?_)
      exact t7_day_b114 S hr hlk hK 1000 σ2 x3 r2 0 0 h0 _ _ hR hS _ (lv_sub hl [3, 6, 2, 1, 0] rfl)
    · have h0 := og_f hc1 h0
      refine lv_aload_n hx hb d7_day_41 rfl (lv_at hl 0 rfl) ?_
      refine g7_92 S hK hR d7_day_42 ?_
      refine lv_iload hx hb d7_day_45 (lv_at hl 4 rfl) ?_
      refine lv_aload_n hx hb d7_day_47 rfl (lv_at hl 0 rfl) ?_
      refine g7_55 S hK hR d7_day_48 ?_
      refine lv_iload hx hb d7_day_51 (lv_at hl 4 rfl) ?_
      obtain ⟨hi2, h0⟩ := og_if h0
      refine q_ld (k := x4.toNatClampNeg) S hK hR (by decide) (eM_116 w _) hi2 rfl d7_day_53 ?_
      obtain ⟨hi3, h0⟩ := og_if h0
      obtain ⟨σ4, hm4, h0⟩ := og_m h0
      refine q_st S hK hR hS (by decide) (eM_137 w) hi3 rfl hm4 d7_day_54 (fun H locs hR hS => ?_)
      refine lv_ldc2 (v := 7919) hx hb hown (hts _ (gt_at 1281 (by decide +kernel) (by decide +kernel))) d7_day_55 ?_
      refine lv_iload_n hx hb d7_day_58 rfl (lv_at hl 2 rfl) ?_
      refine lv_i2l hx hb d7_day_59 rfl ?_
      refine lv_lmul hx hb d7_day_60 ?_
      refine lv_ldc2 (v := 6151) hx hb hown (hts _ (gt_at 1282 (by decide +kernel) (by decide +kernel))) d7_day_61 ?_
      refine lv_iload hx hb d7_day_64 (lv_at hl 4 rfl) ?_
      refine lv_i2l hx hb d7_day_66 rfl ?_
      refine lv_lmul hx hb d7_day_67 ?_
      refine lv_ladd hx hb d7_day_68 ?_
      refine lv_lconst (v := 1) hx hb d7_day_69 (by decide) ?_
      refine lv_ladd hx hb d7_day_70 ?_
      refine lv_lstore (lv' := [(5, .long ((((7919 : Int64) * x2.toInt64) + ((6151 : Int64) * x4.toInt64)) + (1 : Int64))), (0, .ref (w.2.2 0)), (1, .int x1), (2, .int x2), (3, .int x3), (4, .int x4)]) hx hb d7_day_71 hl (by decide) rfl (fun ls hl => ?_)
      refine lv_aload_n hx hb d7_day_73 rfl (lv_at hl 1 rfl) ?_
      refine g7_55 S hK hR d7_day_74 ?_
      refine lv_iload hx hb d7_day_77 (lv_at hl 5 rfl) ?_
      refine lv_lload hx hb d7_day_79 (lv_at hl 0 rfl) ?_
      refine lv_lload hx hb d7_day_81 (lv_at hl 0 rfl) ?_
      refine lv_lmul hx hb d7_day_83 ?_
      refine lv_ldc2 (v := 65521) hx hb hown (hts _ (gt_at 1283 (by decide +kernel) (by decide +kernel))) d7_day_84 ?_
      refine lv_lrem hx hb d7_day_87 (by decide) ?_
      refine lv_ldc2 (v := 6) hx hb hown (hts _ (gt_at 1284 (by decide +kernel) (by decide +kernel))) d7_day_88 ?_
      refine lv_lrem hx hb d7_day_91 (by decide) ?_
      refine lv_l2i hx hb d7_day_92 rfl ?_
      obtain ⟨hi5, h0⟩ := og_if h0
      obtain ⟨σ6, hm6, h0⟩ := og_m h0
      refine q_st S hK hR hS (by decide) (eM_116 w) hi5 rfl hm6 d7_day_93 (fun H locs hR hS => ?_)
      refine lv_iinc (v := x4 + 1) (lv' := [(4, .int (x4 + 1)), (5, .long ((((7919 : Int64) * x2.toInt64) + ((6151 : Int64) * x4.toInt64)) + (1 : Int64))), (0, .ref (w.2.2 0)), (1, .int x1), (2, .int x2), (3, .int x3)]) hx hb d7_day_94 hl (k := 5) rfl (ii1 _) (by decide) rfl (fun ls hl => ?_)
      refine lv_goto (tgt := 34) hx hb d7_day_97 (by decide) ?_
      exact ih σ6 x1 x2 x3 (x4 + 1) h0 _ _ hR hS _ (lv_sub hl [2, 3, 4, 5, 0] rfl)
def f7_day (σ : Mem) (x1 : Int32) (x2 : Int32) (x3 : Int32) : Option (Mem × Int32) := Option.bind (f7_isRule x1) fun r1 => if r1 = 0 then some (σ, (-1)) else Option.bind (f7_in x2.toInt64 (0 : Int64) (9999 : Int64)) fun r3 => if r3 = 0 then some (σ, (-1)) else Option.bind (f7_in x3.toInt64 (0 : Int64) (1 : Int64)) fun r5 => if r5 = 0 then some (σ, (-1)) else f7_day_b34 1000 σ x1 x2 x3 0
set_option maxHeartbeats 4000000 in
set_option maxRecDepth 100000 in
theorem c7_day (l : Launch) {w : WV} {σ : Mem} {x1 : Int32} {x2 : Int32} {x3 : Int32} {σ' : Mem} {r : Int32} (h0 : f7_day σ x1 x2 x3 = some (σ', r)) : Met l yX7_day (wy yX7_day cX7_day 7 (some .int)) rm7_day (Pw EM LM w [.ref (w.2.2 0), .int x1, .int x2, .int x3] σ) (Qw EM LM w σ' (some (.int r))) 0 0 (AW LM w) := by
  refine mk_met (by decide) (Nat.le_of_ble_eq_true rfl) ?_
  intro p e s m below meth c S hr hlk hK hR ls hl
  obtain ⟨hx, hb, hml, hown, hts⟩ := id S
  have hl : lv_has ls 7 [(0, .ref (w.2.2 0)), (1, .int x1), (2, .int x2), (3, .int x3)] := hl
  have hS : va_S (AW LM w) s.heap s.heap [] := va_S.rf
  unfold f7_day at h0
  refine lv_iload_n hx hb d7_day_0 rfl (lv_at hl 1 rfl) ?_
  obtain ⟨r1, hr1, h0⟩ := og_b h0
  refine k7_252 S  hr1 ⟨Nat.zero_le _, Nat.zero_le _⟩ ⟨Nat.le_of_ble_eq_true rfl, Nat.le_of_ble_eq_true rfl⟩ hl.1 (Nat.le_of_ble_eq_true rfl) d7_day_1 ?_
  refine lv_if_eq (tgt := 29) hx hb d7_day_4 (by decide) (fun hc2 => ?_) (fun hc2 => ?_)
  · have h0 := og_t hc2 h0
    refine lv_iconst (v := (-1)) hx hb d7_day_29 (by decide) ?_
    exact q_iret S hr hlk hR hS h0 d7_day_30
  · have h0 := og_f hc2 h0
    refine lv_iload_n hx hb d7_day_7 rfl (lv_at hl 2 rfl) ?_
    refine lv_i2l hx hb d7_day_8 rfl ?_
    refine lv_lconst (v := 0) hx hb d7_day_9 (by decide) ?_
    refine lv_ldc2 (v := 9999) hx hb hown (hts _ (gt_at 1280 (by decide +kernel) (by decide +kernel))) d7_day_10 ?_
    obtain ⟨r3, hr3, h0⟩ := og_b h0
    refine k7_113 S  hr3 ⟨Nat.zero_le _, Nat.zero_le _⟩ ⟨Nat.le_of_ble_eq_true rfl, Nat.le_of_ble_eq_true rfl⟩ hl.1 (Nat.le_of_ble_eq_true rfl) d7_day_13 ?_
    refine lv_if_eq (tgt := 29) hx hb d7_day_16 (by decide) (fun hc4 => ?_) (fun hc4 => ?_)
    · have h0 := og_t hc4 h0
      refine lv_iconst (v := (-1)) hx hb d7_day_29 (by decide) ?_
      exact q_iret S hr hlk hR hS h0 d7_day_30
    · have h0 := og_f hc4 h0
      refine lv_iload_n hx hb d7_day_19 rfl (lv_at hl 3 rfl) ?_
      refine lv_i2l hx hb d7_day_20 rfl ?_
      refine lv_lconst (v := 0) hx hb d7_day_21 (by decide) ?_
      refine lv_lconst (v := 1) hx hb d7_day_22 (by decide) ?_
      obtain ⟨r5, hr5, h0⟩ := og_b h0
      refine k7_113 S  hr5 ⟨Nat.zero_le _, Nat.zero_le _⟩ ⟨Nat.le_of_ble_eq_true rfl, Nat.le_of_ble_eq_true rfl⟩ hl.1 (Nat.le_of_ble_eq_true rfl) d7_day_23 ?_
      refine lv_if_ne (tgt := 31) hx hb d7_day_26 (by decide) (fun hc6 => ?_) (fun hc6 => ?_)
      · have h0 := og_f hc6 h0
        refine lv_iconst (v := 0) hx hb d7_day_31 (by decide) ?_
        refine lv_istore (lv' := [(4, .int 0), (0, .ref (w.2.2 0)), (1, .int x1), (2, .int x2), (3, .int x3)]) hx hb d7_day_32 hl (by decide) rfl (fun ls hl => ?_)
        exact t7_day_b34 S hr hlk hK 1000 σ x1 x2 x3 0 h0 _ _ hR hS _ (lv_sub hl [1, 2, 3, 4, 0] rfl)
      · have h0 := og_t hc6 h0
        refine lv_iconst (v := (-1)) hx hb d7_day_29 (by decide) ?_
        exact q_iret S hr hlk hR hS h0 d7_day_30
/-! FourTenGatesModel.keep()I -/
abbrev rm7_keep : Room := { frames := 0, cells := 0, slots := 0, locals := 0 }
theorem d7_keep_0 : decode cX7_keep 0 = .ok (.aload_n 0, 1) := by decide +kernel
theorem d7_keep_1 : decode cX7_keep 1 = .ok (.getfield 162, 3) := by decide +kernel
theorem d7_keep_4 : decode cX7_keep 4 = .ok (.iconst 2, 1) := by decide +kernel
theorem d7_keep_5 : decode cX7_keep 5 = .ok (.if_icmp .ne 6, 3) := by decide +kernel
theorem d7_keep_8 : decode cX7_keep 8 = .ok (.bipush (-3), 2) := by decide +kernel
theorem d7_keep_10 : decode cX7_keep 10 = .ok (.ireturn, 1) := by decide +kernel
theorem d7_keep_11 : decode cX7_keep 11 = .ok (.iconst 0, 1) := by decide +kernel
theorem d7_keep_12 : decode cX7_keep 12 = .ok (.istore_n 1, 1) := by decide +kernel
theorem d7_keep_13 : decode cX7_keep 13 = .ok (.iload_n 1, 1) := by decide +kernel
theorem d7_keep_14 : decode cX7_keep 14 = .ok (.bipush 19, 2) := by decide +kernel
theorem d7_keep_16 : decode cX7_keep 16 = .ok (.if_icmp .ge 29, 3) := by decide +kernel
theorem d7_keep_19 : decode cX7_keep 19 = .ok (.aload_n 0, 1) := by decide +kernel
theorem d7_keep_20 : decode cX7_keep 20 = .ok (.getfield 61, 3) := by decide +kernel
theorem d7_keep_23 : decode cX7_keep 23 = .ok (.bipush 19, 2) := by decide +kernel
theorem d7_keep_25 : decode cX7_keep 25 = .ok (.aload_n 0, 1) := by decide +kernel
theorem d7_keep_26 : decode cX7_keep 26 = .ok (.getfield 162, 3) := by decide +kernel
theorem d7_keep_29 : decode cX7_keep 29 = .ok (.imul, 1) := by decide +kernel
theorem d7_keep_30 : decode cX7_keep 30 = .ok (.iload_n 1, 1) := by decide +kernel
theorem d7_keep_31 : decode cX7_keep 31 = .ok (.iadd, 1) := by decide +kernel
theorem d7_keep_32 : decode cX7_keep 32 = .ok (.aload_n 0, 1) := by decide +kernel
theorem d7_keep_33 : decode cX7_keep 33 = .ok (.getfield 55, 3) := by decide +kernel
theorem d7_keep_36 : decode cX7_keep 36 = .ok (.iload_n 1, 1) := by decide +kernel
theorem d7_keep_37 : decode cX7_keep 37 = .ok (.iaload, 1) := by decide +kernel
theorem d7_keep_38 : decode cX7_keep 38 = .ok (.iastore, 1) := by decide +kernel
theorem d7_keep_39 : decode cX7_keep 39 = .ok (.iinc 1 1, 3) := by decide +kernel
theorem d7_keep_42 : decode cX7_keep 42 = .ok (.goto (-29), 3) := by decide +kernel
theorem d7_keep_45 : decode cX7_keep 45 = .ok (.aload_n 0, 1) := by decide +kernel
theorem d7_keep_46 : decode cX7_keep 46 = .ok (.dup, 1) := by decide +kernel
theorem d7_keep_47 : decode cX7_keep 47 = .ok (.getfield 162, 3) := by decide +kernel
theorem d7_keep_50 : decode cX7_keep 50 = .ok (.iconst 1, 1) := by decide +kernel
theorem d7_keep_51 : decode cX7_keep 51 = .ok (.iadd, 1) := by decide +kernel
theorem d7_keep_52 : decode cX7_keep 52 = .ok (.putfield 162, 3) := by decide +kernel
theorem d7_keep_55 : decode cX7_keep 55 = .ok (.aload_n 0, 1) := by decide +kernel
theorem d7_keep_56 : decode cX7_keep 56 = .ok (.getfield 162, 3) := by decide +kernel
theorem d7_keep_59 : decode cX7_keep 59 = .ok (.ireturn, 1) := by decide +kernel
def f7_keep_b13 : Nat → Mem → Int32 → Option (Mem × Int32)
  | 0, _, _ => none
  | n + 1, σ, x1 => if 19 ≤ x1 then bm (mu σ 0 20 ((σ 0 20) + 1)) fun σ2 => some (σ2, σ2 0 20) else if ¬ (x1 < 0 ∨ 19 ≤ x1.toNatClampNeg) then if ¬ ((19 * (σ 0 20)) + x1 < 0 ∨ 38 ≤ ((19 * (σ 0 20)) + x1).toNatClampNeg) then (bm (mu σ 20 (((19 * (σ 0 20)) + x1).toNatClampNeg) (σ 17 x1.toNatClampNeg)) fun σ4 => f7_keep_b13 n σ4 (x1 + 1)) else none else none
set_option maxHeartbeats 4000000 in
set_option maxRecDepth 100000 in
theorem t7_keep_b13 {p : Program} {l : Launch} {e : Env} {s : State} {m : MethodId} {args : Array Value} {below : List Frame} {meth : Method} {c : Code} {w : WV} {σ' : Mem} {r : Int32} (S : CallFix p m c cX7_keep 2 s args gtbl RX7) (hr : meth.sig.returnType = (some .int)) (hlk : meth.locks = false) (hK : KS LM w s) : ∀ (n : Nat), ∀ (σ : Mem) (x1 : Int32), f7_keep_b13  n σ x1 = some (σ', r) → ∀ (H : Heap) (locs : List Loc), Rp EM LM w σ H → va_S (AW LM w) s.heap H locs → ∀ (ls : Array Slot), lv_has ls 2 [(0, .ref (w.2.2 0)), (1, .int x1)] → W p l e rm7_keep s m args below meth c H locs 0 0 (MQ below (Qw EM LM w σ' (some (.int r))) args s 0 0 (AW LM w)) (F0 m 13 ls []) := by
  obtain ⟨hx, hb, hml, hown, hts⟩ := id S
  intro n
  induction n with
  | zero =>
    intro σ x1 h0
    cases (show none = _ from h0)
  | succ n ih =>
    intro σ x1 h0 H locs hR hS ls hl
    rw [f7_keep_b13] at h0
    refine lv_iload_n hx hb d7_keep_13 rfl (lv_at hl 1 rfl) ?_
    refine lv_bipush (v := 19) hx hb d7_keep_14 (by decide) ?_
    refine lv_icmp_ge (tgt := 45) hx hb d7_keep_16 (by decide) (fun hc1 => ?_) (fun hc1 => ?_)
    · have h0 := og_t hc1 h0
      refine lv_aload_n hx hb d7_keep_45 rfl (lv_at hl 0 rfl) ?_
      refine lv_dup hx hb d7_keep_46 rfl ?_
      refine g7_162 S hK hR d7_keep_47 ?_
      refine lv_iconst (v := 1) hx hb d7_keep_50 (by decide) ?_
      refine lv_iadd hx hb d7_keep_51 ?_
      obtain ⟨σ2, hm2, h0⟩ := og_m h0
      refine u7_162 S hK hR hS hm2 d7_keep_52 (fun H locs hR hS => ?_)
      refine lv_aload_n hx hb d7_keep_55 rfl (lv_at hl 0 rfl) ?_
      refine g7_162 S hK hR d7_keep_56 ?_
      exact q_iret S hr hlk hR hS h0 d7_keep_59
    · have h0 := og_f hc1 h0
      refine lv_aload_n hx hb d7_keep_19 rfl (lv_at hl 0 rfl) ?_
      refine g7_61 S hK hR d7_keep_20 ?_
      refine lv_bipush (v := 19) hx hb d7_keep_23 (by decide) ?_
      refine lv_aload_n hx hb d7_keep_25 rfl (lv_at hl 0 rfl) ?_
      refine g7_162 S hK hR d7_keep_26 ?_
      refine lv_imul hx hb d7_keep_29 ?_
      refine lv_iload_n hx hb d7_keep_30 rfl (lv_at hl 1 rfl) ?_
      refine lv_iadd hx hb d7_keep_31 ?_
      refine lv_aload_n hx hb d7_keep_32 rfl (lv_at hl 0 rfl) ?_
      refine g7_55 S hK hR d7_keep_33 ?_
      refine lv_iload_n hx hb d7_keep_36 rfl (lv_at hl 1 rfl) ?_
      obtain ⟨hi2, h0⟩ := og_if h0
      refine q_ld (k := x1.toNatClampNeg) S hK hR (by decide) (eM_116 w _) hi2 rfl d7_keep_37 ?_
      obtain ⟨hi3, h0⟩ := og_if h0
      obtain ⟨σ4, hm4, h0⟩ := og_m h0
      refine q_st S hK hR hS (by decide) (eM_119 w) hi3 rfl hm4 d7_keep_38 (fun H locs hR hS => ?_)
      refine lv_iinc (v := x1 + 1) (lv' := [(1, .int (x1 + 1)), (0, .ref (w.2.2 0))]) hx hb d7_keep_39 hl (k := 1) rfl (ii1 _) (by decide) rfl (fun ls hl => ?_)
      refine lv_goto (tgt := 13) hx hb d7_keep_42 (by decide) ?_
      exact ih σ4 (x1 + 1) h0 _ _ hR hS _ (lv_sub hl [1, 0] rfl)
def f7_keep (σ : Mem) : Option (Mem × Int32) := if (σ 0 20) = 2 then some (σ, (-3)) else f7_keep_b13 1000 σ 0
set_option maxHeartbeats 4000000 in
set_option maxRecDepth 100000 in
theorem c7_keep (l : Launch) {w : WV} {σ : Mem} {σ' : Mem} {r : Int32} (h0 : f7_keep σ = some (σ', r)) : Met l yX7_keep (wy yX7_keep cX7_keep 2 (some .int)) rm7_keep (Pw EM LM w [.ref (w.2.2 0)] σ) (Qw EM LM w σ' (some (.int r))) 0 0 (AW LM w) := by
  refine mk_met (by decide) (Nat.le_of_ble_eq_true rfl) ?_
  intro p e s m below meth c S hr hlk hK hR ls hl
  obtain ⟨hx, hb, hml, hown, hts⟩ := id S
  have hl : lv_has ls 2 [(0, .ref (w.2.2 0))] := hl
  have hS : va_S (AW LM w) s.heap s.heap [] := va_S.rf
  unfold f7_keep at h0
  refine lv_aload_n hx hb d7_keep_0 rfl (lv_at hl 0 rfl) ?_
  refine g7_162 S hK hR d7_keep_1 ?_
  refine lv_iconst (v := 2) hx hb d7_keep_4 (by decide) ?_
  refine lv_icmp_ne (tgt := 11) hx hb d7_keep_5 (by decide) (fun hc1 => ?_) (fun hc1 => ?_)
  · have h0 := og_f hc1 h0
    refine lv_iconst (v := 0) hx hb d7_keep_11 (by decide) ?_
    refine lv_istore_n (lv' := [(1, .int 0), (0, .ref (w.2.2 0))]) hx hb d7_keep_12 rfl hl (by decide) rfl (fun ls hl => ?_)
    exact t7_keep_b13 S hr hlk hK 1000 σ 0 h0 _ _ hR hS _ (lv_sub hl [1, 0] rfl)
  · have h0 := og_t hc1 h0
    refine lv_bipush (v := (-3)) hx hb d7_keep_8 (by decide) ?_
    exact q_iret S hr hlk hR hS h0 d7_keep_10
end
section
/-! FourTenGatesModel.back()I -/
abbrev rm7_back : Room := { frames := 0, cells := 0, slots := 0, locals := 0 }
theorem d7_back_0 : decode cX7_back 0 = .ok (.aload_n 0, 1) := by decide +kernel
theorem d7_back_1 : decode cX7_back 1 = .ok (.getfield 162, 3) := by decide +kernel
theorem d7_back_4 : decode cX7_back 4 = .ok (.ifCond .ne 6, 3) := by decide +kernel
theorem d7_back_7 : decode cX7_back 7 = .ok (.bipush (-2), 2) := by decide +kernel
theorem d7_back_9 : decode cX7_back 9 = .ok (.ireturn, 1) := by decide +kernel
theorem d7_back_10 : decode cX7_back 10 = .ok (.aload_n 0, 1) := by decide +kernel
theorem d7_back_11 : decode cX7_back 11 = .ok (.dup, 1) := by decide +kernel
theorem d7_back_12 : decode cX7_back 12 = .ok (.getfield 162, 3) := by decide +kernel
theorem d7_back_15 : decode cX7_back 15 = .ok (.iconst 1, 1) := by decide +kernel
theorem d7_back_16 : decode cX7_back 16 = .ok (.isub, 1) := by decide +kernel
theorem d7_back_17 : decode cX7_back 17 = .ok (.putfield 162, 3) := by decide +kernel
theorem d7_back_20 : decode cX7_back 20 = .ok (.iconst 0, 1) := by decide +kernel
theorem d7_back_21 : decode cX7_back 21 = .ok (.istore_n 1, 1) := by decide +kernel
theorem d7_back_22 : decode cX7_back 22 = .ok (.iload_n 1, 1) := by decide +kernel
theorem d7_back_23 : decode cX7_back 23 = .ok (.bipush 19, 2) := by decide +kernel
theorem d7_back_25 : decode cX7_back 25 = .ok (.if_icmp .ge 29, 3) := by decide +kernel
theorem d7_back_28 : decode cX7_back 28 = .ok (.aload_n 0, 1) := by decide +kernel
theorem d7_back_29 : decode cX7_back 29 = .ok (.getfield 55, 3) := by decide +kernel
theorem d7_back_32 : decode cX7_back 32 = .ok (.iload_n 1, 1) := by decide +kernel
theorem d7_back_33 : decode cX7_back 33 = .ok (.aload_n 0, 1) := by decide +kernel
theorem d7_back_34 : decode cX7_back 34 = .ok (.getfield 61, 3) := by decide +kernel
theorem d7_back_37 : decode cX7_back 37 = .ok (.bipush 19, 2) := by decide +kernel
theorem d7_back_39 : decode cX7_back 39 = .ok (.aload_n 0, 1) := by decide +kernel
theorem d7_back_40 : decode cX7_back 40 = .ok (.getfield 162, 3) := by decide +kernel
theorem d7_back_43 : decode cX7_back 43 = .ok (.imul, 1) := by decide +kernel
theorem d7_back_44 : decode cX7_back 44 = .ok (.iload_n 1, 1) := by decide +kernel
theorem d7_back_45 : decode cX7_back 45 = .ok (.iadd, 1) := by decide +kernel
theorem d7_back_46 : decode cX7_back 46 = .ok (.iaload, 1) := by decide +kernel
theorem d7_back_47 : decode cX7_back 47 = .ok (.iastore, 1) := by decide +kernel
theorem d7_back_48 : decode cX7_back 48 = .ok (.iinc 1 1, 3) := by decide +kernel
theorem d7_back_51 : decode cX7_back 51 = .ok (.goto (-29), 3) := by decide +kernel
theorem d7_back_54 : decode cX7_back 54 = .ok (.aload_n 0, 1) := by decide +kernel
theorem d7_back_55 : decode cX7_back 55 = .ok (.iconst 0, 1) := by decide +kernel
theorem d7_back_56 : decode cX7_back 56 = .ok (.putfield 159, 3) := by decide +kernel
theorem d7_back_59 : decode cX7_back 59 = .ok (.aload_n 0, 1) := by decide +kernel
theorem d7_back_60 : decode cX7_back 60 = .ok (.getfield 162, 3) := by decide +kernel
theorem d7_back_63 : decode cX7_back 63 = .ok (.ireturn, 1) := by decide +kernel
def f7_back_b22 : Nat → Mem → Int32 → Option (Mem × Int32)
  | 0, _, _ => none
  | n + 1, σ, x1 => if 19 ≤ x1 then bm (mu σ 0 18 0) fun σ2 => some (σ2, σ2 0 20) else if ¬ ((19 * (σ 0 20)) + x1 < 0 ∨ 38 ≤ ((19 * (σ 0 20)) + x1).toNatClampNeg) then if ¬ (x1 < 0 ∨ 19 ≤ x1.toNatClampNeg) then (bm (mu σ 17 x1.toNatClampNeg (σ 20 (((19 * (σ 0 20)) + x1).toNatClampNeg))) fun σ4 => f7_back_b22 n σ4 (x1 + 1)) else none else none
set_option maxHeartbeats 4000000 in
set_option maxRecDepth 100000 in
theorem t7_back_b22 {p : Program} {l : Launch} {e : Env} {s : State} {m : MethodId} {args : Array Value} {below : List Frame} {meth : Method} {c : Code} {w : WV} {σ' : Mem} {r : Int32} (S : CallFix p m c cX7_back 2 s args gtbl RX7) (hr : meth.sig.returnType = (some .int)) (hlk : meth.locks = false) (hK : KS LM w s) : ∀ (n : Nat), ∀ (σ : Mem) (x1 : Int32), f7_back_b22  n σ x1 = some (σ', r) → ∀ (H : Heap) (locs : List Loc), Rp EM LM w σ H → va_S (AW LM w) s.heap H locs → ∀ (ls : Array Slot), lv_has ls 2 [(0, .ref (w.2.2 0)), (1, .int x1)] → W p l e rm7_back s m args below meth c H locs 0 0 (MQ below (Qw EM LM w σ' (some (.int r))) args s 0 0 (AW LM w)) (F0 m 22 ls []) := by
  obtain ⟨hx, hb, hml, hown, hts⟩ := id S
  intro n
  induction n with
  | zero =>
    intro σ x1 h0
    cases (show none = _ from h0)
  | succ n ih =>
    intro σ x1 h0 H locs hR hS ls hl
    rw [f7_back_b22] at h0
    refine lv_iload_n hx hb d7_back_22 rfl (lv_at hl 1 rfl) ?_
    refine lv_bipush (v := 19) hx hb d7_back_23 (by decide) ?_
    refine lv_icmp_ge (tgt := 54) hx hb d7_back_25 (by decide) (fun hc1 => ?_) (fun hc1 => ?_)
    · have h0 := og_t hc1 h0
      refine lv_aload_n hx hb d7_back_54 rfl (lv_at hl 0 rfl) ?_
      refine lv_iconst (v := 0) hx hb d7_back_55 (by decide) ?_
      obtain ⟨σ2, hm2, h0⟩ := og_m h0
      refine u7_159 S hK hR hS hm2 d7_back_56 (fun H locs hR hS => ?_)
      refine lv_aload_n hx hb d7_back_59 rfl (lv_at hl 0 rfl) ?_
      refine g7_162 S hK hR d7_back_60 ?_
      exact q_iret S hr hlk hR hS h0 d7_back_63
    · have h0 := og_f hc1 h0
      refine lv_aload_n hx hb d7_back_28 rfl (lv_at hl 0 rfl) ?_
      refine g7_55 S hK hR d7_back_29 ?_
      refine lv_iload_n hx hb d7_back_32 rfl (lv_at hl 1 rfl) ?_
      refine lv_aload_n hx hb d7_back_33 rfl (lv_at hl 0 rfl) ?_
      refine g7_61 S hK hR d7_back_34 ?_
      refine lv_bipush (v := 19) hx hb d7_back_37 (by decide) ?_
      refine lv_aload_n hx hb d7_back_39 rfl (lv_at hl 0 rfl) ?_
      refine g7_162 S hK hR d7_back_40 ?_
      refine lv_imul hx hb d7_back_43 ?_
      refine lv_iload_n hx hb d7_back_44 rfl (lv_at hl 1 rfl) ?_
      refine lv_iadd hx hb d7_back_45 ?_
      obtain ⟨hi2, h0⟩ := og_if h0
      refine q_ld (k := (((19 * (σ 0 20)) + x1).toNatClampNeg)) S hK hR (by decide) (eM_119 w _) hi2 rfl d7_back_46 ?_
      obtain ⟨hi3, h0⟩ := og_if h0
      obtain ⟨σ4, hm4, h0⟩ := og_m h0
      refine q_st S hK hR hS (by decide) (eM_116 w) hi3 rfl hm4 d7_back_47 (fun H locs hR hS => ?_)
      refine lv_iinc (v := x1 + 1) (lv' := [(1, .int (x1 + 1)), (0, .ref (w.2.2 0))]) hx hb d7_back_48 hl (k := 1) rfl (ii1 _) (by decide) rfl (fun ls hl => ?_)
      refine lv_goto (tgt := 22) hx hb d7_back_51 (by decide) ?_
      exact ih σ4 (x1 + 1) h0 _ _ hR hS _ (lv_sub hl [1, 0] rfl)
def f7_back (σ : Mem) : Option (Mem × Int32) := if (σ 0 20) = 0 then some (σ, (-2)) else bm (mu σ 0 20 ((σ 0 20) - 1)) fun σ2 => f7_back_b22 1000 σ2 0
set_option maxHeartbeats 4000000 in
set_option maxRecDepth 100000 in
theorem c7_back (l : Launch) {w : WV} {σ : Mem} {σ' : Mem} {r : Int32} (h0 : f7_back σ = some (σ', r)) : Met l yX7_back (wy yX7_back cX7_back 2 (some .int)) rm7_back (Pw EM LM w [.ref (w.2.2 0)] σ) (Qw EM LM w σ' (some (.int r))) 0 0 (AW LM w) := by
  refine mk_met (by decide) (Nat.le_of_ble_eq_true rfl) ?_
  intro p e s m below meth c S hr hlk hK hR ls hl
  obtain ⟨hx, hb, hml, hown, hts⟩ := id S
  have hl : lv_has ls 2 [(0, .ref (w.2.2 0))] := hl
  have hS : va_S (AW LM w) s.heap s.heap [] := va_S.rf
  unfold f7_back at h0
  refine lv_aload_n hx hb d7_back_0 rfl (lv_at hl 0 rfl) ?_
  refine g7_162 S hK hR d7_back_1 ?_
  refine lv_if_ne (tgt := 10) hx hb d7_back_4 (by decide) (fun hc1 => ?_) (fun hc1 => ?_)
  · have h0 := og_f hc1 h0
    refine lv_aload_n hx hb d7_back_10 rfl (lv_at hl 0 rfl) ?_
    refine lv_dup hx hb d7_back_11 rfl ?_
    refine g7_162 S hK hR d7_back_12 ?_
    refine lv_iconst (v := 1) hx hb d7_back_15 (by decide) ?_
    refine lv_isub hx hb d7_back_16 ?_
    obtain ⟨σ2, hm2, h0⟩ := og_m h0
    refine u7_162 S hK hR hS hm2 d7_back_17 (fun H locs hR hS => ?_)
    refine lv_iconst (v := 0) hx hb d7_back_20 (by decide) ?_
    refine lv_istore_n (lv' := [(1, .int 0), (0, .ref (w.2.2 0))]) hx hb d7_back_21 rfl hl (by decide) rfl (fun ls hl => ?_)
    exact t7_back_b22 S hr hlk hK 1000 σ2 0 h0 _ _ hR hS _ (lv_sub hl [1, 0] rfl)
  · have h0 := og_t hc1 h0
    refine lv_bipush (v := (-2)) hx hb d7_back_7 (by decide) ?_
    exact q_iret S hr hlk hR hS h0 d7_back_9
/-! FourTenGatesModel.count(I)I -/
abbrev rm7_count : Room := { frames := 0, cells := 0, slots := 0, locals := 0 }
theorem d7_count_0 : decode cX7_count 0 = .ok (.iload_n 1, 1) := by decide +kernel
theorem d7_count_1 : decode cX7_count 1 = .ok (.tableswitch 85 0 6 #[43, 50, 57, 65, 70, 75, 80], 43) := by decide +kernel
theorem d7_count_44 : decode cX7_count 44 = .ok (.aload_n 0, 1) := by decide +kernel
theorem d7_count_45 : decode cX7_count 45 = .ok (.getfield 13, 3) := by decide +kernel
theorem d7_count_48 : decode cX7_count 48 = .ok (.iconst 0, 1) := by decide +kernel
theorem d7_count_49 : decode cX7_count 49 = .ok (.iaload, 1) := by decide +kernel
theorem d7_count_50 : decode cX7_count 50 = .ok (.ireturn, 1) := by decide +kernel
theorem d7_count_51 : decode cX7_count 51 = .ok (.aload_n 0, 1) := by decide +kernel
theorem d7_count_52 : decode cX7_count 52 = .ok (.getfield 22, 3) := by decide +kernel
theorem d7_count_55 : decode cX7_count 55 = .ok (.iconst 0, 1) := by decide +kernel
theorem d7_count_56 : decode cX7_count 56 = .ok (.iaload, 1) := by decide +kernel
theorem d7_count_57 : decode cX7_count 57 = .ok (.ireturn, 1) := by decide +kernel
theorem d7_count_58 : decode cX7_count 58 = .ok (.aload_n 0, 1) := by decide +kernel
theorem d7_count_59 : decode cX7_count 59 = .ok (.getfield 55, 3) := by decide +kernel
theorem d7_count_62 : decode cX7_count 62 = .ok (.bipush 6, 2) := by decide +kernel
theorem d7_count_64 : decode cX7_count 64 = .ok (.iaload, 1) := by decide +kernel
theorem d7_count_65 : decode cX7_count 65 = .ok (.ireturn, 1) := by decide +kernel
theorem d7_count_66 : decode cX7_count 66 = .ok (.aload_n 0, 1) := by decide +kernel
theorem d7_count_67 : decode cX7_count 67 = .ok (.getfield 165, 3) := by decide +kernel
theorem d7_count_70 : decode cX7_count 70 = .ok (.ireturn, 1) := by decide +kernel
theorem d7_count_71 : decode cX7_count 71 = .ok (.aload_n 0, 1) := by decide +kernel
theorem d7_count_72 : decode cX7_count 72 = .ok (.getfield 159, 3) := by decide +kernel
theorem d7_count_75 : decode cX7_count 75 = .ok (.ireturn, 1) := by decide +kernel
theorem d7_count_76 : decode cX7_count 76 = .ok (.aload_n 0, 1) := by decide +kernel
theorem d7_count_77 : decode cX7_count 77 = .ok (.getfield 162, 3) := by decide +kernel
theorem d7_count_80 : decode cX7_count 80 = .ok (.ireturn, 1) := by decide +kernel
theorem d7_count_81 : decode cX7_count 81 = .ok (.aload_n 0, 1) := by decide +kernel
theorem d7_count_82 : decode cX7_count 82 = .ok (.getfield 117, 3) := by decide +kernel
theorem d7_count_85 : decode cX7_count 85 = .ok (.ireturn, 1) := by decide +kernel
theorem d7_count_86 : decode cX7_count 86 = .ok (.iconst (-1), 1) := by decide +kernel
theorem d7_count_87 : decode cX7_count 87 = .ok (.ireturn, 1) := by decide +kernel
def f7_count (σ : Mem) (x1 : Int32) : Option Int32 := if x1 = 0 then some (σ 3 0) else if x1 = 1 then some (σ 6 0) else if x1 = 2 then some (σ 17 6) else if x1 = 3 then some (σ 0 21) else if x1 = 4 then some (σ 0 18) else if x1 = 5 then some (σ 0 20) else if x1 = 6 then some (σ 0 0) else some (-1)
set_option maxHeartbeats 4000000 in
set_option maxRecDepth 100000 in
theorem c7_count (l : Launch) {w : WV} {σ : Mem} {x1 : Int32} {r : Int32} (h0 : f7_count σ x1 = some r) : Met l yX7_count (wy yX7_count cX7_count 2 (some .int)) rm7_count (Pw EM LM w [.ref (w.2.2 0), .int x1] σ) (Qp (.int r)) 0 0 (fun _ => False) := by
  refine mk_met (by decide) (Nat.le_of_ble_eq_true rfl) ?_
  intro p e s m below meth c S hr hlk hK hR ls hl
  obtain ⟨hx, hb, hml, hown, hts⟩ := id S
  have hl : lv_has ls 2 [(0, .ref (w.2.2 0)), (1, .int x1)] := hl
  unfold f7_count at h0
  refine lv_iload_n hx hb d7_count_0 rfl (lv_at hl 1 rfl) ?_
  by_cases hc1 : x1 = 0
  · have h0 := og_t hc1 h0
    refine q_tabI (off := 43) (tgt := 44) S d7_count_1 hc1 (by decide) (by decide) (by decide) (by decide) ?_
    refine lv_aload_n hx hb d7_count_44 rfl (lv_at hl 0 rfl) ?_
    refine g7_13 S hK hR d7_count_45 ?_
    refine lv_iconst (v := 0) hx hb d7_count_48 (by decide) ?_
    refine q_ld (k := 0) S hK hR (by decide) (eM_102 w _) (vin (by decide)) (by decide) d7_count_49 ?_
    exact q_ipure S hr hlk h0 d7_count_50
  · have h0 := og_f hc1 h0
    by_cases hc2 : x1 = 1
    · have h0 := og_t hc2 h0
      refine q_tabI (off := 50) (tgt := 51) S d7_count_1 hc2 (by decide) (by decide) (by decide) (by decide) ?_
      refine lv_aload_n hx hb d7_count_51 rfl (lv_at hl 0 rfl) ?_
      refine g7_22 S hK hR d7_count_52 ?_
      refine lv_iconst (v := 0) hx hb d7_count_55 (by decide) ?_
      refine q_ld (k := 0) S hK hR (by decide) (eM_105 w _) (vin (by decide)) (by decide) d7_count_56 ?_
      exact q_ipure S hr hlk h0 d7_count_57
    · have h0 := og_f hc2 h0
      by_cases hc3 : x1 = 2
      · have h0 := og_t hc3 h0
        refine q_tabI (off := 57) (tgt := 58) S d7_count_1 hc3 (by decide) (by decide) (by decide) (by decide) ?_
        refine lv_aload_n hx hb d7_count_58 rfl (lv_at hl 0 rfl) ?_
        refine g7_55 S hK hR d7_count_59 ?_
        refine lv_bipush (v := 6) hx hb d7_count_62 (by decide) ?_
        refine q_ld (k := 6) S hK hR (by decide) (eM_116 w _) (vin (by decide)) (by decide) d7_count_64 ?_
        exact q_ipure S hr hlk h0 d7_count_65
      · have h0 := og_f hc3 h0
        by_cases hc4 : x1 = 3
        · have h0 := og_t hc4 h0
          refine q_tabI (off := 65) (tgt := 66) S d7_count_1 hc4 (by decide) (by decide) (by decide) (by decide) ?_
          refine lv_aload_n hx hb d7_count_66 rfl (lv_at hl 0 rfl) ?_
          refine g7_165 S hK hR d7_count_67 ?_
          exact q_ipure S hr hlk h0 d7_count_70
        · have h0 := og_f hc4 h0
          by_cases hc5 : x1 = 4
          · have h0 := og_t hc5 h0
            refine q_tabI (off := 70) (tgt := 71) S d7_count_1 hc5 (by decide) (by decide) (by decide) (by decide) ?_
            refine lv_aload_n hx hb d7_count_71 rfl (lv_at hl 0 rfl) ?_
            refine g7_159 S hK hR d7_count_72 ?_
            exact q_ipure S hr hlk h0 d7_count_75
          · have h0 := og_f hc5 h0
            by_cases hc6 : x1 = 5
            · have h0 := og_t hc6 h0
              refine q_tabI (off := 75) (tgt := 76) S d7_count_1 hc6 (by decide) (by decide) (by decide) (by decide) ?_
              refine lv_aload_n hx hb d7_count_76 rfl (lv_at hl 0 rfl) ?_
              refine g7_162 S hK hR d7_count_77 ?_
              exact q_ipure S hr hlk h0 d7_count_80
            · have h0 := og_f hc6 h0
              by_cases hc7 : x1 = 6
              · have h0 := og_t hc7 h0
                refine q_tabI (off := 80) (tgt := 81) S d7_count_1 hc7 (by decide) (by decide) (by decide) (by decide) ?_
                refine lv_aload_n hx hb d7_count_81 rfl (lv_at hl 0 rfl) ?_
                refine g7_117 S hK hR d7_count_82 ?_
                exact q_ipure S hr hlk h0 d7_count_85
              · have h0 := og_f hc7 h0
                refine q_tabD (tgt := 86) S d7_count_1 [0, 1, 2, 3, 4, 5, 6] (by decide) (by decide) (List.forall_mem_cons.mpr ⟨ne_toInt hc1 (by decide), List.forall_mem_cons.mpr ⟨ne_toInt hc2 (by decide), List.forall_mem_cons.mpr ⟨ne_toInt hc3 (by decide), List.forall_mem_cons.mpr ⟨ne_toInt hc4 (by decide), List.forall_mem_cons.mpr ⟨ne_toInt hc5 (by decide), List.forall_mem_cons.mpr ⟨ne_toInt hc6 (by decide), List.forall_mem_cons.mpr ⟨ne_toInt hc7 (by decide), fun _ hq => absurd hq List.not_mem_nil⟩⟩⟩⟩⟩⟩⟩) (by decide) ?_
                refine lv_iconst (v := (-1)) hx hb d7_count_86 (by decide) ?_
                exact q_ipure S hr hlk h0 d7_count_87
end
