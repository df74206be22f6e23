section
-- ===== PART A: goes FIRST, ahead of the names: the tables' words, and 'selects' of the private methods out of them =====
/-- a private method of a class that the tables say can be made, by its rows of tables_1 -/
def lw_okq (q : MethodName × Nat) : Prop := (q.1.cls ≠ "java/lang/invoke/MethodHandle" ∧ q.1.cls ≠ "java/lang/invoke/VarHandle") ∧ Cond.instantiable q.1.cls q.2 ∈ tables_1 ∧ Cond.privateMethod q.1 ∈ tables_1 ∧ Cond.instanceMethod q.1 ∈ tables_1
theorem lw_p0 : lw_okq (⟨"FourTenGates", "layText", "()Z"⟩, 13) := ⟨⟨by decide +kernel, by decide +kernel⟩, List.mem_of_getElem? (i := 15) (by decide +kernel), List.mem_of_getElem? (i := 257) (by decide +kernel), List.mem_of_getElem? (i := 258) (by decide +kernel)⟩
theorem lw_p1 : lw_okq (⟨"FourTenGates$Text", "readItem", "(ILFourTenGates$Book;)I"⟩, 3) := ⟨⟨by decide +kernel, by decide +kernel⟩, List.mem_of_getElem? (i := 23) (by decide +kernel), List.mem_of_getElem? (i := 273) (by decide +kernel), List.mem_of_getElem? (i := 274) (by decide +kernel)⟩
theorem lw_p2 : lw_okq (⟨"FourTenGates$Text", "letterAt", "(I)I"⟩, 3) := ⟨⟨by decide +kernel, by decide +kernel⟩, List.mem_of_getElem? (i := 23) (by decide +kernel), List.mem_of_getElem? (i := 277) (by decide +kernel), List.mem_of_getElem? (i := 278) (by decide +kernel)⟩
theorem lw_p3 : lw_okq (⟨"FourTenGates$Text", "readNumber", "(I)I"⟩, 3) := ⟨⟨by decide +kernel, by decide +kernel⟩, List.mem_of_getElem? (i := 23) (by decide +kernel), List.mem_of_getElem? (i := 281) (by decide +kernel), List.mem_of_getElem? (i := 282) (by decide +kernel)⟩
theorem lw_p4 : lw_okq (⟨"FourTenGates$Text", "isFigure", "(I)Z"⟩, 3) := ⟨⟨by decide +kernel, by decide +kernel⟩, List.mem_of_getElem? (i := 23) (by decide +kernel), List.mem_of_getElem? (i := 285) (by decide +kernel), List.mem_of_getElem? (i := 286) (by decide +kernel)⟩
theorem lw_p5 : lw_okq (⟨"FourTenGates$Book", "takeGates", "(I)Z"⟩, 9) := ⟨⟨by decide +kernel, by decide +kernel⟩, List.mem_of_getElem? (i := 40) (by decide +kernel), List.mem_of_getElem? (i := 309) (by decide +kernel), List.mem_of_getElem? (i := 310) (by decide +kernel)⟩
theorem lw_p6 : lw_okq (⟨"FourTenGates$Book", "takeStopCost", "(I)Z"⟩, 9) := ⟨⟨by decide +kernel, by decide +kernel⟩, List.mem_of_getElem? (i := 40) (by decide +kernel), List.mem_of_getElem? (i := 313) (by decide +kernel), List.mem_of_getElem? (i := 314) (by decide +kernel)⟩
theorem lw_p7 : lw_okq (⟨"FourTenGates$Book", "takeWaitCost", "(II)Z"⟩, 9) := ⟨⟨by decide +kernel, by decide +kernel⟩, List.mem_of_getElem? (i := 40) (by decide +kernel), List.mem_of_getElem? (i := 317) (by decide +kernel), List.mem_of_getElem? (i := 318) (by decide +kernel)⟩
theorem lw_p8 : lw_okq (⟨"FourTenGates$Book", "takePatience", "(II)Z"⟩, 9) := ⟨⟨by decide +kernel, by decide +kernel⟩, List.mem_of_getElem? (i := 40) (by decide +kernel), List.mem_of_getElem? (i := 321) (by decide +kernel), List.mem_of_getElem? (i := 322) (by decide +kernel)⟩
theorem lw_p9 : lw_okq (⟨"FourTenGates", "outdateHours", "()V"⟩, 13) := ⟨⟨by decide +kernel, by decide +kernel⟩, List.mem_of_getElem? (i := 15) (by decide +kernel), List.mem_of_getElem? (i := 389) (by decide +kernel), List.mem_of_getElem? (i := 390) (by decide +kernel)⟩
theorem lw_p10 : lw_okq (⟨"FourTenGates", "isTrain", "(I)Z"⟩, 13) := ⟨⟨by decide +kernel, by decide +kernel⟩, List.mem_of_getElem? (i := 15) (by decide +kernel), List.mem_of_getElem? (i := 467) (by decide +kernel), List.mem_of_getElem? (i := 468) (by decide +kernel)⟩
theorem lw_p11 : lw_okq (⟨"FourTenGates", "bellOf", "(I)I"⟩, 13) := ⟨⟨by decide +kernel, by decide +kernel⟩, List.mem_of_getElem? (i := 15) (by decide +kernel), List.mem_of_getElem? (i := 478) (by decide +kernel), List.mem_of_getElem? (i := 479) (by decide +kernel)⟩
theorem lw_p12 : lw_okq (⟨"FourTenGates", "isUser", "(I)Z"⟩, 13) := ⟨⟨by decide +kernel, by decide +kernel⟩, List.mem_of_getElem? (i := 15) (by decide +kernel), List.mem_of_getElem? (i := 497) (by decide +kernel), List.mem_of_getElem? (i := 498) (by decide +kernel)⟩
theorem lw_p13 : lw_okq (⟨"FourTenGates", "hourBy", "(I)LFourTenGates$Hour;"⟩, 13) := ⟨⟨by decide +kernel, by decide +kernel⟩, List.mem_of_getElem? (i := 15) (by decide +kernel), List.mem_of_getElem? (i := 511) (by decide +kernel), List.mem_of_getElem? (i := 512) (by decide +kernel)⟩
theorem lw_p14 : lw_okq (⟨"FourTenGates$Hour", "beginTrains", "(I)V"⟩, 19) := ⟨⟨by decide +kernel, by decide +kernel⟩, List.mem_of_getElem? (i := 119) (by decide +kernel), List.mem_of_getElem? (i := 524) (by decide +kernel), List.mem_of_getElem? (i := 525) (by decide +kernel)⟩
theorem lw_p15 : lw_okq (⟨"FourTenGates$Hour", "beginUsers", "()V"⟩, 19) := ⟨⟨by decide +kernel, by decide +kernel⟩, List.mem_of_getElem? (i := 119) (by decide +kernel), List.mem_of_getElem? (i := 533) (by decide +kernel), List.mem_of_getElem? (i := 534) (by decide +kernel)⟩
def lw_privs_1 : List (MethodName × Nat) := [(⟨"FourTenGates", "layText", "()Z"⟩, 13), (⟨"FourTenGates$Text", "readItem", "(ILFourTenGates$Book;)I"⟩, 3), (⟨"FourTenGates$Text", "letterAt", "(I)I"⟩, 3), (⟨"FourTenGates$Text", "readNumber", "(I)I"⟩, 3), (⟨"FourTenGates$Text", "isFigure", "(I)Z"⟩, 3), (⟨"FourTenGates$Book", "takeGates", "(I)Z"⟩, 9), (⟨"FourTenGates$Book", "takeStopCost", "(I)Z"⟩, 9), (⟨"FourTenGates$Book", "takeWaitCost", "(II)Z"⟩, 9), (⟨"FourTenGates$Book", "takePatience", "(II)Z"⟩, 9), (⟨"FourTenGates", "outdateHours", "()V"⟩, 13), (⟨"FourTenGates", "isTrain", "(I)Z"⟩, 13), (⟨"FourTenGates", "bellOf", "(I)I"⟩, 13), (⟨"FourTenGates", "isUser", "(I)Z"⟩, 13), (⟨"FourTenGates", "hourBy", "(I)LFourTenGates$Hour;"⟩, 13), (⟨"FourTenGates$Hour", "beginTrains", "(I)V"⟩, 19), (⟨"FourTenGates$Hour", "beginUsers", "()V"⟩, 19)]
theorem lw_r1 : ∀ q ∈ lw_privs_1, lw_okq q := List.forall_mem_cons.mpr ⟨lw_p0, List.forall_mem_cons.mpr ⟨lw_p1, List.forall_mem_cons.mpr ⟨lw_p2, List.forall_mem_cons.mpr ⟨lw_p3, List.forall_mem_cons.mpr ⟨lw_p4, List.forall_mem_cons.mpr ⟨lw_p5, List.forall_mem_cons.mpr ⟨lw_p6, List.forall_mem_cons.mpr ⟨lw_p7, List.forall_mem_cons.mpr ⟨lw_p8, List.forall_mem_cons.mpr ⟨lw_p9, List.forall_mem_cons.mpr ⟨lw_p10, List.forall_mem_cons.mpr ⟨lw_p11, List.forall_mem_cons.mpr ⟨lw_p12, List.forall_mem_cons.mpr ⟨lw_p13, List.forall_mem_cons.mpr ⟨lw_p14, List.forall_mem_cons.mpr ⟨lw_p15, fun _ h => absurd h List.not_mem_nil⟩⟩⟩⟩⟩⟩⟩⟩⟩⟩⟩⟩⟩⟩⟩⟩
theorem lw_p16 : lw_okq (⟨"FourTenGates$Hour", "beginGates", "()V"⟩, 19) := ⟨⟨by decide +kernel, by decide +kernel⟩, List.mem_of_getElem? (i := 119) (by decide +kernel), List.mem_of_getElem? (i := 537) (by decide +kernel), List.mem_of_getElem? (i := 538) (by decide +kernel)⟩
theorem lw_p17 : lw_okq (⟨"FourTenGates$Hour", "moveGates", "()V"⟩, 19) := ⟨⟨by decide +kernel, by decide +kernel⟩, List.mem_of_getElem? (i := 119) (by decide +kernel), List.mem_of_getElem? (i := 541) (by decide +kernel), List.mem_of_getElem? (i := 542) (by decide +kernel)⟩
theorem lw_p18 : lw_okq (⟨"FourTenGates$Hour", "turnGates", "(I)V"⟩, 19) := ⟨⟨by decide +kernel, by decide +kernel⟩, List.mem_of_getElem? (i := 119) (by decide +kernel), List.mem_of_getElem? (i := 546) (by decide +kernel), List.mem_of_getElem? (i := 547) (by decide +kernel)⟩
theorem lw_p19 : lw_okq (⟨"FourTenGates$Hour", "wantsShut", "(I)Z"⟩, 19) := ⟨⟨by decide +kernel, by decide +kernel⟩, List.mem_of_getElem? (i := 119) (by decide +kernel), List.mem_of_getElem? (i := 550) (by decide +kernel), List.mem_of_getElem? (i := 551) (by decide +kernel)⟩
theorem lw_p20 : lw_okq (⟨"FourTenGates$Hour", "isTrainInSight", "(I)Z"⟩, 19) := ⟨⟨by decide +kernel, by decide +kernel⟩, List.mem_of_getElem? (i := 119) (by decide +kernel), List.mem_of_getElem? (i := 560) (by decide +kernel), List.mem_of_getElem? (i := 561) (by decide +kernel)⟩
theorem lw_p21 : lw_okq (⟨"FourTenGates$Hour", "isTrainAwaited", "(I)Z"⟩, 19) := ⟨⟨by decide +kernel, by decide +kernel⟩, List.mem_of_getElem? (i := 119) (by decide +kernel), List.mem_of_getElem? (i := 564) (by decide +kernel), List.mem_of_getElem? (i := 565) (by decide +kernel)⟩
theorem lw_p22 : lw_okq (⟨"FourTenGates$Hour", "hasPassed", "(II)Z"⟩, 19) := ⟨⟨by decide +kernel, by decide +kernel⟩, List.mem_of_getElem? (i := 119) (by decide +kernel), List.mem_of_getElem? (i := 568) (by decide +kernel), List.mem_of_getElem? (i := 569) (by decide +kernel)⟩
theorem lw_p23 : lw_okq (⟨"FourTenGates$Hour", "isTrainDueByBook", "(I)Z"⟩, 19) := ⟨⟨by decide +kernel, by decide +kernel⟩, List.mem_of_getElem? (i := 119) (by decide +kernel), List.mem_of_getElem? (i := 572) (by decide +kernel), List.mem_of_getElem? (i := 573) (by decide +kernel)⟩
theorem lw_p24 : lw_okq (⟨"FourTenGates$Hour", "startMoving", "(I)V"⟩, 19) := ⟨⟨by decide +kernel, by decide +kernel⟩, List.mem_of_getElem? (i := 119) (by decide +kernel), List.mem_of_getElem? (i := 578) (by decide +kernel), List.mem_of_getElem? (i := 579) (by decide +kernel)⟩
theorem lw_p25 : lw_okq (⟨"FourTenGates$Hour", "runTrains", "(I)V"⟩, 19) := ⟨⟨by decide +kernel, by decide +kernel⟩, List.mem_of_getElem? (i := 119) (by decide +kernel), List.mem_of_getElem? (i := 582) (by decide +kernel), List.mem_of_getElem? (i := 583) (by decide +kernel)⟩
theorem lw_p26 : lw_okq (⟨"FourTenGates$Hour", "runUsers", "(I)V"⟩, 19) := ⟨⟨by decide +kernel, by decide +kernel⟩, List.mem_of_getElem? (i := 119) (by decide +kernel), List.mem_of_getElem? (i := 587) (by decide +kernel), List.mem_of_getElem? (i := 588) (by decide +kernel)⟩
theorem lw_p27 : lw_okq (⟨"FourTenGates$Hour", "meetUsers", "(I)V"⟩, 19) := ⟨⟨by decide +kernel, by decide +kernel⟩, List.mem_of_getElem? (i := 119) (by decide +kernel), List.mem_of_getElem? (i := 591) (by decide +kernel), List.mem_of_getElem? (i := 592) (by decide +kernel)⟩
theorem lw_p28 : lw_okq (⟨"FourTenGates$Hour", "firstToCross", "()I"⟩, 19) := ⟨⟨by decide +kernel, by decide +kernel⟩, List.mem_of_getElem? (i := 119) (by decide +kernel), List.mem_of_getElem? (i := 595) (by decide +kernel), List.mem_of_getElem? (i := 596) (by decide +kernel)⟩
theorem lw_p29 : lw_okq (⟨"FourTenGates$Hour", "isWaiting", "(I)Z"⟩, 19) := ⟨⟨by decide +kernel, by decide +kernel⟩, List.mem_of_getElem? (i := 119) (by decide +kernel), List.mem_of_getElem? (i := 599) (by decide +kernel), List.mem_of_getElem? (i := 600) (by decide +kernel)⟩
theorem lw_p30 : lw_okq (⟨"FourTenGates$Hour", "canCross", "(I)Z"⟩, 19) := ⟨⟨by decide +kernel, by decide +kernel⟩, List.mem_of_getElem? (i := 119) (by decide +kernel), List.mem_of_getElem? (i := 603) (by decide +kernel), List.mem_of_getElem? (i := 604) (by decide +kernel)⟩
theorem lw_p31 : lw_okq (⟨"FourTenGates$Hour", "letCross", "(II)V"⟩, 19) := ⟨⟨by decide +kernel, by decide +kernel⟩, List.mem_of_getElem? (i := 119) (by decide +kernel), List.mem_of_getElem? (i := 607) (by decide +kernel), List.mem_of_getElem? (i := 608) (by decide +kernel)⟩
def lw_privs_2 : List (MethodName × Nat) := [(⟨"FourTenGates$Hour", "beginGates", "()V"⟩, 19), (⟨"FourTenGates$Hour", "moveGates", "()V"⟩, 19), (⟨"FourTenGates$Hour", "turnGates", "(I)V"⟩, 19), (⟨"FourTenGates$Hour", "wantsShut", "(I)Z"⟩, 19), (⟨"FourTenGates$Hour", "isTrainInSight", "(I)Z"⟩, 19), (⟨"FourTenGates$Hour", "isTrainAwaited", "(I)Z"⟩, 19), (⟨"FourTenGates$Hour", "hasPassed", "(II)Z"⟩, 19), (⟨"FourTenGates$Hour", "isTrainDueByBook", "(I)Z"⟩, 19), (⟨"FourTenGates$Hour", "startMoving", "(I)V"⟩, 19), (⟨"FourTenGates$Hour", "runTrains", "(I)V"⟩, 19), (⟨"FourTenGates$Hour", "runUsers", "(I)V"⟩, 19), (⟨"FourTenGates$Hour", "meetUsers", "(I)V"⟩, 19), (⟨"FourTenGates$Hour", "firstToCross", "()I"⟩, 19), (⟨"FourTenGates$Hour", "isWaiting", "(I)Z"⟩, 19), (⟨"FourTenGates$Hour", "canCross", "(I)Z"⟩, 19), (⟨"FourTenGates$Hour", "letCross", "(II)V"⟩, 19)]
theorem lw_r2 : ∀ q ∈ lw_privs_2, lw_okq q := List.forall_mem_cons.mpr ⟨lw_p16, List.forall_mem_cons.mpr ⟨lw_p17, List.forall_mem_cons.mpr ⟨lw_p18, List.forall_mem_cons.mpr ⟨lw_p19, List.forall_mem_cons.mpr ⟨lw_p20, List.forall_mem_cons.mpr ⟨lw_p21, List.forall_mem_cons.mpr ⟨lw_p22, List.forall_mem_cons.mpr ⟨lw_p23, List.forall_mem_cons.mpr ⟨lw_p24, List.forall_mem_cons.mpr ⟨lw_p25, List.forall_mem_cons.mpr ⟨lw_p26, List.forall_mem_cons.mpr ⟨lw_p27, List.forall_mem_cons.mpr ⟨lw_p28, List.forall_mem_cons.mpr ⟨lw_p29, List.forall_mem_cons.mpr ⟨lw_p30, List.forall_mem_cons.mpr ⟨lw_p31, fun _ h => absurd h List.not_mem_nil⟩⟩⟩⟩⟩⟩⟩⟩⟩⟩⟩⟩⟩⟩⟩⟩
theorem lw_p32 : lw_okq (⟨"FourTenGates$Hour", "payForWait", "(II)V"⟩, 19) := ⟨⟨by decide +kernel, by decide +kernel⟩, List.mem_of_getElem? (i := 119) (by decide +kernel), List.mem_of_getElem? (i := 614) (by decide +kernel), List.mem_of_getElem? (i := 615) (by decide +kernel)⟩
theorem lw_p33 : lw_okq (⟨"FourTenGates", "beginChange", "()V"⟩, 13) := ⟨⟨by decide +kernel, by decide +kernel⟩, List.mem_of_getElem? (i := 15) (by decide +kernel), List.mem_of_getElem? (i := 669) (by decide +kernel), List.mem_of_getElem? (i := 670) (by decide +kernel)⟩
theorem lw_p34 : lw_okq (⟨"FourTenGates$Pile", "dropLowest", "()V"⟩, 2) := ⟨⟨by decide +kernel, by decide +kernel⟩, List.mem_of_getElem? (i := 183) (by decide +kernel), List.mem_of_getElem? (i := 681) (by decide +kernel), List.mem_of_getElem? (i := 682) (by decide +kernel)⟩
theorem lw_p35 : lw_okq (⟨"FourTenGates", "findLead", "()V"⟩, 13) := ⟨⟨by decide +kernel, by decide +kernel⟩, List.mem_of_getElem? (i := 15) (by decide +kernel), List.mem_of_getElem? (i := 729) (by decide +kernel), List.mem_of_getElem? (i := 730) (by decide +kernel)⟩
theorem lw_p36 : lw_okq (⟨"FourTenGates", "costIfLate", "(III)I"⟩, 13) := ⟨⟨by decide +kernel, by decide +kernel⟩, List.mem_of_getElem? (i := 15) (by decide +kernel), List.mem_of_getElem? (i := 738) (by decide +kernel), List.mem_of_getElem? (i := 739) (by decide +kernel)⟩
theorem lw_p37 : lw_okq (⟨"FourTenGates", "isAsSeen", "(LFourTenGates$Hour;)Z"⟩, 13) := ⟨⟨by decide +kernel, by decide +kernel⟩, List.mem_of_getElem? (i := 15) (by decide +kernel), List.mem_of_getElem? (i := 772) (by decide +kernel), List.mem_of_getElem? (i := 773) (by decide +kernel)⟩
theorem lw_p38 : lw_okq (⟨"FourTenGatesModel", "noHour", "(I)V"⟩, 38) := ⟨⟨by decide +kernel, by decide +kernel⟩, List.mem_of_getElem? (i := 812) (by decide +kernel), List.mem_of_getElem? (i := 818) (by decide +kernel), List.mem_of_getElem? (i := 819) (by decide +kernel)⟩
theorem lw_p39 : lw_okq (⟨"FourTenGatesModel", "addTrain", "(III)V"⟩, 38) := ⟨⟨by decide +kernel, by decide +kernel⟩, List.mem_of_getElem? (i := 812) (by decide +kernel), List.mem_of_getElem? (i := 822) (by decide +kernel), List.mem_of_getElem? (i := 823) (by decide +kernel)⟩
theorem lw_p40 : lw_okq (⟨"FourTenGatesModel", "addUser", "(III)V"⟩, 38) := ⟨⟨by decide +kernel, by decide +kernel⟩, List.mem_of_getElem? (i := 812) (by decide +kernel), List.mem_of_getElem? (i := 826) (by decide +kernel), List.mem_of_getElem? (i := 827) (by decide +kernel)⟩
theorem lw_p41 : lw_okq (⟨"FourTenGatesModel", "begin", "()V"⟩, 38) := ⟨⟨by decide +kernel, by decide +kernel⟩, List.mem_of_getElem? (i := 812) (by decide +kernel), List.mem_of_getElem? (i := 830) (by decide +kernel), List.mem_of_getElem? (i := 831) (by decide +kernel)⟩
theorem lw_p42 : lw_okq (⟨"FourTenGatesModel", "readAll", "()I"⟩, 38) := ⟨⟨by decide +kernel, by decide +kernel⟩, List.mem_of_getElem? (i := 812) (by decide +kernel), List.mem_of_getElem? (i := 967) (by decide +kernel), List.mem_of_getElem? (i := 968) (by decide +kernel)⟩
theorem lw_p43 : lw_okq (⟨"FourTenGatesModel", "item", "()Z"⟩, 38) := ⟨⟨by decide +kernel, by decide +kernel⟩, List.mem_of_getElem? (i := 812) (by decide +kernel), List.mem_of_getElem? (i := 971) (by decide +kernel), List.mem_of_getElem? (i := 972) (by decide +kernel)⟩
theorem lw_p44 : lw_okq (⟨"FourTenGatesModel", "letterAt", "(I)I"⟩, 38) := ⟨⟨by decide +kernel, by decide +kernel⟩, List.mem_of_getElem? (i := 812) (by decide +kernel), List.mem_of_getElem? (i := 975) (by decide +kernel), List.mem_of_getElem? (i := 976) (by decide +kernel)⟩
theorem lw_p45 : lw_okq (⟨"FourTenGatesModel", "figures", "(I)Z"⟩, 38) := ⟨⟨by decide +kernel, by decide +kernel⟩, List.mem_of_getElem? (i := 812) (by decide +kernel), List.mem_of_getElem? (i := 979) (by decide +kernel), List.mem_of_getElem? (i := 980) (by decide +kernel)⟩
theorem lw_p46 : lw_okq (⟨"FourTenGatesModel", "setTold", "(IIII)Z"⟩, 38) := ⟨⟨by decide +kernel, by decide +kernel⟩, List.mem_of_getElem? (i := 812) (by decide +kernel), List.mem_of_getElem? (i := 986) (by decide +kernel), List.mem_of_getElem? (i := 987) (by decide +kernel)⟩
theorem lw_p47 : lw_okq (⟨"FourTenGatesModel", "closingItem", "()Z"⟩, 38) := ⟨⟨by decide +kernel, by decide +kernel⟩, List.mem_of_getElem? (i := 812) (by decide +kernel), List.mem_of_getElem? (i := 990) (by decide +kernel), List.mem_of_getElem? (i := 991) (by decide +kernel)⟩
def lw_privs_3 : List (MethodName × Nat) := [(⟨"FourTenGates$Hour", "payForWait", "(II)V"⟩, 19), (⟨"FourTenGates", "beginChange", "()V"⟩, 13), (⟨"FourTenGates$Pile", "dropLowest", "()V"⟩, 2), (⟨"FourTenGates", "findLead", "()V"⟩, 13), (⟨"FourTenGates", "costIfLate", "(III)I"⟩, 13), (⟨"FourTenGates", "isAsSeen", "(LFourTenGates$Hour;)Z"⟩, 13), (⟨"FourTenGatesModel", "noHour", "(I)V"⟩, 38), (⟨"FourTenGatesModel", "addTrain", "(III)V"⟩, 38), (⟨"FourTenGatesModel", "addUser", "(III)V"⟩, 38), (⟨"FourTenGatesModel", "begin", "()V"⟩, 38), (⟨"FourTenGatesModel", "readAll", "()I"⟩, 38), (⟨"FourTenGatesModel", "item", "()Z"⟩, 38), (⟨"FourTenGatesModel", "letterAt", "(I)I"⟩, 38), (⟨"FourTenGatesModel", "figures", "(I)Z"⟩, 38), (⟨"FourTenGatesModel", "setTold", "(IIII)Z"⟩, 38), (⟨"FourTenGatesModel", "closingItem", "()Z"⟩, 38)]
theorem lw_r3 : ∀ q ∈ lw_privs_3, lw_okq q := List.forall_mem_cons.mpr ⟨lw_p32, List.forall_mem_cons.mpr ⟨lw_p33, List.forall_mem_cons.mpr ⟨lw_p34, List.forall_mem_cons.mpr ⟨lw_p35, List.forall_mem_cons.mpr ⟨lw_p36, List.forall_mem_cons.mpr ⟨lw_p37, List.forall_mem_cons.mpr ⟨lw_p38, List.forall_mem_cons.mpr ⟨lw_p39, List.forall_mem_cons.mpr ⟨lw_p40, List.forall_mem_cons.mpr ⟨lw_p41, List.forall_mem_cons.mpr ⟨lw_p42, List.forall_mem_cons.mpr ⟨lw_p43, List.forall_mem_cons.mpr ⟨lw_p44, List.forall_mem_cons.mpr ⟨lw_p45, List.forall_mem_cons.mpr ⟨lw_p46, List.forall_mem_cons.mpr ⟨lw_p47, fun _ h => absurd h List.not_mem_nil⟩⟩⟩⟩⟩⟩⟩⟩⟩⟩⟩⟩⟩⟩⟩⟩
theorem lw_p48 : lw_okq (⟨"FourTenGatesModel", "oddsItem", "()Z"⟩, 38) := ⟨⟨by decide +kernel, by decide +kernel⟩, List.mem_of_getElem? (i := 812) (by decide +kernel), List.mem_of_getElem? (i := 994) (by decide +kernel), List.mem_of_getElem? (i := 995) (by decide +kernel)⟩
theorem lw_p49 : lw_okq (⟨"FourTenGatesModel", "allOdds", "(I)I"⟩, 38) := ⟨⟨by decide +kernel, by decide +kernel⟩, List.mem_of_getElem? (i := 812) (by decide +kernel), List.mem_of_getElem? (i := 1002) (by decide +kernel), List.mem_of_getElem? (i := 1003) (by decide +kernel)⟩
theorem lw_p50 : lw_okq (⟨"FourTenGatesModel", "isTrain", "(I)Z"⟩, 38) := ⟨⟨by decide +kernel, by decide +kernel⟩, List.mem_of_getElem? (i := 812) (by decide +kernel), List.mem_of_getElem? (i := 1010) (by decide +kernel), List.mem_of_getElem? (i := 1011) (by decide +kernel)⟩
theorem lw_p51 : lw_okq (⟨"FourTenGatesModel", "bellOf", "(I)I"⟩, 38) := ⟨⟨by decide +kernel, by decide +kernel⟩, List.mem_of_getElem? (i := 812) (by decide +kernel), List.mem_of_getElem? (i := 1015) (by decide +kernel), List.mem_of_getElem? (i := 1016) (by decide +kernel)⟩
theorem lw_p52 : lw_okq (⟨"FourTenGatesModel", "comesAt", "(I)I"⟩, 38) := ⟨⟨by decide +kernel, by decide +kernel⟩, List.mem_of_getElem? (i := 812) (by decide +kernel), List.mem_of_getElem? (i := 1019) (by decide +kernel), List.mem_of_getElem? (i := 1020) (by decide +kernel)⟩
theorem lw_p53 : lw_okq (⟨"FourTenGatesModel", "isUser", "(I)Z"⟩, 38) := ⟨⟨by decide +kernel, by decide +kernel⟩, List.mem_of_getElem? (i := 812) (by decide +kernel), List.mem_of_getElem? (i := 1027) (by decide +kernel), List.mem_of_getElem? (i := 1028) (by decide +kernel)⟩
theorem lw_p54 : lw_okq (⟨"FourTenGatesModel", "goHour", "(II)V"⟩, 38) := ⟨⟨by decide +kernel, by decide +kernel⟩, List.mem_of_getElem? (i := 812) (by decide +kernel), List.mem_of_getElem? (i := 1039) (by decide +kernel), List.mem_of_getElem? (i := 1040) (by decide +kernel)⟩
theorem lw_p55 : lw_okq (⟨"FourTenGatesModel", "beginHour", "()V"⟩, 38) := ⟨⟨by decide +kernel, by decide +kernel⟩, List.mem_of_getElem? (i := 812) (by decide +kernel), List.mem_of_getElem? (i := 1043) (by decide +kernel), List.mem_of_getElem? (i := 1044) (by decide +kernel)⟩
theorem lw_p56 : lw_okq (⟨"FourTenGatesModel", "moveGates", "(III)V"⟩, 38) := ⟨⟨by decide +kernel, by decide +kernel⟩, List.mem_of_getElem? (i := 812) (by decide +kernel), List.mem_of_getElem? (i := 1047) (by decide +kernel), List.mem_of_getElem? (i := 1048) (by decide +kernel)⟩
theorem lw_p57 : lw_okq (⟨"FourTenGatesModel", "wantsShut", "(III)Z"⟩, 38) := ⟨⟨by decide +kernel, by decide +kernel⟩, List.mem_of_getElem? (i := 812) (by decide +kernel), List.mem_of_getElem? (i := 1051) (by decide +kernel), List.mem_of_getElem? (i := 1052) (by decide +kernel)⟩
theorem lw_p58 : lw_okq (⟨"FourTenGatesModel", "inPlan", "(I)Z"⟩, 38) := ⟨⟨by decide +kernel, by decide +kernel⟩, List.mem_of_getElem? (i := 812) (by decide +kernel), List.mem_of_getElem? (i := 1055) (by decide +kernel), List.mem_of_getElem? (i := 1056) (by decide +kernel)⟩
theorem lw_p59 : lw_okq (⟨"FourTenGatesModel", "inBell", "(I)Z"⟩, 38) := ⟨⟨by decide +kernel, by decide +kernel⟩, List.mem_of_getElem? (i := 812) (by decide +kernel), List.mem_of_getElem? (i := 1059) (by decide +kernel), List.mem_of_getElem? (i := 1060) (by decide +kernel)⟩
theorem lw_p60 : lw_okq (⟨"FourTenGatesModel", "hasPassed", "(II)Z"⟩, 38) := ⟨⟨by decide +kernel, by decide +kernel⟩, List.mem_of_getElem? (i := 812) (by decide +kernel), List.mem_of_getElem? (i := 1063) (by decide +kernel), List.mem_of_getElem? (i := 1064) (by decide +kernel)⟩
theorem lw_p61 : lw_okq (⟨"FourTenGatesModel", "inSight", "(I)Z"⟩, 38) := ⟨⟨by decide +kernel, by decide +kernel⟩, List.mem_of_getElem? (i := 812) (by decide +kernel), List.mem_of_getElem? (i := 1067) (by decide +kernel), List.mem_of_getElem? (i := 1068) (by decide +kernel)⟩
theorem lw_p62 : lw_okq (⟨"FourTenGatesModel", "isPassing", "(I)Z"⟩, 38) := ⟨⟨by decide +kernel, by decide +kernel⟩, List.mem_of_getElem? (i := 812) (by decide +kernel), List.mem_of_getElem? (i := 1071) (by decide +kernel), List.mem_of_getElem? (i := 1072) (by decide +kernel)⟩
theorem lw_p63 : lw_okq (⟨"FourTenGatesModel", "inWait", "(I)Z"⟩, 38) := ⟨⟨by decide +kernel, by decide +kernel⟩, List.mem_of_getElem? (i := 812) (by decide +kernel), List.mem_of_getElem? (i := 1075) (by decide +kernel), List.mem_of_getElem? (i := 1076) (by decide +kernel)⟩
def lw_privs_4 : List (MethodName × Nat) := [(⟨"FourTenGatesModel", "oddsItem", "()Z"⟩, 38), (⟨"FourTenGatesModel", "allOdds", "(I)I"⟩, 38), (⟨"FourTenGatesModel", "isTrain", "(I)Z"⟩, 38), (⟨"FourTenGatesModel", "bellOf", "(I)I"⟩, 38), (⟨"FourTenGatesModel", "comesAt", "(I)I"⟩, 38), (⟨"FourTenGatesModel", "isUser", "(I)Z"⟩, 38), (⟨"FourTenGatesModel", "goHour", "(II)V"⟩, 38), (⟨"FourTenGatesModel", "beginHour", "()V"⟩, 38), (⟨"FourTenGatesModel", "moveGates", "(III)V"⟩, 38), (⟨"FourTenGatesModel", "wantsShut", "(III)Z"⟩, 38), (⟨"FourTenGatesModel", "inPlan", "(I)Z"⟩, 38), (⟨"FourTenGatesModel", "inBell", "(I)Z"⟩, 38), (⟨"FourTenGatesModel", "hasPassed", "(II)Z"⟩, 38), (⟨"FourTenGatesModel", "inSight", "(I)Z"⟩, 38), (⟨"FourTenGatesModel", "isPassing", "(I)Z"⟩, 38), (⟨"FourTenGatesModel", "inWait", "(I)Z"⟩, 38)]
theorem lw_r4 : ∀ q ∈ lw_privs_4, lw_okq q := List.forall_mem_cons.mpr ⟨lw_p48, List.forall_mem_cons.mpr ⟨lw_p49, List.forall_mem_cons.mpr ⟨lw_p50, List.forall_mem_cons.mpr ⟨lw_p51, List.forall_mem_cons.mpr ⟨lw_p52, List.forall_mem_cons.mpr ⟨lw_p53, List.forall_mem_cons.mpr ⟨lw_p54, List.forall_mem_cons.mpr ⟨lw_p55, List.forall_mem_cons.mpr ⟨lw_p56, List.forall_mem_cons.mpr ⟨lw_p57, List.forall_mem_cons.mpr ⟨lw_p58, List.forall_mem_cons.mpr ⟨lw_p59, List.forall_mem_cons.mpr ⟨lw_p60, List.forall_mem_cons.mpr ⟨lw_p61, List.forall_mem_cons.mpr ⟨lw_p62, List.forall_mem_cons.mpr ⟨lw_p63, fun _ h => absurd h List.not_mem_nil⟩⟩⟩⟩⟩⟩⟩⟩⟩⟩⟩⟩⟩⟩⟩⟩
theorem lw_p64 : lw_okq (⟨"FourTenGatesModel", "inLead", "(II)Z"⟩, 38) := ⟨⟨by decide +kernel, by decide +kernel⟩, List.mem_of_getElem? (i := 812) (by decide +kernel), List.mem_of_getElem? (i := 1079) (by decide +kernel), List.mem_of_getElem? (i := 1080) (by decide +kernel)⟩
theorem lw_p65 : lw_okq (⟨"FourTenGatesModel", "goTrains", "(I)V"⟩, 38) := ⟨⟨by decide +kernel, by decide +kernel⟩, List.mem_of_getElem? (i := 812) (by decide +kernel), List.mem_of_getElem? (i := 1083) (by decide +kernel), List.mem_of_getElem? (i := 1084) (by decide +kernel)⟩
theorem lw_p66 : lw_okq (⟨"FourTenGatesModel", "goUsers", "(I)V"⟩, 38) := ⟨⟨by decide +kernel, by decide +kernel⟩, List.mem_of_getElem? (i := 812) (by decide +kernel), List.mem_of_getElem? (i := 1087) (by decide +kernel), List.mem_of_getElem? (i := 1088) (by decide +kernel)⟩
theorem lw_p67 : lw_okq (⟨"FourTenGatesModel", "nextUser", "(I)I"⟩, 38) := ⟨⟨by decide +kernel, by decide +kernel⟩, List.mem_of_getElem? (i := 812) (by decide +kernel), List.mem_of_getElem? (i := 1091) (by decide +kernel), List.mem_of_getElem? (i := 1092) (by decide +kernel)⟩
theorem lw_p68 : lw_okq (⟨"FourTenGatesModel", "isWaiting", "(II)Z"⟩, 38) := ⟨⟨by decide +kernel, by decide +kernel⟩, List.mem_of_getElem? (i := 812) (by decide +kernel), List.mem_of_getElem? (i := 1095) (by decide +kernel), List.mem_of_getElem? (i := 1096) (by decide +kernel)⟩
theorem lw_p69 : lw_okq (⟨"FourTenGatesModel", "canCross", "(I)Z"⟩, 38) := ⟨⟨by decide +kernel, by decide +kernel⟩, List.mem_of_getElem? (i := 812) (by decide +kernel), List.mem_of_getElem? (i := 1099) (by decide +kernel), List.mem_of_getElem? (i := 1100) (by decide +kernel)⟩
theorem lw_p70 : lw_okq (⟨"FourTenGatesModel", "costBy", "(II)I"⟩, 38) := ⟨⟨by decide +kernel, by decide +kernel⟩, List.mem_of_getElem? (i := 812) (by decide +kernel), List.mem_of_getElem? (i := 1123) (by decide +kernel), List.mem_of_getElem? (i := 1124) (by decide +kernel)⟩
theorem lw_p71 : lw_okq (⟨"FourTenGatesModel", "costNow", "()I"⟩, 38) := ⟨⟨by decide +kernel, by decide +kernel⟩, List.mem_of_getElem? (i := 812) (by decide +kernel), List.mem_of_getElem? (i := 1127) (by decide +kernel), List.mem_of_getElem? (i := 1128) (by decide +kernel)⟩
theorem lw_p72 : lw_okq (⟨"FourTenGatesModel", "note", "()V"⟩, 38) := ⟨⟨by decide +kernel, by decide +kernel⟩, List.mem_of_getElem? (i := 812) (by decide +kernel), List.mem_of_getElem? (i := 1136) (by decide +kernel), List.mem_of_getElem? (i := 1137) (by decide +kernel)⟩
def lw_privs_5 : List (MethodName × Nat) := [(⟨"FourTenGatesModel", "inLead", "(II)Z"⟩, 38), (⟨"FourTenGatesModel", "goTrains", "(I)V"⟩, 38), (⟨"FourTenGatesModel", "goUsers", "(I)V"⟩, 38), (⟨"FourTenGatesModel", "nextUser", "(I)I"⟩, 38), (⟨"FourTenGatesModel", "isWaiting", "(II)Z"⟩, 38), (⟨"FourTenGatesModel", "canCross", "(I)Z"⟩, 38), (⟨"FourTenGatesModel", "costBy", "(II)I"⟩, 38), (⟨"FourTenGatesModel", "costNow", "()I"⟩, 38), (⟨"FourTenGatesModel", "note", "()V"⟩, 38)]
theorem lw_r5 : ∀ q ∈ lw_privs_5, lw_okq q := List.forall_mem_cons.mpr ⟨lw_p64, List.forall_mem_cons.mpr ⟨lw_p65, List.forall_mem_cons.mpr ⟨lw_p66, List.forall_mem_cons.mpr ⟨lw_p67, List.forall_mem_cons.mpr ⟨lw_p68, List.forall_mem_cons.mpr ⟨lw_p69, List.forall_mem_cons.mpr ⟨lw_p70, List.forall_mem_cons.mpr ⟨lw_p71, List.forall_mem_cons.mpr ⟨lw_p72, fun _ h => absurd h List.not_mem_nil⟩⟩⟩⟩⟩⟩⟩⟩⟩
def lw_privs : List (MethodName × Nat) := lw_privs_1 ++ (lw_privs_2 ++ (lw_privs_3 ++ (lw_privs_4 ++ (lw_privs_5))))
def lw_tbl : List Cond := k2_sels lw_privs ++ tables_1
theorem lw_privs_ok : ∀ q ∈ lw_privs, lw_okq q := by
  show ∀ q ∈ lw_privs_1 ++ (lw_privs_2 ++ (lw_privs_3 ++ (lw_privs_4 ++ (lw_privs_5)))), lw_okq q
  exact List.forall_mem_append.mpr ⟨lw_r1, List.forall_mem_append.mpr ⟨lw_r2, List.forall_mem_append.mpr ⟨lw_r3, List.forall_mem_append.mpr ⟨lw_r4, lw_r5⟩⟩⟩⟩
end
section
def RX0 : String := "FourTenGates$Book"
def TX0 : u_T := fun k => match k with
  | 0 => ("FourTenGates$Book", "trains", "LFourTenGates$Pairs;", true)
  | 1 => ("FourTenGates$Book", "users", "LFourTenGates$Pairs;", true)
  | 2 => ("FourTenGates$Book", "closings", "LFourTenGates$Pairs;", true)
  | 3 => ("FourTenGates$Book", "odds", "LFourTenGates$Pairs;", true)
  | 4 => ("FourTenGates$Book", "waitCosts", "[I", true)
  | 5 => ("FourTenGates$Book", "gateBeats", "I", false)
  | 6 => ("FourTenGates$Book", "stopCost", "I", false)
  | 7 => ("FourTenGates$Book", "patience", "I", false)
  | _ => ("FourTenGates$Book", "roundCost", "I", false)
def tyX0 : Nat → FieldType := fun k => match k with
  | 0 => .object "FourTenGates$Pairs"
  | 1 => .object "FourTenGates$Pairs"
  | 2 => .object "FourTenGates$Pairs"
  | 3 => .object "FourTenGates$Pairs"
  | 4 => .array .int
  | 5 => .int
  | 6 => .int
  | 7 => .int
  | _ => .int
theorem nmX0 : ∀ a, a < 9 → ∀ b, b < 9 → a ≠ b → (TX0 a).2.1 ≠ (TX0 b).2.1 := by decide +kernel
theorem tyX0_ok : ∀ k, k < 9 → parseFieldDescriptor (TX0 k).2.2.1 = some (tyX0 k) := by decide +kernel
def RX1 : String := "FourTenGates$Hour"
def TX1 : u_T := fun k => match k with
  | 0 => ("FourTenGates$Hour", "book", "LFourTenGates$Book;", true)
  | 1 => ("FourTenGates$Hour", "stand", "LFourTenGates$Stand;", true)
  | 2 => ("FourTenGates$Hour", "gatesAtEnd", "[I", true)
  | 3 => ("FourTenGates$Hour", "comings", "[I", true)
  | 4 => ("FourTenGates$Hour", "wantedFrom", "[I", true)
  | 5 => ("FourTenGates$Hour", "begins", "[I", true)
  | 6 => ("FourTenGates$Hour", "stops", "[I", true)
  | 7 => ("FourTenGates$Hour", "crossings", "[I", true)
  | 8 => ("FourTenGates$Hour", "waits", "[I", true)
  | 9 => ("FourTenGates$Hour", "waitingBits", "I", false)
  | 10 => ("FourTenGates$Hour", "upToDate", "Z", false)
  | 11 => ("FourTenGates$Hour", "rule", "I", false)
  | 12 => ("FourTenGates$Hour", "total", "I", false)
  | 13 => ("FourTenGates$Hour", "gates", "I", false)
  | 14 => ("FourTenGates$Hour", "movedTo", "I", false)
  | 15 => ("FourTenGates$Hour", "moved", "I", false)
  | 16 => ("FourTenGates$Hour", "roadFreeFrom", "I", false)
  | 17 => ("FourTenGates$Hour", "railFreeFrom", "I", false)
  | _ => ("FourTenGates$Hour", "stoppedBefore", "Z", false)
def tyX1 : Nat → FieldType := fun k => match k with
  | 0 => .object "FourTenGates$Book"
  | 1 => .object "FourTenGates$Stand"
  | 2 => .array .int
  | 3 => .array .int
  | 4 => .array .int
  | 5 => .array .int
  | 6 => .array .int
  | 7 => .array .int
  | 8 => .array .int
  | 9 => .int
  | 10 => .boolean
  | 11 => .int
  | 12 => .int
  | 13 => .int
  | 14 => .int
  | 15 => .int
  | 16 => .int
  | 17 => .int
  | _ => .boolean
theorem nmX1 : ∀ a, a < 19 → ∀ b, b < 19 → a ≠ b → (TX1 a).2.1 ≠ (TX1 b).2.1 := by decide +kernel
theorem tyX1_ok : ∀ k, k < 19 → parseFieldDescriptor (TX1 k).2.2.1 = some (tyX1 k) := by decide +kernel
def RX2 : String := "FourTenGates$Pairs"
def TX2 : u_T := fun k => match k with
  | 0 => ("FourTenGates$Pairs", "firsts", "[I", true)
  | 1 => ("FourTenGates$Pairs", "seconds", "[I", true)
  | 2 => ("FourTenGates$Pairs", "limit", "I", true)
  | _ => ("FourTenGates$Pairs", "size", "I", false)
def tyX2 : Nat → FieldType := fun k => match k with
  | 0 => .array .int
  | 1 => .array .int
  | 2 => .int
  | _ => .int
theorem nmX2 : ∀ a, a < 4 → ∀ b, b < 4 → a ≠ b → (TX2 a).2.1 ≠ (TX2 b).2.1 := by decide +kernel
theorem tyX2_ok : ∀ k, k < 4 → parseFieldDescriptor (TX2 k).2.2.1 = some (tyX2 k) := by decide +kernel
def RX3 : String := "FourTenGates$Pile"
def TX3 : u_T := fun k => match k with
  | 0 => ("FourTenGates$Pile", "stands", "[LFourTenGates$Stand;", true)
  | _ => ("FourTenGates$Pile", "size", "I", false)
def tyX3 : Nat → FieldType := fun k => match k with
  | 0 => .array (.object "FourTenGates$Stand")
  | _ => .int
theorem nmX3 : ∀ a, a < 2 → ∀ b, b < 2 → a ≠ b → (TX3 a).2.1 ≠ (TX3 b).2.1 := by decide +kernel
theorem tyX3_ok : ∀ k, k < 2 → parseFieldDescriptor (TX3 k).2.2.1 = some (tyX3 k) := by decide +kernel
def RX4 : String := "FourTenGates$Stand"
def TX4 : u_T := fun k => match k with
  | 0 => ("FourTenGates$Stand", "closings", "LFourTenGates$Pairs;", true)
  | _ => ("FourTenGates$Stand", "minutesLate", "[I", true)
def tyX4 : Nat → FieldType := fun k => match k with
  | 0 => .object "FourTenGates$Pairs"
  | _ => .array .int
theorem nmX4 : ∀ a, a < 2 → ∀ b, b < 2 → a ≠ b → (TX4 a).2.1 ≠ (TX4 b).2.1 := by decide +kernel
theorem tyX4_ok : ∀ k, k < 2 → parseFieldDescriptor (TX4 k).2.2.1 = some (tyX4 k) := by decide +kernel
def RX5 : String := "FourTenGates$Text"
def TX5 : u_T := fun k => match k with
  | 0 => ("FourTenGates$Text", "letters", "[I", true)
  | 1 => ("FourTenGates$Text", "size", "I", false)
  | _ => ("FourTenGates$Text", "number", "I", false)
def tyX5 : Nat → FieldType := fun k => match k with
  | 0 => .array .int
  | 1 => .int
  | _ => .int
theorem nmX5 : ∀ a, a < 3 → ∀ b, b < 3 → a ≠ b → (TX5 a).2.1 ≠ (TX5 b).2.1 := by decide +kernel
theorem tyX5_ok : ∀ k, k < 3 → parseFieldDescriptor (TX5 k).2.2.1 = some (tyX5 k) := by decide +kernel
def RX6 : String := "FourTenGates"
def TX6 : u_T := fun k => match k with
  | 0 => ("FourTenGates", "text", "LFourTenGates$Text;", true)
  | 1 => ("FourTenGates", "book", "LFourTenGates$Book;", true)
  | 2 => ("FourTenGates", "draft", "LFourTenGates$Book;", true)
  | 3 => ("FourTenGates", "now", "LFourTenGates$Stand;", true)
  | 4 => ("FourTenGates", "trial", "LFourTenGates$Stand;", true)
  | 5 => ("FourTenGates", "hours", "[LFourTenGates$Hour;", true)
  | 6 => ("FourTenGates", "trialHour", "LFourTenGates$Hour;", true)
  | 7 => ("FourTenGates", "undoable", "LFourTenGates$Pile;", true)
  | 8 => ("FourTenGates", "kept", "LFourTenGates$Pile;", true)
  | 9 => ("FourTenGates", "sightings", "LFourTenGates$Pairs;", true)
  | 10 => ("FourTenGates", "leadKnown", "Z", false)
  | 11 => ("FourTenGates", "leadBeats", "I", false)
  | _ => ("FourTenGates", "leadCost", "I", false)
def tyX6 : Nat → FieldType := fun k => match k with
  | 0 => .object "FourTenGates$Text"
  | 1 => .object "FourTenGates$Book"
  | 2 => .object "FourTenGates$Book"
  | 3 => .object "FourTenGates$Stand"
  | 4 => .object "FourTenGates$Stand"
  | 5 => .array (.object "FourTenGates$Hour")
  | 6 => .object "FourTenGates$Hour"
  | 7 => .object "FourTenGates$Pile"
  | 8 => .object "FourTenGates$Pile"
  | 9 => .object "FourTenGates$Pairs"
  | 10 => .boolean
  | 11 => .int
  | _ => .int
theorem nmX6 : ∀ a, a < 13 → ∀ b, b < 13 → a ≠ b → (TX6 a).2.1 ≠ (TX6 b).2.1 := by decide +kernel
theorem tyX6_ok : ∀ k, k < 13 → parseFieldDescriptor (TX6 k).2.2.1 = some (tyX6 k) := by decide +kernel
def RX7 : String := "FourTenGatesModel"
def TX7 : u_T := fun k => match k with
  | 0 => ("FourTenGatesModel", "length", "I", false)
  | 1 => ("FourTenGatesModel", "text", "[I", true)
  | 2 => ("FourTenGatesModel", "trains", "[I", true)
  | 3 => ("FourTenGatesModel", "dues", "[I", true)
  | 4 => ("FourTenGatesModel", "kinds", "[I", true)
  | 5 => ("FourTenGatesModel", "users", "[I", true)
  | 6 => ("FourTenGatesModel", "comings", "[I", true)
  | 7 => ("FourTenGatesModel", "sorts", "[I", true)
  | 8 => ("FourTenGatesModel", "told1", "[I", true)
  | 9 => ("FourTenGatesModel", "worths", "[I", true)
  | 10 => ("FourTenGatesModel", "closings", "[I", true)
  | 11 => ("FourTenGatesModel", "froms", "[I", true)
  | 12 => ("FourTenGatesModel", "tos", "[I", true)
  | 13 => ("FourTenGatesModel", "odds", "[I", true)
  | 14 => ("FourTenGatesModel", "lates", "[I", true)
  | 15 => ("FourTenGatesModel", "chances", "[I", true)
  | 16 => ("FourTenGatesModel", "now", "[I", true)
  | 17 => ("FourTenGatesModel", "before", "[I", true)
  | 18 => ("FourTenGatesModel", "undoMany", "I", false)
  | 19 => ("FourTenGatesModel", "kept", "[I", true)
  | 20 => ("FourTenGatesModel", "keptMany", "I", false)
  | 21 => ("FourTenGatesModel", "seenMany", "I", false)
  | 22 => ("FourTenGatesModel", "seenBeat", "[I", true)
  | 23 => ("FourTenGatesModel", "seenHow", "[I", true)
  | 24 => ("FourTenGatesModel", "spot", "I", false)
  | 25 => ("FourTenGatesModel", "told", "[I", true)
  | 26 => ("FourTenGatesModel", "gateAt", "[I", true)
  | 27 => ("FourTenGatesModel", "began", "[I", true)
  | 28 => ("FourTenGatesModel", "stops", "[I", true)
  | 29 => ("FourTenGatesModel", "crosses", "[I", true)
  | 30 => ("FourTenGatesModel", "waits", "[I", true)
  | 31 => ("FourTenGatesModel", "isRound", "[Z", true)
  | 32 => ("FourTenGatesModel", "how", "I", false)
  | 33 => ("FourTenGatesModel", "moved", "I", false)
  | 34 => ("FourTenGatesModel", "isClosing", "Z", false)
  | 35 => ("FourTenGatesModel", "wasStopped", "Z", false)
  | 36 => ("FourTenGatesModel", "roadFree", "I", false)
  | _ => ("FourTenGatesModel", "waslate", "[I", true)
def tyX7 : Nat → FieldType := fun k => match k with
  | 0 => .int
  | 1 => .array .int
  | 2 => .array .int
  | 3 => .array .int
  | 4 => .array .int
  | 5 => .array .int
  | 6 => .array .int
  | 7 => .array .int
  | 8 => .array .int
  | 9 => .array .int
  | 10 => .array .int
  | 11 => .array .int
  | 12 => .array .int
  | 13 => .array .int
  | 14 => .array .int
  | 15 => .array .int
  | 16 => .array .int
  | 17 => .array .int
  | 18 => .int
  | 19 => .array .int
  | 20 => .int
  | 21 => .int
  | 22 => .array .int
  | 23 => .array .int
  | 24 => .int
  | 25 => .array .int
  | 26 => .array .int
  | 27 => .array .int
  | 28 => .array .int
  | 29 => .array .int
  | 30 => .array .int
  | 31 => .array .boolean
  | 32 => .int
  | 33 => .int
  | 34 => .boolean
  | 35 => .boolean
  | 36 => .int
  | _ => .array .int
theorem nmX7 : ∀ a, a < 38 → ∀ b, b < 38 → a ≠ b → (TX7 a).2.1 ≠ (TX7 b).2.1 := by decide +kernel
theorem tyX7_ok : ∀ k, k < 38 → parseFieldDescriptor (TX7 k).2.2.1 = some (tyX7 k) := by decide +kernel
abbrev cX0_init : ByteArray := prog_2_method_1_code
def yX0_init : MethodName := ⟨RX0, "<init>", "()V"⟩
abbrev cX0_gateBeats : ByteArray := prog_2_method_2_code
def yX0_gateBeats : MethodName := ⟨RX0, "gateBeats", "()I"⟩
abbrev cX0_stopCost : ByteArray := prog_2_method_3_code
def yX0_stopCost : MethodName := ⟨RX0, "stopCost", "()I"⟩
abbrev cX0_waitCost : ByteArray := prog_2_method_4_code
def yX0_waitCost : MethodName := ⟨RX0, "waitCost", "(I)I"⟩
abbrev cX0_patience : ByteArray := prog_2_method_5_code
def yX0_patience : MethodName := ⟨RX0, "patience", "()I"⟩
abbrev cX0_roundCost : ByteArray := prog_2_method_6_code
def yX0_roundCost : MethodName := ⟨RX0, "roundCost", "()I"⟩
abbrev cX0_begin : ByteArray := prog_2_method_7_code
def yX0_begin : MethodName := ⟨RX0, "begin", "()V"⟩
abbrev cX0_copy : ByteArray := prog_2_method_8_code
def yX0_copy : MethodName := ⟨RX0, "copy", "(LFourTenGates$Book;)V"⟩
abbrev cX0_canBeLaid : ByteArray := prog_2_method_9_code
def yX0_canBeLaid : MethodName := ⟨RX0, "canBeLaid", "()Z"⟩
abbrev cX0_take : ByteArray := prog_2_method_10_code
def yX0_take : MethodName := ⟨RX0, "take", "(III)Z"⟩
abbrev cX0_takeGates : ByteArray := prog_2_method_11_code
def yX0_takeGates : MethodName := ⟨RX0, "takeGates", "(I)Z"⟩
abbrev cX0_takeStopCost : ByteArray := prog_2_method_12_code
def yX0_takeStopCost : MethodName := ⟨RX0, "takeStopCost", "(I)Z"⟩
abbrev cX0_takeWaitCost : ByteArray := prog_2_method_13_code
def yX0_takeWaitCost : MethodName := ⟨RX0, "takeWaitCost", "(II)Z"⟩
abbrev cX0_takePatience : ByteArray := prog_2_method_14_code
def yX0_takePatience : MethodName := ⟨RX0, "takePatience", "(II)Z"⟩
abbrev cX1_init : ByteArray := prog_3_method_1_code
def yX1_init : MethodName := ⟨RX1, "<init>", "(LFourTenGates$Book;LFourTenGates$Stand;)V"⟩
abbrev cX1_isUpToDate : ByteArray := prog_3_method_2_code
def yX1_isUpToDate : MethodName := ⟨RX1, "isUpToDate", "()Z"⟩
abbrev cX1_outdate : ByteArray := prog_3_method_3_code
def yX1_outdate : MethodName := ⟨RX1, "outdate", "()V"⟩
abbrev cX1_gatesAt : ByteArray := prog_3_method_4_code
def yX1_gatesAt : MethodName := ⟨RX1, "gatesAt", "(I)I"⟩
abbrev cX1_beginOf : ByteArray := prog_3_method_5_code
def yX1_beginOf : MethodName := ⟨RX1, "beginOf", "(I)I"⟩
abbrev cX1_stopsOf : ByteArray := prog_3_method_6_code
def yX1_stopsOf : MethodName := ⟨RX1, "stopsOf", "(I)I"⟩
abbrev cX1_crossingOf : ByteArray := prog_3_method_7_code
def yX1_crossingOf : MethodName := ⟨RX1, "crossingOf", "(I)I"⟩
abbrev cX1_waitOf : ByteArray := prog_3_method_8_code
def yX1_waitOf : MethodName := ⟨RX1, "waitOf", "(I)I"⟩
abbrev cX1_total : ByteArray := prog_3_method_9_code
def yX1_total : MethodName := ⟨RX1, "total", "()I"⟩
abbrev cX1_allStops : ByteArray := prog_3_method_10_code
def yX1_allStops : MethodName := ⟨RX1, "allStops", "()I"⟩
abbrev cX1_run : ByteArray := prog_3_method_11_code
def yX1_run : MethodName := ⟨RX1, "run", "(III)V"⟩
abbrev cX1_beginTrains : ByteArray := prog_3_method_12_code
def yX1_beginTrains : MethodName := ⟨RX1, "beginTrains", "(I)V"⟩
abbrev cX1_beginUsers : ByteArray := prog_3_method_13_code
def yX1_beginUsers : MethodName := ⟨RX1, "beginUsers", "()V"⟩
abbrev cX1_beginGates : ByteArray := prog_3_method_14_code
def yX1_beginGates : MethodName := ⟨RX1, "beginGates", "()V"⟩
abbrev cX1_moveGates : ByteArray := prog_3_method_15_code
def yX1_moveGates : MethodName := ⟨RX1, "moveGates", "()V"⟩
abbrev cX1_turnGates : ByteArray := prog_3_method_16_code
def yX1_turnGates : MethodName := ⟨RX1, "turnGates", "(I)V"⟩
abbrev cX1_startMoving : ByteArray := prog_3_method_17_code
def yX1_startMoving : MethodName := ⟨RX1, "startMoving", "(I)V"⟩
abbrev cX1_wantsShut : ByteArray := prog_3_method_18_code
def yX1_wantsShut : MethodName := ⟨RX1, "wantsShut", "(I)Z"⟩
abbrev cX1_isTrainAwaited : ByteArray := prog_3_method_19_code
def yX1_isTrainAwaited : MethodName := ⟨RX1, "isTrainAwaited", "(I)Z"⟩
abbrev cX1_isTrainInSight : ByteArray := prog_3_method_20_code
def yX1_isTrainInSight : MethodName := ⟨RX1, "isTrainInSight", "(I)Z"⟩
abbrev cX1_isTrainDueByBook : ByteArray := prog_3_method_21_code
def yX1_isTrainDueByBook : MethodName := ⟨RX1, "isTrainDueByBook", "(I)Z"⟩
abbrev cX1_hasPassed : ByteArray := prog_3_method_22_code
def yX1_hasPassed : MethodName := ⟨RX1, "hasPassed", "(II)Z"⟩
abbrev cX1_runTrains : ByteArray := prog_3_method_23_code
def yX1_runTrains : MethodName := ⟨RX1, "runTrains", "(I)V"⟩
abbrev cX1_runUsers : ByteArray := prog_3_method_24_code
def yX1_runUsers : MethodName := ⟨RX1, "runUsers", "(I)V"⟩
abbrev cX1_meetUsers : ByteArray := prog_3_method_25_code
def yX1_meetUsers : MethodName := ⟨RX1, "meetUsers", "(I)V"⟩
abbrev cX1_isWaiting : ByteArray := prog_3_method_26_code
def yX1_isWaiting : MethodName := ⟨RX1, "isWaiting", "(I)Z"⟩
abbrev cX1_firstToCross : ByteArray := prog_3_method_27_code
def yX1_firstToCross : MethodName := ⟨RX1, "firstToCross", "()I"⟩
abbrev cX1_canCross : ByteArray := prog_3_method_28_code
def yX1_canCross : MethodName := ⟨RX1, "canCross", "(I)Z"⟩
abbrev cX1_letCross : ByteArray := prog_3_method_29_code
def yX1_letCross : MethodName := ⟨RX1, "letCross", "(II)V"⟩
abbrev cX1_beatsOnRoad : ByteArray := prog_3_method_30_code
def yX1_beatsOnRoad : MethodName := ⟨RX1, "beatsOnRoad", "(I)I"⟩
abbrev cX1_payForWait : ByteArray := prog_3_method_31_code
def yX1_payForWait : MethodName := ⟨RX1, "payForWait", "(II)V"⟩
abbrev cX2_init : ByteArray := prog_4_method_1_code
def yX2_init : MethodName := ⟨RX2, "<init>", "(I)V"⟩
abbrev cX2_size : ByteArray := prog_4_method_2_code
def yX2_size : MethodName := ⟨RX2, "size", "()I"⟩
abbrev cX2_isFull : ByteArray := prog_4_method_3_code
def yX2_isFull : MethodName := ⟨RX2, "isFull", "()Z"⟩
abbrev cX2_first : ByteArray := prog_4_method_4_code
def yX2_first : MethodName := ⟨RX2, "first", "(I)I"⟩
abbrev cX2_second : ByteArray := prog_4_method_5_code
def yX2_second : MethodName := ⟨RX2, "second", "(I)I"⟩
abbrev cX2_add : ByteArray := prog_4_method_6_code
def yX2_add : MethodName := ⟨RX2, "add", "(II)Z"⟩
abbrev cX2_remove : ByteArray := prog_4_method_7_code
def yX2_remove : MethodName := ⟨RX2, "remove", "(I)V"⟩
abbrev cX2_empty : ByteArray := prog_4_method_8_code
def yX2_empty : MethodName := ⟨RX2, "empty", "()I"⟩
abbrev cX2_copy : ByteArray := prog_4_method_9_code
def yX2_copy : MethodName := ⟨RX2, "copy", "(LFourTenGates$Pairs;)V"⟩
abbrev cX3_init : ByteArray := prog_5_method_1_code
def yX3_init : MethodName := ⟨RX3, "<init>", "(I)V"⟩
abbrev cX3_size : ByteArray := prog_5_method_2_code
def yX3_size : MethodName := ⟨RX3, "size", "()I"⟩
abbrev cX3_isFull : ByteArray := prog_5_method_3_code
def yX3_isFull : MethodName := ⟨RX3, "isFull", "()Z"⟩
abbrev cX3_empty : ByteArray := prog_5_method_4_code
def yX3_empty : MethodName := ⟨RX3, "empty", "()V"⟩
abbrev cX3_push : ByteArray := prog_5_method_5_code
def yX3_push : MethodName := ⟨RX3, "push", "(LFourTenGates$Stand;)V"⟩
abbrev cX3_pop : ByteArray := prog_5_method_6_code
def yX3_pop : MethodName := ⟨RX3, "pop", "(LFourTenGates$Stand;)Z"⟩
abbrev cX3_dropLowest : ByteArray := prog_5_method_7_code
def yX3_dropLowest : MethodName := ⟨RX3, "dropLowest", "()V"⟩
abbrev cX4_init : ByteArray := prog_6_method_1_code
def yX4_init : MethodName := ⟨RX4, "<init>", "()V"⟩
abbrev cX4_begin : ByteArray := prog_6_method_2_code
def yX4_begin : MethodName := ⟨RX4, "begin", "(LFourTenGates$Pairs;)V"⟩
abbrev cX4_copy : ByteArray := prog_6_method_3_code
def yX4_copy : MethodName := ⟨RX4, "copy", "(LFourTenGates$Stand;)V"⟩
abbrev cX4_lateOf : ByteArray := prog_6_method_4_code
def yX4_lateOf : MethodName := ⟨RX4, "lateOf", "(I)I"⟩
abbrev cX4_makeLate : ByteArray := prog_6_method_5_code
def yX4_makeLate : MethodName := ⟨RX4, "makeLate", "(II)V"⟩
abbrev cX4_comingOf : ByteArray := prog_6_method_6_code
def yX4_comingOf : MethodName := ⟨RX4, "comingOf", "(LFourTenGates$Pairs;I)I"⟩
abbrev cX4_isPlannedShut : ByteArray := prog_6_method_7_code
def yX4_isPlannedShut : MethodName := ⟨RX4, "isPlannedShut", "(I)Z"⟩
abbrev cX5_init : ByteArray := prog_7_method_1_code
def yX5_init : MethodName := ⟨RX5, "<init>", "()V"⟩
abbrev cX5_size : ByteArray := prog_7_method_2_code
def yX5_size : MethodName := ⟨RX5, "size", "()I"⟩
abbrev cX5_add : ByteArray := prog_7_method_3_code
def yX5_add : MethodName := ⟨RX5, "add", "(I)Z"⟩
abbrev cX5_empty : ByteArray := prog_7_method_4_code
def yX5_empty : MethodName := ⟨RX5, "empty", "()I"⟩
abbrev cX5_readInto : ByteArray := prog_7_method_5_code
def yX5_readInto : MethodName := ⟨RX5, "readInto", "(LFourTenGates$Book;)I"⟩
abbrev cX5_readItem : ByteArray := prog_7_method_6_code
def yX5_readItem : MethodName := ⟨RX5, "readItem", "(ILFourTenGates$Book;)I"⟩
abbrev cX5_readNumber : ByteArray := prog_7_method_7_code
def yX5_readNumber : MethodName := ⟨RX5, "readNumber", "(I)I"⟩
abbrev cX5_isFigure : ByteArray := prog_7_method_8_code
def yX5_isFigure : MethodName := ⟨RX5, "isFigure", "(I)Z"⟩
abbrev cX5_letterAt : ByteArray := prog_7_method_9_code
def yX5_letterAt : MethodName := ⟨RX5, "letterAt", "(I)I"⟩
abbrev cX6_init : ByteArray := prog_1_method_1_code
def yX6_init : MethodName := ⟨RX6, "<init>", "()V"⟩
abbrev cX6_write : ByteArray := prog_1_method_2_code
def yX6_write : MethodName := ⟨RX6, "write", "(I)I"⟩
abbrev cX6_wipe : ByteArray := prog_1_method_3_code
def yX6_wipe : MethodName := ⟨RX6, "wipe", "()I"⟩
abbrev cX6_fault : ByteArray := prog_1_method_4_code
def yX6_fault : MethodName := ⟨RX6, "fault", "()I"⟩
abbrev cX6_lay : ByteArray := prog_1_method_5_code
def yX6_lay : MethodName := ⟨RX6, "lay", "()I"⟩
abbrev cX6_train : ByteArray := prog_1_method_6_code
def yX6_train : MethodName := ⟨RX6, "train", "(II)I"⟩
abbrev cX6_user : ByteArray := prog_1_method_7_code
def yX6_user : MethodName := ⟨RX6, "user", "(II)I"⟩
abbrev cX6_gates : ByteArray := prog_1_method_8_code
def yX6_gates : MethodName := ⟨RX6, "gates", "(II)I"⟩
abbrev cX6_passed : ByteArray := prog_1_method_9_code
def yX6_passed : MethodName := ⟨RX6, "passed", "(II)I"⟩
abbrev cX6_stopped : ByteArray := prog_1_method_10_code
def yX6_stopped : MethodName := ⟨RX6, "stopped", "(II)I"⟩
abbrev cX6_crossed : ByteArray := prog_1_method_11_code
def yX6_crossed : MethodName := ⟨RX6, "crossed", "(II)I"⟩
abbrev cX6_waited : ByteArray := prog_1_method_12_code
def yX6_waited : MethodName := ⟨RX6, "waited", "(II)I"⟩
abbrev cX6_cost : ByteArray := prog_1_method_13_code
def yX6_cost : MethodName := ⟨RX6, "cost", "(I)I"⟩
abbrev cX6_late : ByteArray := prog_1_method_14_code
def yX6_late : MethodName := ⟨RX6, "late", "(II)I"⟩
abbrev cX6_shut : ByteArray := prog_1_method_15_code
def yX6_shut : MethodName := ⟨RX6, "shut", "(II)I"⟩
abbrev cX6_leave : ByteArray := prog_1_method_16_code
def yX6_leave : MethodName := ⟨RX6, "leave", "(I)I"⟩
abbrev cX6_undo : ByteArray := prog_1_method_17_code
def yX6_undo : MethodName := ⟨RX6, "undo", "()I"⟩
abbrev cX6_cheapest : ByteArray := prog_1_method_18_code
def yX6_cheapest : MethodName := ⟨RX6, "cheapest", "(I)I"⟩
abbrev cX6_lead : ByteArray := prog_1_method_19_code
def yX6_lead : MethodName := ⟨RX6, "lead", "(I)I"⟩
abbrev cX6_more : ByteArray := prog_1_method_20_code
def yX6_more : MethodName := ⟨RX6, "more", "(III)I"⟩
abbrev cX6_dinner : ByteArray := prog_1_method_21_code
def yX6_dinner : MethodName := ⟨RX6, "dinner", "(II)I"⟩
abbrev cX6_byNow : ByteArray := prog_1_method_22_code
def yX6_byNow : MethodName := ⟨RX6, "byNow", "(III)I"⟩
abbrev cX6_which : ByteArray := prog_1_method_23_code
def yX6_which : MethodName := ⟨RX6, "which", "(I)I"⟩
abbrev cX6_seen : ByteArray := prog_1_method_24_code
def yX6_seen : MethodName := ⟨RX6, "seen", "(II)I"⟩
abbrev cX6_forget : ByteArray := prog_1_method_25_code
def yX6_forget : MethodName := ⟨RX6, "forget", "()I"⟩
abbrev cX6_fits : ByteArray := prog_1_method_26_code
def yX6_fits : MethodName := ⟨RX6, "fits", "()I"⟩
abbrev cX6_bridge : ByteArray := prog_1_method_27_code
def yX6_bridge : MethodName := ⟨RX6, "bridge", "(II)I"⟩
abbrev cX6_mean : ByteArray := prog_1_method_28_code
def yX6_mean : MethodName := ⟨RX6, "mean", "(III)I"⟩
abbrev cX6_day : ByteArray := prog_1_method_29_code
def yX6_day : MethodName := ⟨RX6, "day", "(III)I"⟩
abbrev cX6_keep : ByteArray := prog_1_method_30_code
def yX6_keep : MethodName := ⟨RX6, "keep", "()I"⟩
abbrev cX6_back : ByteArray := prog_1_method_31_code
def yX6_back : MethodName := ⟨RX6, "back", "()I"⟩
abbrev cX6_count : ByteArray := prog_1_method_32_code
def yX6_count : MethodName := ⟨RX6, "count", "(I)I"⟩
abbrev cX6_between : ByteArray := prog_1_method_33_code
def yX6_between : MethodName := ⟨RX6, "between", "(III)Z"⟩
abbrev cX6_isRule : ByteArray := prog_1_method_34_code
def yX6_isRule : MethodName := ⟨RX6, "isRule", "(I)Z"⟩
abbrev cX6_isBeat : ByteArray := prog_1_method_35_code
def yX6_isBeat : MethodName := ⟨RX6, "isBeat", "(I)Z"⟩
abbrev cX6_isMinute : ByteArray := prog_1_method_36_code
def yX6_isMinute : MethodName := ⟨RX6, "isMinute", "(I)Z"⟩
abbrev cX6_isToldLateness : ByteArray := prog_1_method_37_code
def yX6_isToldLateness : MethodName := ⟨RX6, "isToldLateness", "(I)Z"⟩
abbrev cX6_isClosing : ByteArray := prog_1_method_38_code
def yX6_isClosing : MethodName := ⟨RX6, "isClosing", "(II)Z"⟩
abbrev cX6_isTrain : ByteArray := prog_1_method_39_code
def yX6_isTrain : MethodName := ⟨RX6, "isTrain", "(I)Z"⟩
abbrev cX6_isUser : ByteArray := prog_1_method_40_code
def yX6_isUser : MethodName := ⟨RX6, "isUser", "(I)Z"⟩
abbrev cX6_layText : ByteArray := prog_1_method_41_code
def yX6_layText : MethodName := ⟨RX6, "layText", "()Z"⟩
abbrev cX6_beginChange : ByteArray := prog_1_method_42_code
def yX6_beginChange : MethodName := ⟨RX6, "beginChange", "()V"⟩
abbrev cX6_outdateHours : ByteArray := prog_1_method_43_code
def yX6_outdateHours : MethodName := ⟨RX6, "outdateHours", "()V"⟩
abbrev cX6_hourBy : ByteArray := prog_1_method_44_code
def yX6_hourBy : MethodName := ⟨RX6, "hourBy", "(I)LFourTenGates$Hour;"⟩
abbrev cX6_costIfLate : ByteArray := prog_1_method_45_code
def yX6_costIfLate : MethodName := ⟨RX6, "costIfLate", "(III)I"⟩
abbrev cX6_findLead : ByteArray := prog_1_method_46_code
def yX6_findLead : MethodName := ⟨RX6, "findLead", "()V"⟩
abbrev cX6_drawnLateness : ByteArray := prog_1_method_47_code
def yX6_drawnLateness : MethodName := ⟨RX6, "drawnLateness", "(II)I"⟩
abbrev cX6_isAsSeen : ByteArray := prog_1_method_48_code
def yX6_isAsSeen : MethodName := ⟨RX6, "isAsSeen", "(LFourTenGates$Hour;)Z"⟩
abbrev cX6_partOf : ByteArray := prog_1_method_49_code
def yX6_partOf : MethodName := ⟨RX6, "partOf", "(III)I"⟩
abbrev cX6_bellOf : ByteArray := prog_1_method_50_code
def yX6_bellOf : MethodName := ⟨RX6, "bellOf", "(I)I"⟩
abbrev cX6_bellBeat : ByteArray := prog_1_method_51_code
def yX6_bellBeat : MethodName := ⟨RX6, "bellBeat", "(II)I"⟩
abbrev cX7_init : ByteArray := prog_9_method_1_code
def yX7_init : MethodName := ⟨RX7, "<init>", "()V"⟩
abbrev cX7_in : ByteArray := prog_9_method_2_code
def yX7_in : MethodName := ⟨RX7, "in", "(JJJ)Z"⟩
abbrev cX7_noHour : ByteArray := prog_9_method_3_code
def yX7_noHour : MethodName := ⟨RX7, "noHour", "(I)V"⟩
abbrev cX7_addTrain : ByteArray := prog_9_method_4_code
def yX7_addTrain : MethodName := ⟨RX7, "addTrain", "(III)V"⟩
abbrev cX7_addUser : ByteArray := prog_9_method_5_code
def yX7_addUser : MethodName := ⟨RX7, "addUser", "(III)V"⟩
abbrev cX7_write : ByteArray := prog_9_method_6_code
def yX7_write : MethodName := ⟨RX7, "write", "(I)I"⟩
abbrev cX7_wipe : ByteArray := prog_9_method_7_code
def yX7_wipe : MethodName := ⟨RX7, "wipe", "()I"⟩
abbrev cX7_letterAt : ByteArray := prog_9_method_8_code
def yX7_letterAt : MethodName := ⟨RX7, "letterAt", "(I)I"⟩
abbrev cX7_figures : ByteArray := prog_9_method_9_code
def yX7_figures : MethodName := ⟨RX7, "figures", "(I)Z"⟩
abbrev cX7_setTold : ByteArray := prog_9_method_10_code
def yX7_setTold : MethodName := ⟨RX7, "setTold", "(IIII)Z"⟩
abbrev cX7_closingItem : ByteArray := prog_9_method_11_code
def yX7_closingItem : MethodName := ⟨RX7, "closingItem", "()Z"⟩
abbrev cX7_oddsItem : ByteArray := prog_9_method_12_code
def yX7_oddsItem : MethodName := ⟨RX7, "oddsItem", "()Z"⟩
abbrev cX7_item : ByteArray := prog_9_method_13_code
def yX7_item : MethodName := ⟨RX7, "item", "()Z"⟩
abbrev cX7_readAll : ByteArray := prog_9_method_14_code
def yX7_readAll : MethodName := ⟨RX7, "readAll", "()I"⟩
abbrev cX7_fault : ByteArray := prog_9_method_15_code
def yX7_fault : MethodName := ⟨RX7, "fault", "()I"⟩
abbrev cX7_allOdds : ByteArray := prog_9_method_16_code
def yX7_allOdds : MethodName := ⟨RX7, "allOdds", "(I)I"⟩
abbrev cX7_lay : ByteArray := prog_9_method_17_code
def yX7_lay : MethodName := ⟨RX7, "lay", "()I"⟩
abbrev cX7_begin : ByteArray := prog_9_method_18_code
def yX7_begin : MethodName := ⟨RX7, "begin", "()V"⟩
abbrev cX7_isTrain : ByteArray := prog_9_method_19_code
def yX7_isTrain : MethodName := ⟨RX7, "isTrain", "(I)Z"⟩
abbrev cX7_isUser : ByteArray := prog_9_method_20_code
def yX7_isUser : MethodName := ⟨RX7, "isUser", "(I)Z"⟩
abbrev cX7_isRule : ByteArray := prog_9_method_21_code
def yX7_isRule : MethodName := ⟨RX7, "isRule", "(I)Z"⟩
abbrev cX7_comesAt : ByteArray := prog_9_method_22_code
def yX7_comesAt : MethodName := ⟨RX7, "comesAt", "(I)I"⟩
abbrev cX7_bellOf : ByteArray := prog_9_method_23_code
def yX7_bellOf : MethodName := ⟨RX7, "bellOf", "(I)I"⟩
abbrev cX7_train : ByteArray := prog_9_method_24_code
def yX7_train : MethodName := ⟨RX7, "train", "(II)I"⟩
abbrev cX7_user : ByteArray := prog_9_method_25_code
def yX7_user : MethodName := ⟨RX7, "user", "(II)I"⟩
abbrev cX7_beginHour : ByteArray := prog_9_method_26_code
def yX7_beginHour : MethodName := ⟨RX7, "beginHour", "()V"⟩
abbrev cX7_isPassing : ByteArray := prog_9_method_27_code
def yX7_isPassing : MethodName := ⟨RX7, "isPassing", "(I)Z"⟩
abbrev cX7_hasPassed : ByteArray := prog_9_method_28_code
def yX7_hasPassed : MethodName := ⟨RX7, "hasPassed", "(II)Z"⟩
abbrev cX7_inPlan : ByteArray := prog_9_method_29_code
def yX7_inPlan : MethodName := ⟨RX7, "inPlan", "(I)Z"⟩
abbrev cX7_inBell : ByteArray := prog_9_method_30_code
def yX7_inBell : MethodName := ⟨RX7, "inBell", "(I)Z"⟩
abbrev cX7_inSight : ByteArray := prog_9_method_31_code
def yX7_inSight : MethodName := ⟨RX7, "inSight", "(I)Z"⟩
abbrev cX7_inWait : ByteArray := prog_9_method_32_code
def yX7_inWait : MethodName := ⟨RX7, "inWait", "(I)Z"⟩
abbrev cX7_inLead : ByteArray := prog_9_method_33_code
def yX7_inLead : MethodName := ⟨RX7, "inLead", "(II)Z"⟩
abbrev cX7_wantsShut : ByteArray := prog_9_method_34_code
def yX7_wantsShut : MethodName := ⟨RX7, "wantsShut", "(III)Z"⟩
abbrev cX7_moveGates : ByteArray := prog_9_method_35_code
def yX7_moveGates : MethodName := ⟨RX7, "moveGates", "(III)V"⟩
abbrev cX7_goTrains : ByteArray := prog_9_method_36_code
def yX7_goTrains : MethodName := ⟨RX7, "goTrains", "(I)V"⟩
abbrev cX7_isWaiting : ByteArray := prog_9_method_37_code
def yX7_isWaiting : MethodName := ⟨RX7, "isWaiting", "(II)Z"⟩
abbrev cX7_canCross : ByteArray := prog_9_method_38_code
def yX7_canCross : MethodName := ⟨RX7, "canCross", "(I)Z"⟩
abbrev cX7_nextUser : ByteArray := prog_9_method_39_code
def yX7_nextUser : MethodName := ⟨RX7, "nextUser", "(I)I"⟩
abbrev cX7_goUsers : ByteArray := prog_9_method_40_code
def yX7_goUsers : MethodName := ⟨RX7, "goUsers", "(I)V"⟩
abbrev cX7_goHour : ByteArray := prog_9_method_41_code
def yX7_goHour : MethodName := ⟨RX7, "goHour", "(II)V"⟩
abbrev cX7_costNow : ByteArray := prog_9_method_42_code
def yX7_costNow : MethodName := ⟨RX7, "costNow", "()I"⟩
abbrev cX7_costBy : ByteArray := prog_9_method_43_code
def yX7_costBy : MethodName := ⟨RX7, "costBy", "(II)I"⟩
abbrev cX7_gates : ByteArray := prog_9_method_44_code
def yX7_gates : MethodName := ⟨RX7, "gates", "(II)I"⟩
abbrev cX7_passed : ByteArray := prog_9_method_45_code
def yX7_passed : MethodName := ⟨RX7, "passed", "(II)I"⟩
abbrev cX7_stopped : ByteArray := prog_9_method_46_code
def yX7_stopped : MethodName := ⟨RX7, "stopped", "(II)I"⟩
abbrev cX7_crossed : ByteArray := prog_9_method_47_code
def yX7_crossed : MethodName := ⟨RX7, "crossed", "(II)I"⟩
abbrev cX7_waited : ByteArray := prog_9_method_48_code
def yX7_waited : MethodName := ⟨RX7, "waited", "(II)I"⟩
abbrev cX7_cost : ByteArray := prog_9_method_49_code
def yX7_cost : MethodName := ⟨RX7, "cost", "(I)I"⟩
abbrev cX7_note : ByteArray := prog_9_method_50_code
def yX7_note : MethodName := ⟨RX7, "note", "()V"⟩
abbrev cX7_late : ByteArray := prog_9_method_51_code
def yX7_late : MethodName := ⟨RX7, "late", "(II)I"⟩
abbrev cX7_shut : ByteArray := prog_9_method_52_code
def yX7_shut : MethodName := ⟨RX7, "shut", "(II)I"⟩
abbrev cX7_leave : ByteArray := prog_9_method_53_code
def yX7_leave : MethodName := ⟨RX7, "leave", "(I)I"⟩
abbrev cX7_undo : ByteArray := prog_9_method_54_code
def yX7_undo : MethodName := ⟨RX7, "undo", "()I"⟩
abbrev cX7_cheapest : ByteArray := prog_9_method_55_code
def yX7_cheapest : MethodName := ⟨RX7, "cheapest", "(I)I"⟩
abbrev cX7_lead : ByteArray := prog_9_method_56_code
def yX7_lead : MethodName := ⟨RX7, "lead", "(I)I"⟩
abbrev cX7_more : ByteArray := prog_9_method_57_code
def yX7_more : MethodName := ⟨RX7, "more", "(III)I"⟩
abbrev cX7_dinner : ByteArray := prog_9_method_58_code
def yX7_dinner : MethodName := ⟨RX7, "dinner", "(II)I"⟩
abbrev cX7_common : ByteArray := prog_9_method_59_code
def yX7_common : MethodName := ⟨RX7, "common", "(II)I"⟩
abbrev cX7_byNow : ByteArray := prog_9_method_60_code
def yX7_byNow : MethodName := ⟨RX7, "byNow", "(III)I"⟩
abbrev cX7_which : ByteArray := prog_9_method_61_code
def yX7_which : MethodName := ⟨RX7, "which", "(I)I"⟩
abbrev cX7_seen : ByteArray := prog_9_method_62_code
def yX7_seen : MethodName := ⟨RX7, "seen", "(II)I"⟩
abbrev cX7_forget : ByteArray := prog_9_method_63_code
def yX7_forget : MethodName := ⟨RX7, "forget", "()I"⟩
abbrev cX7_fits : ByteArray := prog_9_method_64_code
def yX7_fits : MethodName := ⟨RX7, "fits", "()I"⟩
abbrev cX7_bridge : ByteArray := prog_9_method_65_code
def yX7_bridge : MethodName := ⟨RX7, "bridge", "(II)I"⟩
abbrev cX7_mean : ByteArray := prog_9_method_66_code
def yX7_mean : MethodName := ⟨RX7, "mean", "(III)I"⟩
abbrev cX7_day : ByteArray := prog_9_method_67_code
def yX7_day : MethodName := ⟨RX7, "day", "(III)I"⟩
abbrev cX7_keep : ByteArray := prog_9_method_68_code
def yX7_keep : MethodName := ⟨RX7, "keep", "()I"⟩
abbrev cX7_back : ByteArray := prog_9_method_69_code
def yX7_back : MethodName := ⟨RX7, "back", "()I"⟩
abbrev cX7_count : ByteArray := prog_9_method_70_code
def yX7_count : MethodName := ⟨RX7, "count", "(I)I"⟩
abbrev vwCl : List vw_C := [(RX0, TX0, 9), (RX1, TX1, 19), (RX2, TX2, 4), (RX3, TX3, 2), (RX4, TX4, 2), (RX5, TX5, 3), (RX6, TX6, 13), (RX7, TX7, 38)]
/-- the good words of the tables -/
def gtbl : List Cond := lw_tbl.filter goodWord
theorem gt_good : ∀ w ∈ gtbl, goodWord w = true := fun w h => (List.mem_filter.mp h).2
theorem gt_in : ∀ w ∈ gtbl, w ∈ lw_tbl := fun w h => (List.mem_filter.mp h).1
theorem gt_at {w : Cond} (i : Nat) (h : lw_tbl[i]? = some w) (hg : goodWord w = true) : w ∈ gtbl := List.mem_filter.mpr ⟨List.mem_of_getElem? h, hg⟩
theorem gt_all {ws : List Cond} (is : List Nat) (h : is.map (fun i => lw_tbl[i]?) = ws.map some) (hg : ws.all goodWord = true) : ∀ w ∈ ws, w ∈ gtbl := by
  intro w hw
  have h1 := List.all_eq_true.mp hg w hw
  obtain ⟨k, hk⟩ := List.getElem?_of_mem hw
  have h2 : (ws.map some)[k]? = some (some w) := by rw [List.getElem?_map, hk]; rfl
  rw [← h, List.getElem?_map] at h2
  cases hi : is[k]? with
  | none => rw [hi] at h2; cases h2
  | some i => rw [hi] at h2; exact gt_at i (Option.some.inj h2) h1
theorem inX0 : ∀ w ∈ u_ws RX0 TX0 9, w ∈ gtbl := gt_all [155, 157, 159, 161, 163, 165, 167, 169, 171] (by decide +kernel) (by decide +kernel)
theorem inX1 : ∀ w ∈ u_ws RX1 TX1 19, w ∈ gtbl := gt_all [216, 218, 220, 222, 224, 226, 228, 230, 232, 234, 236, 238, 240, 242, 244, 246, 248, 250, 252] (by decide +kernel) (by decide +kernel)
theorem inX2 : ∀ w ∈ u_ws RX2 TX2 4, w ∈ gtbl := gt_all [131, 133, 135, 137] (by decide +kernel) (by decide +kernel)
theorem inX3 : ∀ w ∈ u_ws RX3 TX3 2, w ∈ gtbl := gt_all [269, 271] (by decide +kernel) (by decide +kernel)
theorem inX4 : ∀ w ∈ u_ws RX4 TX4 2, w ∈ gtbl := gt_all [185, 187] (by decide +kernel) (by decide +kernel)
theorem inX5 : ∀ w ∈ u_ws RX5 TX5 3, w ∈ gtbl := gt_all [104, 106, 108] (by decide +kernel) (by decide +kernel)
theorem inX6 : ∀ w ∈ u_ws RX6 TX6 13, w ∈ gtbl := gt_all [486, 488, 490, 492, 494, 496, 498, 500, 502, 504, 506, 508, 510] (by decide +kernel) (by decide +kernel)
theorem inX7 : ∀ w ∈ u_ws RX7 TX7 38, w ∈ gtbl := gt_all [944, 946, 948, 950, 952, 954, 956, 958, 960, 962, 964, 966, 968, 970, 972, 974, 976, 978, 980, 982, 984, 986, 988, 990, 992, 994, 996, 998, 1000, 1002, 1004, 1006, 1008, 1010, 1012, 1014, 1016, 1018] (by decide +kernel) (by decide +kernel)
/-- the links to private members of nest mates: whose, which entry, the method, the host -/
def nestL : List (String × Nat × MethodName × String) := [(RX6, 9, yX5_init, RX6), (RX6, 18, yX0_init, RX6), (RX6, 28, yX4_init, RX6), (RX3, 25, yX4_init, RX6), (RX5, 46, yX6_between, RX6), (RX0, 76, yX6_isMinute, RX6), (RX0, 46, yX6_between, RX6), (RX0, 96, yX6_isClosing, RX6), (RX0, 99, yX6_isToldLateness, RX6), (RX4, 32, yX6_between, RX6), (RX1, 118, yX6_bellBeat, RX6), (RX1, 151, yX6_between, RX6), (RX2, 35, yX6_between, RX6)]
end
section
/-! THE WORLD AS A FLAT MEMORY: cell j holds σ j; refs are fixed by the cell's kind. -/
abbrev Mem : Type := Nat → Nat → Int32
def mu (σ : Mem) (j k : Nat) (x : Int32) : Mem := fun i => if i = j then upd (σ j) k x else σ i
/-- the classes' slots, the array classes (0 int, 1 boolean, 2 Hour, 3 Stand), the addresses of the cells -/
abbrev WV : Type := va_G × (Nat → ClassId) × (Nat → Nat)
abbrev EV : Type := WV → Nat → (Nat → Int32) → va_E
abbrev tysW (w : WV) : List (ClassId × FieldType) := [(w.2.1 0, .int), (w.2.1 1, .boolean), (w.2.1 2, .object RX1), (w.2.1 3, .object RX4)]
def KW (w : WV) (s : State) : Prop := va_K w.1 vwCl (tysW w) s
def wl (E : EV) (L : List Nat) (w : WV) (σ : Mem) : va_W := L.map (fun j => (w.2.2 j, E w j (σ j)))
def Rp (E : EV) (L : List Nat) (w : WV) (σ : Mem) (H : Heap) : Prop := va_P w.1 vwCl (wl E L w σ) H
def AW (L : List Nat) (w : WV) : Nat → Prop := fun q => ∃ j, j ∈ L ∧ q = w.2.2 j
def Inj (L : List Nat) (w : WV) : Prop := L.Nodup ∧ ∀ i, i ∈ L → ∀ j, j ∈ L → w.2.2 i = w.2.2 j → i = j
def NW (s : State) : Prop := ∀ q ∈ nestL, va_Nw (.methodLinkNest q.1 q.2.1 q.2.2.1 q.2.2.2) s
def KS (L : List Nat) (w : WV) (s : State) : Prop := KW w s ∧ Inj L w ∧ NW s
theorem wl_get {E : EV} {L : List Nat} {w : WV} {σ : Mem} {k : Nat} {q : Nat × va_E} (h : (wl E L w σ)[k]? = some q) : ∃ j, L[k]? = some j ∧ j ∈ L ∧ q = (w.2.2 j, E w j (σ j)) := by
  unfold wl at h
  rw [List.getElem?_map] at h
  cases hk : L[k]? with
  | none => rw [hk] at h; cases h
  | some j => rw [hk] at h; exact ⟨j, rfl, List.mem_of_getElem? hk, (Option.some.inj h).symm⟩
theorem wl_D {E : EV} {L : List Nat} {w : WV} {σ : Mem} (hI : Inj L w) : va_D (AW L w) (wl E L w σ) := by
  refine ⟨fun i j x y hi hj hxy => ?_, fun k q hk => ?_⟩
  · obtain ⟨a, a1, a2, rfl⟩ := wl_get hi
    obtain ⟨b, b1, b2, rfl⟩ := wl_get hj
    have hab := hI.2 a a2 b b2 hxy
    subst hab
    have h1 := (List.getElem?_eq_some_iff.mp a1).1
    exact (List.getElem?_inj h1 hI.1).mp (a1.trans b1.symm)
  · obtain ⟨a, a1, a2, rfl⟩ := wl_get hk
    exact ⟨a, a2, rfl⟩
theorem wl_at {E : EV} {L : List Nat} {w : WV} {σ : Mem} {j : Nat} (hj : j ∈ L) : ∃ q0 : Nat, (wl E L w σ)[q0]? = some (w.2.2 j, E w j (σ j)) ∧ (L.Nodup → ∀ s' : Nat → Int32, (wl E L w σ).set q0 (w.2.2 j, E w j s') = wl E L w (fun i => if i = j then s' else σ i)) := by
  obtain ⟨q0, hq⟩ := List.getElem?_of_mem hj
  refine ⟨q0, by unfold wl; rw [List.getElem?_map, hq]; rfl, fun hn s' => ?_⟩
  have hl := (List.getElem?_eq_some_iff.mp hq).1
  apply List.ext_getElem?
  intro i
  by_cases hi : i = q0
  · subst hi
    rw [List.getElem?_set_self (by unfold wl; rw [List.length_map]; exact hl)]
    unfold wl
    rw [List.getElem?_map, hq]
    simp
  · rw [List.getElem?_set_ne (Ne.symm hi)]
    unfold wl
    rw [List.getElem?_map, List.getElem?_map]
    cases hk : L[i]? with
    | none => rfl
    | some a =>
      have hne : a ≠ j := fun hx => hi ((List.getElem?_inj (List.getElem?_eq_some_iff.mp hk).1 hn).mp (by rw [hk, hq, hx]))
      simp [hne]
theorem KS.same {L : List Nat} {w : WV} {u U : State} (hvm : u.vm = U.vm) (h : KS L w u) : KS L w U := ⟨va_K.moved (by rw [hvm]; exact Vm.Alike.refl _) h.1, h.2.1, fun q hq => va_Nw.same rfl hvm (h.2.2 q hq)⟩
theorem KS.warm {L : List Nat} {w : WV} {u U : State} (hW : u.WarmedH U.vm) (h : KS L w u) : KS L w U := ⟨va_K.moved hW.alike h.1, h.2.1, fun q hq => va_Nw.warmM hW (h.2.2 q hq)⟩
/-- the words of a method: its own code, and the good words -/
abbrev wy (y : MethodName) (cc : ByteArray) (n : Nat) (ret : Option FieldType) : List Cond := Cond.code y cc n ret :: gtbl
theorem gd_tbl : GoodIn gtbl gtbl := fun w h => ⟨h, good_of_word (gt_good w h)⟩
theorem gd_wy {y : MethodName} {cc : ByteArray} {n : Nat} {ret : Option FieldType} (h : Cond.code y cc n ret ∈ gtbl) : GoodIn gtbl (wy y cc n ret) := fun w hw => (List.mem_cons.mp hw).elim (fun e => by rw [e]; exact gd_tbl _ h) (gd_tbl w)
def Pw (E : EV) (L : List Nat) (w : WV) (As : List Value) (σ : Mem) : Array Value → State → Prop := fun v U => v = As.toArray ∧ Rp E L w σ U.heap ∧ KS L w U
def Ps (As : List Value) : Array Value → State → Prop := fun v _ => v = As.toArray
def Qw (E : EV) (L : List Nat) (w : WV) (σ : Mem) (r : Option Value) : Array Value → State → Outcome → State → Prop := fun _ st oc t => oc = .returned r ∧ Rp E L w σ t.heap ∧ va_F (AW L w) st t
def Qp (r : Value) : Array Value → State → Outcome → State → Prop := fun _ st oc t => oc = .returned (some r) ∧ t.heap = st.heap
theorem Pw_blind {E : EV} {L : List Nat} {w : WV} {As : List Value} {σ : Mem} : FrameBlind (Pw E L w As σ) := fun a U g mk h => ⟨h.1, h.2.1, KS.same (u := U) (U := U.calling g mk a) rfl h.2.2⟩
theorem Ps_blind {As : List Value} : FrameBlind (Ps As) := fun _ _ _ _ h => h
/-- a method's body, from its entry -/
theorem mk_met {l : Launch} {y : MethodName} {cc : ByteArray} {maxL : Nat} {ret : Option FieldType} {rm : Room} {E : EV} {L : List Nat} {w : WV} {As : List Value} {σ : Mem} {Qc : Array Value → State → Outcome → State → Prop} {free : Addr → Prop} (hy : plainName y.cls = true) (hlen : (lg_sl As).length ≤ maxL)
    (body : ∀ (p : Program) (e : Env) (s : State) (m : MethodId) (below : List Frame) (meth : Method) (c : Code), CallFix p m c cc maxL s As.toArray gtbl y.cls → meth.sig.returnType = ret → meth.locks = false → KS L w s → Rp E L w σ s.heap → ∀ ls : Array Slot, lv_has ls maxL (lv_args 0 As) → W p l e rm s m As.toArray below meth c s.heap [] 0 0 (MQ below Qc As.toArray s 0 0 free) (F0 m 0 ls [])) : Met l y (wy y cc maxL ret) rm (Pw E L w As σ) Qc 0 0 free := by
  refine Met.ofW (cc := cc) (maxL := maxL) (ret := ret) hy rfl ?_
  intro p e s m args below meth c s₁ B hml hv
  obtain ⟨rfl, hR, hK⟩ := hv
  have hts := atoms_spec (ws := wy y cc maxL ret) B.pre
  rw [lg_entry_eq]
  exact body p e s m below meth c ⟨B.exec, B.bytes, hml, findClass_of_methodNamed B.named, fun w hw => hts w (List.mem_cons_of_mem _ hw)⟩ B.returns B.notSynchronized hK hR _ (lv_entry As hlen)
theorem mk_mets {l : Launch} {y : MethodName} {cc : ByteArray} {maxL : Nat} {ret : Option FieldType} {rm : Room} {As : List Value} {Qc : Array Value → State → Outcome → State → Prop} {free : Addr → Prop} (hy : plainName y.cls = true) (hlen : (lg_sl As).length ≤ maxL)
    (body : ∀ (p : Program) (e : Env) (s : State) (m : MethodId) (below : List Frame) (meth : Method) (c : Code), CallFix p m c cc maxL s As.toArray gtbl y.cls → meth.sig.returnType = ret → meth.locks = false → ∀ ls : Array Slot, lv_has ls maxL (lv_args 0 As) → W p l e rm s m As.toArray below meth c s.heap [] 0 0 (MQ below Qc As.toArray s 0 0 free) (F0 m 0 ls [])) : Met l y (wy y cc maxL ret) rm (Ps As) Qc 0 0 free := by
  refine Met.ofW (cc := cc) (maxL := maxL) (ret := ret) hy rfl ?_
  intro p e s m args below meth c s₁ B hml hv
  obtain rfl := hv
  have hts := atoms_spec (ws := wy y cc maxL ret) B.pre
  rw [lg_entry_eq]
  exact body p e s m below meth c ⟨B.exec, B.bytes, hml, findClass_of_methodNamed B.named, fun w hw => hts w (List.mem_cons_of_mem _ hw)⟩ B.returns B.notSynchronized _ (lv_entry As hlen)
/-- booleans -/
theorem nb_n {v : Int32} (h : v = 0 ∨ v = 1) : narrow .boolean (.int v) = .int v := by rcases h with rfl | rfl <;> decide +kernel
theorem nb_f {v : Int32} (h : v = 0 ∨ v = 1) : fits .boolean (.int v) = true := by rcases h with rfl | rfl <;> decide +kernel
theorem nb_v {v : Int32} (h : v = 0 ∨ v = 1) : vp_nar .boolean v = v := by rcases h with rfl | rfl <;> decide +kernel
/-- options -/
theorem og_if {α : Type} {P : Prop} [Decidable P] {x : Option α} {y : α} (h : (if P then x else none) = some y) : P ∧ x = some y := by
  by_cases hp : P
  · rw [if_pos hp] at h; exact ⟨hp, h⟩
  · rw [if_neg hp] at h; cases h
theorem og_t {α : Type} {P : Prop} [Decidable P] {x y z : α} (hp : P) (h : (if P then x else y) = z) : x = z := by rw [if_pos hp] at h; exact h
theorem og_f {α : Type} {P : Prop} [Decidable P] {x y z : α} (hp : ¬ P) (h : (if P then x else y) = z) : y = z := by rw [if_neg hp] at h; exact h
theorem og_b {α β : Type} {x : Option α} {f : α → Option β} {y : β} (h : Option.bind x f = some y) : ∃ a, x = some a ∧ f a = some y := by
  cases x with
  | none => cases h
  | some a => exact ⟨a, rfl, h⟩
section Rows
variable {p : Program} {l : Launch} {e : Env} {R : Room} {s : State} {m : MethodId} {args : Array Value} {below : List Frame} {meth : Method} {c : Code} {H : Heap} {locs : List Loc} {cells slots : Nat} {Q : State → Prop}
variable {cc : ByteArray} {pc nL : Nat} {ls : Array Slot} {rest : List Value} {E : EV} {L : List Nat} {w : WV} {σ : Mem} {own : String} {j : Nat}
theorem r_get (S : CallFix p m c cc nL s args gtbl own) (hK : KS L w s) (hR : Rp E L w σ H) (hj : j ∈ L) {C : String} {T : u_T} {N ci index : Nat} {fs : List Value} (hin : ∀ w ∈ u_ws C T N, w ∈ gtbl) (he : E w j (σ j) = .inr (ci, fs)) (hc : vwCl[ci]? = some (C, T, N)) (k : Nat) (hk : k < N) (hl : Cond.fieldLink own index (T k).1 (T k).2.1 (T k).2.2.1 ∈ gtbl) {v : Value} (hv : fs[k]? = some v) (hdg : decode cc pc = .ok (.getfield index, 3))
    (kk : W p l e R s m args below meth c H locs cells slots Q (F0 m (pc + 3) ls (v :: rest))) : W p l e R s m args below meth c H locs cells slots Q (F0 m pc ls (.ref (w.2.2 j) :: rest)) := by
  obtain ⟨q0, h0, -⟩ := wl_at (E := E) (L := L) (w := w) (σ := σ) hj
  rw [he] at h0
  exact va_get S.1 S.2.1 S.2.2.2.2 hin S.2.2.2.1 hK.1 hR q0 h0 hc k hk (S.2.2.2.2 _ hl) (fun _ h => h) hv hdg kk
theorem r_put (S : CallFix p m c cc nL s args gtbl own) (hK : KS L w s) (hR : Rp E L w σ H) (hS : va_S (AW L w) s.heap H locs) (hj : j ∈ L) {C : String} {T : u_T} {N ci index : Nat} {fs : List Value} (hin : ∀ w ∈ u_ws C T N, w ∈ gtbl) {ty0 : Nat → FieldType} (hty : ∀ k, k < N → parseFieldDescriptor (T k).2.2.1 = some (ty0 k)) (hnm : ∀ a, a < N → ∀ b, b < N → a ≠ b → (T a).2.1 ≠ (T b).2.1) (he : E w j (σ j) = .inr (ci, fs)) (hc : vwCl[ci]? = some (C, T, N)) (k : Nat) (hk : k < N) (hl : Cond.fieldLink own index (T k).1 (T k).2.1 (T k).2.2.1 ∈ gtbl) (hfin : (T k).2.2.2 = false) {x : Int32} (hn : narrow (ty0 k) (.int x) = .int x) (hfit : fits (ty0 k) (.int x) = true) (hlen : k < fs.length) (he2 : E w j (upd (σ j) k x) = .inr (ci, fs.set k (.int x))) (hdg : decode cc pc = .ok (.putfield index, 3))
    (kk : ∀ (H1 : Heap) (locs1 : List Loc), Rp E L w (mu σ j k x) H1 → va_S (AW L w) s.heap H1 locs1 → W p l e R s m args below meth c H1 locs1 cells slots Q (F0 m (pc + 3) ls rest)) : W p l e R s m args below meth c H locs cells slots Q (F0 m pc ls (.int x :: .ref (w.2.2 j) :: rest)) := by
  obtain ⟨q0, h0, h1⟩ := wl_at (E := E) (L := L) (w := w) (σ := σ) hj
  rw [he] at h0
  refine va_put S.1 S.2.1 S.2.2.2.2 hin ty0 hty hnm S.2.2.2.1 hK.1 hR (wl_D hK.2.1) hS q0 h0 hc k hk (S.2.2.2.2 _ hl) (fun _ h => h) hfin (hty k hk) hn hfit hlen hdg (fun H1 locs1 hP _ hS1 => kk H1 locs1 ?_ hS1)
  rw [← he2, h1 hK.2.1.1] at hP
  exact hP
theorem r_ild (S : CallFix p m c cc nL s args gtbl own) (hK : KS L w s) (hR : Rp E L w σ H) (hj : j ∈ L) {n : Nat} (he : E w j (σ j) = .inl (w.2.1 0, n, .inl (σ j))) {i : Int32} (hin : vp_in i n) (hdg : decode cc pc = .ok (.iaload, 1))
    (kk : W p l e R s m args below meth c H locs cells slots Q (F0 m (pc + 1) ls (.int (σ j i.toNatClampNeg) :: rest))) : W p l e R s m args below meth c H locs cells slots Q (F0 m pc ls (.int i :: .ref (w.2.2 j) :: rest)) := by
  obtain ⟨q0, h0, -⟩ := wl_at (E := E) (L := L) (w := w) (σ := σ) hj
  rw [he] at h0
  exact va_iald S.1 S.2.1 hK.1 hR q0 0 h0 rfl hin hdg kk
theorem r_zld (S : CallFix p m c cc nL s args gtbl own) (hK : KS L w s) (hR : Rp E L w σ H) (hj : j ∈ L) {n : Nat} (he : E w j (σ j) = .inl (w.2.1 1, n, .inl (σ j))) {i : Int32} (hin : vp_in i n) (hdg : decode cc pc = .ok (.baload, 1))
    (kk : W p l e R s m args below meth c H locs cells slots Q (F0 m (pc + 1) ls (.int (σ j i.toNatClampNeg) :: rest))) : W p l e R s m args below meth c H locs cells slots Q (F0 m pc ls (.int i :: .ref (w.2.2 j) :: rest)) := by
  obtain ⟨q0, h0, -⟩ := wl_at (E := E) (L := L) (w := w) (σ := σ) hj
  rw [he] at h0
  exact va_zald S.1 S.2.1 hK.1 hR q0 1 h0 rfl hin hdg kk
theorem r_ist (S : CallFix p m c cc nL s args gtbl own) (hK : KS L w s) (hR : Rp E L w σ H) (hS : va_S (AW L w) s.heap H locs) (hj : j ∈ L) {n : Nat} (he : ∀ f : Nat → Int32, E w j f = .inl (w.2.1 0, n, .inl f)) {i x : Int32} (hin : vp_in i n) (hdg : decode cc pc = .ok (.iastore, 1))
    (kk : ∀ (H1 : Heap) (locs1 : List Loc), Rp E L w (mu σ j i.toNatClampNeg x) H1 → va_S (AW L w) s.heap H1 locs1 → W p l e R s m args below meth c H1 locs1 cells slots Q (F0 m (pc + 1) ls rest)) : W p l e R s m args below meth c H locs cells slots Q (F0 m pc ls (.int x :: .int i :: .ref (w.2.2 j) :: rest)) := by
  obtain ⟨q0, h0, h1⟩ := wl_at (E := E) (L := L) (w := w) (σ := σ) hj
  rw [he] at h0
  refine va_iast S.1 S.2.1 hK.1 hR (wl_D hK.2.1) hS q0 0 h0 rfl hin hdg (fun H1 locs1 hP _ hS1 => kk H1 locs1 ?_ hS1)
  rw [← he, h1 hK.2.1.1] at hP
  exact hP
theorem r_zst (S : CallFix p m c cc nL s args gtbl own) (hK : KS L w s) (hR : Rp E L w σ H) (hS : va_S (AW L w) s.heap H locs) (hj : j ∈ L) {n : Nat} (he : ∀ f : Nat → Int32, E w j f = .inl (w.2.1 1, n, .inl f)) {i x : Int32} (hb : x = 0 ∨ x = 1) (hin : vp_in i n) (hdg : decode cc pc = .ok (.bastore, 1))
    (kk : ∀ (H1 : Heap) (locs1 : List Loc), Rp E L w (mu σ j i.toNatClampNeg x) H1 → va_S (AW L w) s.heap H1 locs1 → W p l e R s m args below meth c H1 locs1 cells slots Q (F0 m (pc + 1) ls rest)) : W p l e R s m args below meth c H locs cells slots Q (F0 m pc ls (.int x :: .int i :: .ref (w.2.2 j) :: rest)) := by
  obtain ⟨q0, h0, h1⟩ := wl_at (E := E) (L := L) (w := w) (σ := σ) hj
  rw [he] at h0
  refine va_zast S.1 S.2.1 hK.1 hR (wl_D hK.2.1) hS q0 1 h0 rfl hin hdg (fun H1 locs1 hP _ hS1 => kk H1 locs1 ?_ hS1)
  rw [nb_v hb, ← he, h1 hK.2.1.1] at hP
  exact hP
theorem r_ald (S : CallFix p m c cc nL s args gtbl own) (hK : KS L w s) (hR : Rp E L w σ H) (hj : j ∈ L) {n t0 : Nat} {C : String} {f : Nat → Nat} {cA : ClassId} (he : E w j (σ j) = .inl (cA, n, .inr (.inr (.inr (.inr (fun i => some (w.2.2 (f i)))))))) (ht : (tysW w)[t0]? = some (cA, .object C)) {i : Int32} (hin : vp_in i n) (hdg : decode cc pc = .ok (.aaload, 1))
    (kk : W p l e R s m args below meth c H locs cells slots Q (F0 m (pc + 1) ls (.ref (w.2.2 (f i.toNatClampNeg)) :: rest))) : W p l e R s m args below meth c H locs cells slots Q (F0 m pc ls (.int i :: .ref (w.2.2 j) :: rest)) := by
  obtain ⟨q0, h0, -⟩ := wl_at (E := E) (L := L) (w := w) (σ := σ) hj
  rw [he] at h0
  exact va_aldq S.1 S.2.1 hK.1 hR q0 t0 h0 ht hin hdg kk
theorem r_ast (S : CallFix p m c cc nL s args gtbl own) (hK : KS L w s) (hR : Rp E L w σ H) (hS : va_S (AW L w) s.heap H locs) (hj : j ∈ L) {n t0 ci v : Nat} {r : vw_C} {vs : List Value} {cA : ClassId} (he : ∀ f : Nat → Int32, E w j f = .inl (cA, n, .inr (.inr (.inr (.inr (fun i => some (w.2.2 ((f i).toNatClampNeg)))))))) (ht : (tysW w)[t0]? = some (cA, .object r.1)) {x : Int32} (hx : x.toNatClampNeg = v) (hv : v ∈ L) (hev : E w v (σ v) = .inr (ci, vs)) (hc : vwCl[ci]? = some r) {i : Int32} (hin : vp_in i n) (hdg : decode cc pc = .ok (.aastore, 1))
    (kk : ∀ (H1 : Heap) (locs1 : List Loc), Rp E L w (mu σ j i.toNatClampNeg x) H1 → va_S (AW L w) s.heap H1 locs1 → W p l e R s m args below meth c H1 locs1 cells slots Q (F0 m (pc + 1) ls rest)) : W p l e R s m args below meth c H locs cells slots Q (F0 m pc ls (.ref (w.2.2 v) :: .int i :: .ref (w.2.2 j) :: rest)) := by
  subst hx
  obtain ⟨q0, h0, h1⟩ := wl_at (E := E) (L := L) (w := w) (σ := σ) hj
  obtain ⟨qk, g0, -⟩ := wl_at (E := E) (L := L) (w := w) (σ := σ) hv
  rw [he] at h0
  rw [hev] at g0
  refine va_astq S.1 S.2.1 hK.1 hR (wl_D hK.2.1) hS q0 t0 qk ci h0 ht g0 hc hin hdg (fun H1 locs1 hP _ hS1 => kk H1 locs1 ?_ hS1)
  have hf : va_up (fun i => some (w.2.2 ((σ j i).toNatClampNeg))) i.toNatClampNeg (some (w.2.2 x.toNatClampNeg)) = fun k => some (w.2.2 ((upd (σ j) i.toNatClampNeg x k).toNatClampNeg)) := by
    funext k
    by_cases hk : k = i.toNatClampNeg
    · simp [va_up, upd, hk]
    · simp [va_up, upd, hk]
  rw [hf, ← he, h1 hK.2.1.1] at hP
  exact hP
theorem r_len (S : CallFix p m c cc nL s args gtbl own) (hK : KS L w s) (hR : Rp E L w σ H) (hj : j ∈ L) {t0 : Nat} {cA : ClassId} {xx : vp_A} (he : E w j (σ j) = .inl (cA, xx)) {ty : FieldType} (ht : (tysW w)[t0]? = some (cA, ty)) {v : Int32} (hv : Int32.ofNat xx.1 = v) (hdg : decode cc pc = .ok (.arraylength, 1))
    (kk : W p l e R s m args below meth c H locs cells slots Q (F0 m (pc + 1) ls (.int v :: rest))) : W p l e R s m args below meth c H locs cells slots Q (F0 m pc ls (.ref (w.2.2 j) :: rest)) := by
  obtain ⟨q0, h0, -⟩ := wl_at (E := E) (L := L) (w := w) (σ := σ) hj
  rw [he] at h0
  exact va_alen S.1 S.2.1 hK.1 hR q0 t0 h0 ht hv hdg kk
/-- a call's end: the memory as the contract says, nothing else changed -/
theorem r_end {st0 : List Value} {σ' : Mem} {v : Option Value} {a : Array Value} (hS : va_S (AW L w) s.heap H locs) (hr : va_Run p l e R s m args below meth c H locs cells slots 0 0 (F0 m pc ls st0) rest (Qw E L w σ' v a) (AW L w))
    (kk : ∀ (H1 : Heap) (locs1 : List Loc), Rp E L w σ' H1 → va_S (AW L w) s.heap H1 locs1 → W p l e R s m args below meth c H1 locs1 cells slots Q (F0 m (pc + 3) ls (v.toList ++ rest))) : W p l e R s m args below meth c H locs cells slots Q (F0 m pc ls st0) := by
  intro T hT X
  obtain ⟨v1, st₀, t, T', L1, h0, X', hL, e1, e2, ⟨hv, hb, hz, hk⟩, st⟩ := hr T hT X
  cases hv
  rw [h0] at hz hk
  obtain ⟨t2, a1, b1⟩ := kk T'.heap (locs ++ L1) (by rw [e1]; exact hb)
    ⟨Nat.le_trans hS.1 (by rw [e1]; exact hz), fun q h1 h2 => by rw [e1, hk q (Nat.lt_of_lt_of_le h1 hS.1) h2]; exact hS.2.1 q h1 h2, fun q hq => by
      rcases List.mem_append.mp hq with h | h
      · exact hS.2.2 q h
      · exact hL q h⟩ T' rfl X'
  exact ⟨t2, st t2 a1, b1⟩
theorem r_endp {st0 : List Value} {v : Value} {a : Array Value} (hr : va_Run p l e R s m args below meth c H locs cells slots 0 0 (F0 m pc ls st0) rest (Qp v a) (fun _ => False))
    (kk : W p l e R s m args below meth c H locs cells slots Q (F0 m (pc + 3) ls (v :: rest))) : W p l e R s m args below meth c H locs cells slots Q (F0 m pc ls st0) := by
  intro T hT X
  obtain ⟨v1, st₀, t, T', L1, h0, X', hL, e1, e2, ⟨hv, hb⟩, st⟩ := hr T hT X
  cases hv
  have hL1 : L1 = [] := List.eq_nil_iff_forall_not_mem.mpr (fun q h => hL q h)
  subst hL1
  rw [List.append_nil] at X'
  obtain ⟨t2, a1, b1⟩ := kk T' (by rw [e1, hb, h0]) X'
  exact ⟨t2, st t2 a1, b1⟩
theorem gw_V {index : Nat} {C : String} {y : MethodName} {bytes : ByteArray} {maxL : Nat} {ret : Option FieldType} (h1 : Cond.methodLink own index y ∈ gtbl) (h2 : Cond.instanceMethod y ∈ gtbl) (h3 : Cond.selects C y y ∈ gtbl) (h4 : Cond.initialized C ∈ gtbl) (h5 : Cond.code y bytes maxL ret ∈ gtbl) : GoodIn gtbl (wsV own index C y (wy y bytes maxL ret)) := by
  intro w hw
  rcases List.mem_append.mp hw with h | h
  · simp only [List.mem_cons, List.not_mem_nil, or_false] at h
    rcases h with rfl | rfl | rfl | rfl
    · exact gd_tbl _ h1
    · exact gd_tbl _ h2
    · exact gd_tbl _ h3
    · exact gd_tbl _ h4
  · exact gd_wy h5 w h
theorem gw_S {index : Nat} {y : MethodName} {bytes : ByteArray} {maxL : Nat} {ret : Option FieldType} (h1 : Cond.methodLink own index y ∈ gtbl) (h2 : Cond.static y ∈ gtbl) (h4 : Cond.initialized own ∈ gtbl) (h5 : Cond.code y bytes maxL ret ∈ gtbl) : GoodIn gtbl (wsS own index y (wy y bytes maxL ret)) := by
  intro w hw
  rcases List.mem_append.mp hw with h | h
  · simp only [List.mem_cons, List.not_mem_nil, or_false] at h
    rcases h with rfl | rfl | rfl
    · exact gd_tbl _ h1
    · exact gd_tbl _ h2
    · exact gd_tbl _ h4
  · exact gd_wy h5 w h
theorem rcv {C : String} {T : u_T} {N ci : Nat} {fs : List Value} (hK : KS L w s) (hR : Rp E L w σ H) (hj : j ∈ L) (he : E w j (σ j) = .inr (ci, fs)) (hc : vwCl[ci]? = some (C, T, N)) : ∃ cell : Cell, H[w.2.2 j]? = some cell ∧ cell.vm.isStatics = false ∧ s.vm.findClass C = some cell.cls := by
  obtain ⟨q0, h0, -⟩ := wl_at (E := E) (L := L) (w := w) (σ := σ) hj
  rw [he] at h0
  exact va_recv hK.1 hR hc h0
section Calls
variable {y : MethodName} {bytes : ByteArray} {maxL index n : Nat} {ret : Option FieldType} {rm : Room} {As st0 : List Value} {C : String} {Qc : Array Value → State → Outcome → State → Prop} {free : Addr → Prop}
theorem run_V (S : CallFix p m c cc nL s args gtbl own) (hK : KS L w s) (hR : Rp E L w σ H) {T : u_T} {N ci : Nat} {fs : List Value} (hj : j ∈ L) (he : E w j (σ j) = .inr (ci, fs)) (hc : vwCl[ci]? = some (C, T, N)) (g : GoodIn gtbl (wsV own index C y (wy y bytes maxL ret))) (hd : y.cls = C ∧ y.cls ≠ "java/lang/invoke/MethodHandle" ∧ y.cls ≠ "java/lang/invoke/VarHandle" ∧ (parseMethodDescriptor y.desc).map (fun d => d.parameters.length) = some n)
    (hn : As.length = n) (hM : Met l y (wy y bytes maxL ret) rm (Pw E L w (.ref (w.2.2 j) :: As) σ) Qc 0 0 free) (hz : rm.cells = 0 ∧ rm.slots = 0) (hRm : rm.frames + 1 ≤ R.frames ∧ 8 + (maxL + 11) + rm.locals ≤ R.locals) (hf : cells + 0 ≤ R.cells ∧ slots + 0 ≤ R.slots) (hl : ls.size = nL) (hst : st0 = As.reverse ++ .ref (w.2.2 j) :: rest) (hW : (rest.map fun v => v.category).sum ≤ 8) (hdg : decode cc pc = .ok (.invokevirtual index, 3)) :
    va_Run p l e R s m args below meth c H locs cells slots 0 0 (F0 m pc ls st0) rest (Qc (Value.ref (w.2.2 j) :: As).toArray) free :=
  va_runV (g := F0 m pc ls st0) S hM (cwV n S.2.2.2.2 g rfl hz.1 hz.2 hd hRm) ⟨Pw_blind, rcv hK hR hj he hc, fun U hU hW => ⟨rfl, by rw [hU]; exact hR, hK.warm hW⟩⟩ rfl hn hl hst (lv_room hW) hdg hf
theorem run_S (S : CallFix p m c cc nL s args gtbl own) (g : GoodIn gtbl (wsS own index y (wy y bytes maxL ret))) (hd : y.cls = own ∧ y.cls ≠ "java/lang/invoke/MethodHandle" ∧ y.cls ≠ "java/lang/invoke/VarHandle" ∧ (parseMethodDescriptor y.desc).map (fun d => d.parameters.length) = some n)
    (hn : As.length = n) (hM : Met l y (wy y bytes maxL ret) rm (Ps As) Qc 0 0 free) (hz : rm.cells = 0 ∧ rm.slots = 0) (hRm : rm.frames + 1 ≤ R.frames ∧ 8 + (maxL + 11) + rm.locals ≤ R.locals) (hf : cells + 0 ≤ R.cells ∧ slots + 0 ≤ R.slots) (hl : ls.size = nL) (hst : st0 = As.reverse ++ rest) (hW : (rest.map fun v => v.category).sum ≤ 8) (hdg : decode cc pc = .ok (.invokestatic index, 3)) :
    va_Run p l e R s m args below meth c H locs cells slots 0 0 (F0 m pc ls st0) rest (Qc As.toArray) free :=
  va_runS (g := F0 m pc ls st0) S hM (cwS n S.2.2.2.2 g rfl hz.1 hz.2 hd hRm) ⟨Ps_blind, fun U hU hW => rfl⟩ rfl hn hl hst (lv_room hW) hdg hf
theorem run_SN (S : CallFix p m c cc nL s args gtbl own) (hK : KS L w s) {host : String} (h1 : (own, index, y, host) ∈ nestL) (h2 : Cond.static y ∈ gtbl) (h4 : Cond.initialized y.cls ∈ gtbl) (h5 : Cond.code y bytes maxL ret ∈ gtbl) (hd : y.cls ≠ "java/lang/invoke/MethodHandle" ∧ y.cls ≠ "java/lang/invoke/VarHandle" ∧ (parseMethodDescriptor y.desc).map (fun d => d.parameters.length) = some n)
    (hn : As.length = n) (hM : Met l y (wy y bytes maxL ret) rm (Ps As) Qc 0 0 free) (hz : rm.cells = 0 ∧ rm.slots = 0) (hRm : rm.frames + 1 ≤ R.frames ∧ 8 + (maxL + 11) + rm.locals ≤ R.locals) (hf : cells + 0 ≤ R.cells ∧ slots + 0 ≤ R.slots) (hl : ls.size = nL) (hst : st0 = As.reverse ++ rest) (hW : (rest.map fun v => v.category).sum ≤ 8) (hdg : decode cc pc = .ok (.invokestatic index, 3)) :
    va_Run p l e R s m args below meth c H locs cells slots 0 0 (F0 m pc ls st0) rest (Qc As.toArray) free := by
  have hnw : va_Nw (.methodLinkNest own index y host) s := hK.2.2 (own, index, y, host) h1
  have hcn := va_cnB (R := R) (ws := wy y bytes maxL ret) (ws' := gtbl) (rm := rm) (mc := 0) (ms := 0) n S.2.2.2.2 (gd_wy h5) rfl hz.1 hz.2 hnw (S.2.2.2.2 _ h4) hd hRm
  have hst2 : (Cond.static y).before args s = true := S.2.2.2.2 _ h2
  have hpre : PreS s H (Ps As) As := ⟨Ps_blind, fun U hU hW => rfl⟩
  exact va_runSN (g := F0 m pc ls st0) S hM ⟨hcn, hst2, trivial⟩ hpre rfl hn hl hst (lv_room hW) hdg hf
end Calls
end Rows
end
section
/-! THE WORLDS. The component: 139 cells, laid out object by object; the reference: its object (0) and the array of slot k (k + 1). -/
def kdC : List Nat := [6, 5, 8, 0, 2, 8, 8, 2, 8, 8, 2, 8, 8, 2, 8, 8, 8, 0, 2, 8, 8, 2, 8, 8, 2, 8, 8, 2, 8, 8, 8, 4, 2, 8, 8, 8, 4, 2, 8, 8, 8, 10, 1, 8, 8, 8, 8, 8, 8, 8, 1, 8, 8, 8, 8, 8, 8, 8, 1, 8, 8, 8, 8, 8, 8, 8, 1, 8, 8, 8, 8, 8, 8, 8, 1, 8, 8, 8, 8, 8, 8, 8, 3, 11, 4, 2, 8, 8, 8, 4, 2, 8, 8, 8, 4, 2, 8, 8, 8, 4, 2, 8, 8, 8, 4, 2, 8, 8, 8, 4, 2, 8, 8, 8, 4, 2, 8, 8, 8, 4, 2, 8, 8, 8, 3, 11, 4, 2, 8, 8, 8, 4, 2, 8, 8, 8, 2, 8, 8]
def lnC (j : Nat) : Nat := ([0, 0, 200, 0, 0, 8, 8, 0, 8, 8, 0, 8, 8, 0, 8, 8, 4, 0, 0, 8, 8, 0, 8, 8, 0, 8, 8, 0, 8, 8, 4, 0, 0, 8, 8, 6, 0, 0, 8, 8, 6, 4, 0, 360, 6, 6, 6, 6, 8, 8, 0, 360, 6, 6, 6, 6, 8, 8, 0, 360, 6, 6, 6, 6, 8, 8, 0, 360, 6, 6, 6, 6, 8, 8, 0, 360, 6, 6, 6, 6, 8, 8, 0, 8, 0, 0, 8, 8, 6, 0, 0, 8, 8, 6, 0, 0, 8, 8, 6, 0, 0, 8, 8, 6, 0, 0, 8, 8, 6, 0, 0, 8, 8, 6, 0, 0, 8, 8, 6, 0, 0, 8, 8, 6, 0, 2, 0, 0, 8, 8, 6, 0, 0, 8, 8, 6, 0, 8, 8] : List Nat).getD j 0
def hst (h : Nat) : Nat := if h = 74 then 36 else 31
abbrev bookL : List Nat := [3, 17]
abbrev hourL : List Nat := [42, 50, 58, 66, 74]
abbrev pairsL : List Nat := [4, 7, 10, 13, 18, 21, 24, 27, 32, 37, 85, 90, 95, 100, 105, 110, 115, 120, 127, 132, 136]
abbrev pileL : List Nat := [82, 124]
abbrev standL : List Nat := [31, 36, 84, 89, 94, 99, 104, 109, 114, 119, 126, 131]
abbrev textL : List Nat := [1]
abbrev gatesL : List Nat := [0]
def EC : EV := fun w j s => match kdC.getD j 99 with
  | 0 => .inr (0, [.ref (w.2.2 (j + 1)), .ref (w.2.2 (j + 4)), .ref (w.2.2 (j + 7)), .ref (w.2.2 (j + 10)), .ref (w.2.2 (j + 13)), .int (s 5), .int (s 6), .int (s 7), .int (s 8)])
  | 1 => .inr (1, [.ref (w.2.2 (3)), .ref (w.2.2 (hst j)), .ref (w.2.2 (j + 1)), .ref (w.2.2 (j + 2)), .ref (w.2.2 (j + 3)), .ref (w.2.2 (j + 4)), .ref (w.2.2 (j + 5)), .ref (w.2.2 (j + 6)), .ref (w.2.2 (j + 7)), .int (s 9), .int (s 10), .int (s 11), .int (s 12), .int (s 13), .int (s 14), .int (s 15), .int (s 16), .int (s 17), .int (s 18)])
  | 2 => .inr (2, [.ref (w.2.2 (j + 1)), .ref (w.2.2 (j + 2)), .int (s 2), .int (s 3)])
  | 3 => .inr (3, [.ref (w.2.2 (j + 1)), .int (s 1)])
  | 4 => .inr (4, [.ref (w.2.2 (j + 1)), .ref (w.2.2 (j + 4))])
  | 5 => .inr (5, [.ref (w.2.2 (j + 1)), .int (s 1), .int (s 2)])
  | 6 => .inr (6, [.ref (w.2.2 (1)), .ref (w.2.2 (3)), .ref (w.2.2 (17)), .ref (w.2.2 (31)), .ref (w.2.2 (36)), .ref (w.2.2 (41)), .ref (w.2.2 (74)), .ref (w.2.2 (82)), .ref (w.2.2 (124)), .ref (w.2.2 (136)), .int (s 10), .int (s 11), .int (s 12)])
  | 10 => .inl (w.2.1 2, 4, .inr (.inr (.inr (.inr (fun i => some (w.2.2 (42 + 8 * i)))))))
  | 11 => .inl (w.2.1 3, lnC j, .inr (.inr (.inr (.inr (fun i => some (w.2.2 ((s i).toNatClampNeg)))))))
  | _ => .inl (w.2.1 0, lnC j, .inl s)
abbrev LC : List Nat := List.range 139
def lnM (j : Nat) : Nat := ([0, 0, 200, 2, 12, 12, 2, 16, 16, 8, 8, 2, 12, 12, 2, 10, 10, 19, 152, 0, 38, 0, 0, 8, 8, 0, 2, 360, 6, 6, 8, 8, 8, 0, 0, 0, 0, 0, 6] : List Nat).getD j 0
abbrev LM : List Nat := [0, 2, 3, 4, 5, 6, 7, 8, 9, 10, 11, 12, 13, 14, 15, 16, 17, 18, 20, 23, 24, 26, 27, 28, 29, 30, 31, 32, 38]
def EM : EV := fun w j s => match j with
  | 0 => .inr (7, [.int (s 0), .ref (w.2.2 (2)), .ref (w.2.2 (3)), .ref (w.2.2 (4)), .ref (w.2.2 (5)), .ref (w.2.2 (6)), .ref (w.2.2 (7)), .ref (w.2.2 (8)), .ref (w.2.2 (9)), .ref (w.2.2 (10)), .ref (w.2.2 (11)), .ref (w.2.2 (12)), .ref (w.2.2 (13)), .ref (w.2.2 (14)), .ref (w.2.2 (15)), .ref (w.2.2 (16)), .ref (w.2.2 (17)), .ref (w.2.2 (18)), .int (s 18), .ref (w.2.2 (20)), .int (s 20), .int (s 21), .ref (w.2.2 (23)), .ref (w.2.2 (24)), .int (s 24), .ref (w.2.2 (26)), .ref (w.2.2 (27)), .ref (w.2.2 (28)), .ref (w.2.2 (29)), .ref (w.2.2 (30)), .ref (w.2.2 (31)), .ref (w.2.2 (32)), .int (s 32), .int (s 33), .int (s 34), .int (s 35), .int (s 36), .ref (w.2.2 (38))])
  | 32 => .inl (w.2.1 1, lnM 32, .inl s)
  | j => .inl (w.2.1 0, lnM j, .inl s)
set_option maxRecDepth 20000 in
theorem ok_0 : ∀ h, h ∈ bookL → h ∈ LC := by
  intro h hh
  simp only [bookL, List.mem_cons, List.not_mem_nil, or_false] at hh
  rcases hh with rfl | rfl <;> first | decide | (intros; rfl)
set_option maxRecDepth 20000 in
theorem eC_0 : ∀ h, h ∈ bookL → ∀ (w : WV) (s : Nat → Int32), EC w h s = .inr (0, [.ref (w.2.2 (h + 1)), .ref (w.2.2 (h + 4)), .ref (w.2.2 (h + 7)), .ref (w.2.2 (h + 10)), .ref (w.2.2 (h + 13)), .int (s 5), .int (s 6), .int (s 7), .int (s 8)]) := by
  intro h hh
  simp only [bookL, List.mem_cons, List.not_mem_nil, or_false] at hh
  rcases hh with rfl | rfl <;> first | decide | (intros; rfl)
set_option maxRecDepth 20000 in
theorem in_0_0 : ∀ h, h ∈ bookL → h + 1 ∈ pairsL := by
  intro h hh
  simp only [bookL, List.mem_cons, List.not_mem_nil, or_false] at hh
  rcases hh with rfl | rfl <;> first | decide | (intros; rfl)
set_option maxRecDepth 20000 in
theorem in_0_1 : ∀ h, h ∈ bookL → h + 4 ∈ pairsL := by
  intro h hh
  simp only [bookL, List.mem_cons, List.not_mem_nil, or_false] at hh
  rcases hh with rfl | rfl <;> first | decide | (intros; rfl)
set_option maxRecDepth 20000 in
theorem in_0_2 : ∀ h, h ∈ bookL → h + 7 ∈ pairsL := by
  intro h hh
  simp only [bookL, List.mem_cons, List.not_mem_nil, or_false] at hh
  rcases hh with rfl | rfl <;> first | decide | (intros; rfl)
set_option maxRecDepth 20000 in
theorem in_0_3 : ∀ h, h ∈ bookL → h + 10 ∈ pairsL := by
  intro h hh
  simp only [bookL, List.mem_cons, List.not_mem_nil, or_false] at hh
  rcases hh with rfl | rfl <;> first | decide | (intros; rfl)
set_option maxRecDepth 20000 in
theorem oa_0_4 : ∀ h, h ∈ bookL → h + 13 ∈ LC := by
  intro h hh
  simp only [bookL, List.mem_cons, List.not_mem_nil, or_false] at hh
  rcases hh with rfl | rfl <;> first | decide | (intros; rfl)
set_option maxRecDepth 20000 in
theorem ea_0_4 : ∀ h, h ∈ bookL → ∀ (w : WV) (s : Nat → Int32), EC w (h + 13) s = .inl (w.2.1 0, 4, .inl s) := by
  intro h hh
  simp only [bookL, List.mem_cons, List.not_mem_nil, or_false] at hh
  rcases hh with rfl | rfl <;> first | decide | (intros; rfl)
set_option maxRecDepth 20000 in
theorem ok_1 : ∀ h, h ∈ hourL → h ∈ LC := by
  intro h hh
  simp only [hourL, List.mem_cons, List.not_mem_nil, or_false] at hh
  rcases hh with rfl | rfl | rfl | rfl | rfl <;> first | decide | (intros; rfl)
set_option maxRecDepth 20000 in
theorem eC_1 : ∀ h, h ∈ hourL → ∀ (w : WV) (s : Nat → Int32), EC w h s = .inr (1, [.ref (w.2.2 (3)), .ref (w.2.2 (hst h)), .ref (w.2.2 (h + 1)), .ref (w.2.2 (h + 2)), .ref (w.2.2 (h + 3)), .ref (w.2.2 (h + 4)), .ref (w.2.2 (h + 5)), .ref (w.2.2 (h + 6)), .ref (w.2.2 (h + 7)), .int (s 9), .int (s 10), .int (s 11), .int (s 12), .int (s 13), .int (s 14), .int (s 15), .int (s 16), .int (s 17), .int (s 18)]) := by
  intro h hh
  simp only [hourL, List.mem_cons, List.not_mem_nil, or_false] at hh
  rcases hh with rfl | rfl | rfl | rfl | rfl <;> first | decide | (intros; rfl)
set_option maxRecDepth 20000 in
theorem in_1_0 : ∀ h, h ∈ hourL → 3 ∈ bookL := by
  intro h hh
  simp only [hourL, List.mem_cons, List.not_mem_nil, or_false] at hh
  rcases hh with rfl | rfl | rfl | rfl | rfl <;> first | decide | (intros; rfl)
set_option maxRecDepth 20000 in
theorem in_1_1 : ∀ h, h ∈ hourL → hst h ∈ standL := by
  intro h hh
  simp only [hourL, List.mem_cons, List.not_mem_nil, or_false] at hh
  rcases hh with rfl | rfl | rfl | rfl | rfl <;> first | decide | (intros; rfl)
set_option maxRecDepth 20000 in
theorem oa_1_2 : ∀ h, h ∈ hourL → h + 1 ∈ LC := by
  intro h hh
  simp only [hourL, List.mem_cons, List.not_mem_nil, or_false] at hh
  rcases hh with rfl | rfl | rfl | rfl | rfl <;> first | decide | (intros; rfl)
set_option maxRecDepth 20000 in
theorem ea_1_2 : ∀ h, h ∈ hourL → ∀ (w : WV) (s : Nat → Int32), EC w (h + 1) s = .inl (w.2.1 0, 360, .inl s) := by
  intro h hh
  simp only [hourL, List.mem_cons, List.not_mem_nil, or_false] at hh
  rcases hh with rfl | rfl | rfl | rfl | rfl <;> first | decide | (intros; rfl)
set_option maxRecDepth 20000 in
theorem oa_1_3 : ∀ h, h ∈ hourL → h + 2 ∈ LC := by
  intro h hh
  simp only [hourL, List.mem_cons, List.not_mem_nil, or_false] at hh
  rcases hh with rfl | rfl | rfl | rfl | rfl <;> first | decide | (intros; rfl)
set_option maxRecDepth 20000 in
theorem ea_1_3 : ∀ h, h ∈ hourL → ∀ (w : WV) (s : Nat → Int32), EC w (h + 2) s = .inl (w.2.1 0, 6, .inl s) := by
  intro h hh
  simp only [hourL, List.mem_cons, List.not_mem_nil, or_false] at hh
  rcases hh with rfl | rfl | rfl | rfl | rfl <;> first | decide | (intros; rfl)
set_option maxRecDepth 20000 in
theorem oa_1_4 : ∀ h, h ∈ hourL → h + 3 ∈ LC := by
  intro h hh
  simp only [hourL, List.mem_cons, List.not_mem_nil, or_false] at hh
  rcases hh with rfl | rfl | rfl | rfl | rfl <;> first | decide | (intros; rfl)
set_option maxRecDepth 20000 in
theorem ea_1_4 : ∀ h, h ∈ hourL → ∀ (w : WV) (s : Nat → Int32), EC w (h + 3) s = .inl (w.2.1 0, 6, .inl s) := by
  intro h hh
  simp only [hourL, List.mem_cons, List.not_mem_nil, or_false] at hh
  rcases hh with rfl | rfl | rfl | rfl | rfl <;> first | decide | (intros; rfl)
set_option maxRecDepth 20000 in
theorem oa_1_5 : ∀ h, h ∈ hourL → h + 4 ∈ LC := by
  intro h hh
  simp only [hourL, List.mem_cons, List.not_mem_nil, or_false] at hh
  rcases hh with rfl | rfl | rfl | rfl | rfl <;> first | decide | (intros; rfl)
set_option maxRecDepth 20000 in
theorem ea_1_5 : ∀ h, h ∈ hourL → ∀ (w : WV) (s : Nat → Int32), EC w (h + 4) s = .inl (w.2.1 0, 6, .inl s) := by
  intro h hh
  simp only [hourL, List.mem_cons, List.not_mem_nil, or_false] at hh
  rcases hh with rfl | rfl | rfl | rfl | rfl <;> first | decide | (intros; rfl)
set_option maxRecDepth 20000 in
theorem oa_1_6 : ∀ h, h ∈ hourL → h + 5 ∈ LC := by
  intro h hh
  simp only [hourL, List.mem_cons, List.not_mem_nil, or_false] at hh
  rcases hh with rfl | rfl | rfl | rfl | rfl <;> first | decide | (intros; rfl)
set_option maxRecDepth 20000 in
theorem ea_1_6 : ∀ h, h ∈ hourL → ∀ (w : WV) (s : Nat → Int32), EC w (h + 5) s = .inl (w.2.1 0, 6, .inl s) := by
  intro h hh
  simp only [hourL, List.mem_cons, List.not_mem_nil, or_false] at hh
  rcases hh with rfl | rfl | rfl | rfl | rfl <;> first | decide | (intros; rfl)
set_option maxRecDepth 20000 in
theorem oa_1_7 : ∀ h, h ∈ hourL → h + 6 ∈ LC := by
  intro h hh
  simp only [hourL, List.mem_cons, List.not_mem_nil, or_false] at hh
  rcases hh with rfl | rfl | rfl | rfl | rfl <;> first | decide | (intros; rfl)
set_option maxRecDepth 20000 in
theorem ea_1_7 : ∀ h, h ∈ hourL → ∀ (w : WV) (s : Nat → Int32), EC w (h + 6) s = .inl (w.2.1 0, 8, .inl s) := by
  intro h hh
  simp only [hourL, List.mem_cons, List.not_mem_nil, or_false] at hh
  rcases hh with rfl | rfl | rfl | rfl | rfl <;> first | decide | (intros; rfl)
set_option maxRecDepth 20000 in
theorem oa_1_8 : ∀ h, h ∈ hourL → h + 7 ∈ LC := by
  intro h hh
  simp only [hourL, List.mem_cons, List.not_mem_nil, or_false] at hh
  rcases hh with rfl | rfl | rfl | rfl | rfl <;> first | decide | (intros; rfl)
set_option maxRecDepth 20000 in
theorem ea_1_8 : ∀ h, h ∈ hourL → ∀ (w : WV) (s : Nat → Int32), EC w (h + 7) s = .inl (w.2.1 0, 8, .inl s) := by
  intro h hh
  simp only [hourL, List.mem_cons, List.not_mem_nil, or_false] at hh
  rcases hh with rfl | rfl | rfl | rfl | rfl <;> first | decide | (intros; rfl)
set_option maxRecDepth 20000 in
theorem ok_2 : ∀ h, h ∈ pairsL → h ∈ LC := by
  intro h hh
  simp only [pairsL, List.mem_cons, List.not_mem_nil, or_false] at hh
  rcases hh with rfl | rfl | rfl | rfl | rfl | rfl | rfl | rfl | rfl | rfl | rfl | rfl | rfl | rfl | rfl | rfl | rfl | rfl | rfl | rfl | rfl <;> first | decide | (intros; rfl)
set_option maxRecDepth 20000 in
theorem eC_2 : ∀ h, h ∈ pairsL → ∀ (w : WV) (s : Nat → Int32), EC w h s = .inr (2, [.ref (w.2.2 (h + 1)), .ref (w.2.2 (h + 2)), .int (s 2), .int (s 3)]) := by
  intro h hh
  simp only [pairsL, List.mem_cons, List.not_mem_nil, or_false] at hh
  rcases hh with rfl | rfl | rfl | rfl | rfl | rfl | rfl | rfl | rfl | rfl | rfl | rfl | rfl | rfl | rfl | rfl | rfl | rfl | rfl | rfl | rfl <;> first | decide | (intros; rfl)
set_option maxRecDepth 20000 in
theorem oa_2_0 : ∀ h, h ∈ pairsL → h + 1 ∈ LC := by
  intro h hh
  simp only [pairsL, List.mem_cons, List.not_mem_nil, or_false] at hh
  rcases hh with rfl | rfl | rfl | rfl | rfl | rfl | rfl | rfl | rfl | rfl | rfl | rfl | rfl | rfl | rfl | rfl | rfl | rfl | rfl | rfl | rfl <;> first | decide | (intros; rfl)
set_option maxRecDepth 20000 in
theorem ea_2_0 : ∀ h, h ∈ pairsL → ∀ (w : WV) (s : Nat → Int32), EC w (h + 1) s = .inl (w.2.1 0, 8, .inl s) := by
  intro h hh
  simp only [pairsL, List.mem_cons, List.not_mem_nil, or_false] at hh
  rcases hh with rfl | rfl | rfl | rfl | rfl | rfl | rfl | rfl | rfl | rfl | rfl | rfl | rfl | rfl | rfl | rfl | rfl | rfl | rfl | rfl | rfl <;> first | decide | (intros; rfl)
set_option maxRecDepth 20000 in
theorem oa_2_1 : ∀ h, h ∈ pairsL → h + 2 ∈ LC := by
  intro h hh
  simp only [pairsL, List.mem_cons, List.not_mem_nil, or_false] at hh
  rcases hh with rfl | rfl | rfl | rfl | rfl | rfl | rfl | rfl | rfl | rfl | rfl | rfl | rfl | rfl | rfl | rfl | rfl | rfl | rfl | rfl | rfl <;> first | decide | (intros; rfl)
set_option maxRecDepth 20000 in
theorem ea_2_1 : ∀ h, h ∈ pairsL → ∀ (w : WV) (s : Nat → Int32), EC w (h + 2) s = .inl (w.2.1 0, 8, .inl s) := by
  intro h hh
  simp only [pairsL, List.mem_cons, List.not_mem_nil, or_false] at hh
  rcases hh with rfl | rfl | rfl | rfl | rfl | rfl | rfl | rfl | rfl | rfl | rfl | rfl | rfl | rfl | rfl | rfl | rfl | rfl | rfl | rfl | rfl <;> first | decide | (intros; rfl)
set_option maxRecDepth 20000 in
theorem ok_3 : ∀ h, h ∈ pileL → h ∈ LC := by
  intro h hh
  simp only [pileL, List.mem_cons, List.not_mem_nil, or_false] at hh
  rcases hh with rfl | rfl <;> first | decide | (intros; rfl)
set_option maxRecDepth 20000 in
theorem eC_3 : ∀ h, h ∈ pileL → ∀ (w : WV) (s : Nat → Int32), EC w h s = .inr (3, [.ref (w.2.2 (h + 1)), .int (s 1)]) := by
  intro h hh
  simp only [pileL, List.mem_cons, List.not_mem_nil, or_false] at hh
  rcases hh with rfl | rfl <;> first | decide | (intros; rfl)
set_option maxRecDepth 20000 in
theorem oa_3_0 : ∀ h, h ∈ pileL → h + 1 ∈ LC := by
  intro h hh
  simp only [pileL, List.mem_cons, List.not_mem_nil, or_false] at hh
  rcases hh with rfl | rfl <;> first | decide | (intros; rfl)
set_option maxRecDepth 20000 in
theorem ea_3_0 : ∀ h, h ∈ pileL → ∀ (w : WV) (s : Nat → Int32), EC w (h + 1) s = .inl (w.2.1 3, lnC (h + 1), .inr (.inr (.inr (.inr (fun i => some (w.2.2 ((s i).toNatClampNeg))))))) := by
  intro h hh
  simp only [pileL, List.mem_cons, List.not_mem_nil, or_false] at hh
  rcases hh with rfl | rfl <;> first | decide | (intros; rfl)
set_option maxRecDepth 20000 in
theorem ok_4 : ∀ h, h ∈ standL → h ∈ LC := by
  intro h hh
  simp only [standL, List.mem_cons, List.not_mem_nil, or_false] at hh
  rcases hh with rfl | rfl | rfl | rfl | rfl | rfl | rfl | rfl | rfl | rfl | rfl | rfl <;> first | decide | (intros; rfl)
set_option maxRecDepth 20000 in
theorem eC_4 : ∀ h, h ∈ standL → ∀ (w : WV) (s : Nat → Int32), EC w h s = .inr (4, [.ref (w.2.2 (h + 1)), .ref (w.2.2 (h + 4))]) := by
  intro h hh
  simp only [standL, List.mem_cons, List.not_mem_nil, or_false] at hh
  rcases hh with rfl | rfl | rfl | rfl | rfl | rfl | rfl | rfl | rfl | rfl | rfl | rfl <;> first | decide | (intros; rfl)
set_option maxRecDepth 20000 in
theorem in_4_0 : ∀ h, h ∈ standL → h + 1 ∈ pairsL := by
  intro h hh
  simp only [standL, List.mem_cons, List.not_mem_nil, or_false] at hh
  rcases hh with rfl | rfl | rfl | rfl | rfl | rfl | rfl | rfl | rfl | rfl | rfl | rfl <;> first | decide | (intros; rfl)
set_option maxRecDepth 20000 in
theorem oa_4_1 : ∀ h, h ∈ standL → h + 4 ∈ LC := by
  intro h hh
  simp only [standL, List.mem_cons, List.not_mem_nil, or_false] at hh
  rcases hh with rfl | rfl | rfl | rfl | rfl | rfl | rfl | rfl | rfl | rfl | rfl | rfl <;> first | decide | (intros; rfl)
set_option maxRecDepth 20000 in
theorem ea_4_1 : ∀ h, h ∈ standL → ∀ (w : WV) (s : Nat → Int32), EC w (h + 4) s = .inl (w.2.1 0, 6, .inl s) := by
  intro h hh
  simp only [standL, List.mem_cons, List.not_mem_nil, or_false] at hh
  rcases hh with rfl | rfl | rfl | rfl | rfl | rfl | rfl | rfl | rfl | rfl | rfl | rfl <;> first | decide | (intros; rfl)
set_option maxRecDepth 20000 in
theorem ok_5 : ∀ h, h ∈ textL → h ∈ LC := by
  intro h hh
  simp only [textL, List.mem_cons, List.not_mem_nil, or_false] at hh
  subst hh; first | decide | (intros; rfl)
set_option maxRecDepth 20000 in
theorem eC_5 : ∀ h, h ∈ textL → ∀ (w : WV) (s : Nat → Int32), EC w h s = .inr (5, [.ref (w.2.2 (h + 1)), .int (s 1), .int (s 2)]) := by
  intro h hh
  simp only [textL, List.mem_cons, List.not_mem_nil, or_false] at hh
  subst hh; first | decide | (intros; rfl)
set_option maxRecDepth 20000 in
theorem oa_5_0 : ∀ h, h ∈ textL → h + 1 ∈ LC := by
  intro h hh
  simp only [textL, List.mem_cons, List.not_mem_nil, or_false] at hh
  subst hh; first | decide | (intros; rfl)
set_option maxRecDepth 20000 in
theorem ea_5_0 : ∀ h, h ∈ textL → ∀ (w : WV) (s : Nat → Int32), EC w (h + 1) s = .inl (w.2.1 0, 200, .inl s) := by
  intro h hh
  simp only [textL, List.mem_cons, List.not_mem_nil, or_false] at hh
  subst hh; first | decide | (intros; rfl)
theorem eC_6 : ∀ (w : WV) (s : Nat → Int32), EC w 0 s = .inr (6, [.ref (w.2.2 (1)), .ref (w.2.2 (3)), .ref (w.2.2 (17)), .ref (w.2.2 (31)), .ref (w.2.2 (36)), .ref (w.2.2 (41)), .ref (w.2.2 (74)), .ref (w.2.2 (82)), .ref (w.2.2 (124)), .ref (w.2.2 (136)), .int (s 10), .int (s 11), .int (s 12)]) := fun _ _ => rfl
theorem ea_6_5 : ∀ (w : WV) (s : Nat → Int32), EC w 41 s = .inl (w.2.1 2, 4, .inr (.inr (.inr (.inr (fun i => some (w.2.2 (42 + 8 * i))))))) := fun _ _ => rfl
theorem in_hours {i : Int32} (h : ¬ (i < 0 ∨ 4 ≤ i.toNatClampNeg)) : 42 + 8 * i.toNatClampNeg ∈ hourL := by
  have h4 : i.toNatClampNeg < 4 := Nat.not_le.mp fun q => h (Or.inr q)
  generalize i.toNatClampNeg = k at h4
  match k, h4 with
  | 0, _ => decide
  | 1, _ => decide
  | 2, _ => decide
  | 3, _ => decide
theorem eM_7 : ∀ (w : WV) (s : Nat → Int32), EM w 0 s = .inr (7, [.int (s 0), .ref (w.2.2 (2)), .ref (w.2.2 (3)), .ref (w.2.2 (4)), .ref (w.2.2 (5)), .ref (w.2.2 (6)), .ref (w.2.2 (7)), .ref (w.2.2 (8)), .ref (w.2.2 (9)), .ref (w.2.2 (10)), .ref (w.2.2 (11)), .ref (w.2.2 (12)), .ref (w.2.2 (13)), .ref (w.2.2 (14)), .ref (w.2.2 (15)), .ref (w.2.2 (16)), .ref (w.2.2 (17)), .ref (w.2.2 (18)), .int (s 18), .ref (w.2.2 (20)), .int (s 20), .int (s 21), .ref (w.2.2 (23)), .ref (w.2.2 (24)), .int (s 24), .ref (w.2.2 (26)), .ref (w.2.2 (27)), .ref (w.2.2 (28)), .ref (w.2.2 (29)), .ref (w.2.2 (30)), .ref (w.2.2 (31)), .ref (w.2.2 (32)), .int (s 32), .int (s 33), .int (s 34), .int (s 35), .int (s 36), .ref (w.2.2 (38))]) := fun _ _ => rfl
theorem eM_101 : ∀ (w : WV) (s : Nat → Int32), EM w 2 s = .inl (w.2.1 0, 200, .inl s) := fun _ _ => rfl
theorem eM_102 : ∀ (w : WV) (s : Nat → Int32), EM w 3 s = .inl (w.2.1 0, 2, .inl s) := fun _ _ => rfl
theorem eM_103 : ∀ (w : WV) (s : Nat → Int32), EM w 4 s = .inl (w.2.1 0, 12, .inl s) := fun _ _ => rfl
theorem eM_104 : ∀ (w : WV) (s : Nat → Int32), EM w 5 s = .inl (w.2.1 0, 12, .inl s) := fun _ _ => rfl
theorem eM_105 : ∀ (w : WV) (s : Nat → Int32), EM w 6 s = .inl (w.2.1 0, 2, .inl s) := fun _ _ => rfl
theorem eM_106 : ∀ (w : WV) (s : Nat → Int32), EM w 7 s = .inl (w.2.1 0, 16, .inl s) := fun _ _ => rfl
theorem eM_107 : ∀ (w : WV) (s : Nat → Int32), EM w 8 s = .inl (w.2.1 0, 16, .inl s) := fun _ _ => rfl
theorem eM_108 : ∀ (w : WV) (s : Nat → Int32), EM w 9 s = .inl (w.2.1 0, 8, .inl s) := fun _ _ => rfl
theorem eM_109 : ∀ (w : WV) (s : Nat → Int32), EM w 10 s = .inl (w.2.1 0, 8, .inl s) := fun _ _ => rfl
theorem eM_110 : ∀ (w : WV) (s : Nat → Int32), EM w 11 s = .inl (w.2.1 0, 2, .inl s) := fun _ _ => rfl
theorem eM_111 : ∀ (w : WV) (s : Nat → Int32), EM w 12 s = .inl (w.2.1 0, 12, .inl s) := fun _ _ => rfl
theorem eM_112 : ∀ (w : WV) (s : Nat → Int32), EM w 13 s = .inl (w.2.1 0, 12, .inl s) := fun _ _ => rfl
theorem eM_113 : ∀ (w : WV) (s : Nat → Int32), EM w 14 s = .inl (w.2.1 0, 2, .inl s) := fun _ _ => rfl
theorem eM_114 : ∀ (w : WV) (s : Nat → Int32), EM w 15 s = .inl (w.2.1 0, 10, .inl s) := fun _ _ => rfl
theorem eM_115 : ∀ (w : WV) (s : Nat → Int32), EM w 16 s = .inl (w.2.1 0, 10, .inl s) := fun _ _ => rfl
theorem eM_116 : ∀ (w : WV) (s : Nat → Int32), EM w 17 s = .inl (w.2.1 0, 19, .inl s) := fun _ _ => rfl
theorem eM_117 : ∀ (w : WV) (s : Nat → Int32), EM w 18 s = .inl (w.2.1 0, 152, .inl s) := fun _ _ => rfl
theorem eM_119 : ∀ (w : WV) (s : Nat → Int32), EM w 20 s = .inl (w.2.1 0, 38, .inl s) := fun _ _ => rfl
theorem eM_122 : ∀ (w : WV) (s : Nat → Int32), EM w 23 s = .inl (w.2.1 0, 8, .inl s) := fun _ _ => rfl
theorem eM_123 : ∀ (w : WV) (s : Nat → Int32), EM w 24 s = .inl (w.2.1 0, 8, .inl s) := fun _ _ => rfl
theorem eM_125 : ∀ (w : WV) (s : Nat → Int32), EM w 26 s = .inl (w.2.1 0, 2, .inl s) := fun _ _ => rfl
theorem eM_126 : ∀ (w : WV) (s : Nat → Int32), EM w 27 s = .inl (w.2.1 0, 360, .inl s) := fun _ _ => rfl
theorem eM_127 : ∀ (w : WV) (s : Nat → Int32), EM w 28 s = .inl (w.2.1 0, 6, .inl s) := fun _ _ => rfl
theorem eM_128 : ∀ (w : WV) (s : Nat → Int32), EM w 29 s = .inl (w.2.1 0, 6, .inl s) := fun _ _ => rfl
theorem eM_129 : ∀ (w : WV) (s : Nat → Int32), EM w 30 s = .inl (w.2.1 0, 8, .inl s) := fun _ _ => rfl
theorem eM_130 : ∀ (w : WV) (s : Nat → Int32), EM w 31 s = .inl (w.2.1 0, 8, .inl s) := fun _ _ => rfl
theorem eM_131 : ∀ (w : WV) (s : Nat → Int32), EM w 32 s = .inl (w.2.1 1, 8, .inl s) := fun _ _ => rfl
theorem eM_137 : ∀ (w : WV) (s : Nat → Int32), EM w 38 s = .inl (w.2.1 0, 6, .inl s) := fun _ _ => rfl
/-- a write, named -/
def bm {β : Type} (x : Mem) (f : Mem → Option β) : Option β := f x
theorem og_m {β : Type} {x : Mem} {f : Mem → Option β} {y : β} (h : bm x f = some y) : ∃ a, a = x ∧ f a = some y := ⟨x, rfl, h⟩
def ob {α β : Type} (x : Option (Mem × α)) (f : Mem → α → Option β) : Option β := match x with
  | none => none
  | some q => f q.1 q.2
theorem og_o {α β : Type} {x : Option (Mem × α)} {f : Mem → α → Option β} {y : β} (h : ob x f = some y) : ∃ a b, x = some (a, b) ∧ f a b = some y := by
  cases x with
  | none => cases h
  | some q => exact ⟨q.1, q.2, rfl, h⟩
theorem ne_toInt {x v : Int32} {n : Int} (h : ¬ x = v) (hv : v.toInt = n) : x.toInt ≠ n := fun e => h (Int32.toInt_inj.mp (e.trans hv.symm))
section Rows2
variable {p : Program} {l : Launch} {e : Env} {R : Room} {s : State} {m : MethodId} {args : Array Value} {below : List Frame} {meth : Method} {c : Code} {H : Heap} {locs : List Loc} {cells slots : Nat} {Q : State → Prop}
variable {cc : ByteArray} {pc nL : Nat} {ls : Array Slot} {rest : List Value} {E : EV} {L : List Nat} {w : WV} {σ σ' : Mem} {own : String} {v r : Int32}
theorem q_iret (S : CallFix p m c cc nL s args gtbl own) (hr : meth.sig.returnType = some .int) (hlk : meth.locks = false) (hR : Rp E L w σ H) (hS : va_S (AW L w) s.heap H locs) (h0 : some (σ, v) = some (σ', r)) (hdg : decode cc pc = .ok (.ireturn, 1)) : W p l e R s m args below meth c H locs cells slots (MQ below (Qw E L w σ' (some (.int r))) args s cells slots (AW L w)) (F0 m pc ls [.int v]) := by
  cases h0
  exact W.iret S.1 S.2.1 hr (fun t ht hW => ⟨rfl, by rw [ht]; exact hR, hS.F ht⟩) hS.2.2 hdg hlk
theorem q_zret (S : CallFix p m c cc nL s args gtbl own) (hr : meth.sig.returnType = some .boolean) (hlk : meth.locks = false) (hR : Rp E L w σ H) (hS : va_S (AW L w) s.heap H locs) (hb : v = 0 ∨ v = 1) (h0 : some (σ, v) = some (σ', r)) (hdg : decode cc pc = .ok (.ireturn, 1)) : W p l e R s m args below meth c H locs cells slots (MQ below (Qw E L w σ' (some (.int r))) args s cells slots (AW L w)) (F0 m pc ls [.int v]) := by
  cases h0
  exact W.zret S.1 S.2.1 hr (nb_n hb) (fun t ht hW => ⟨rfl, by rw [ht]; exact hR, hS.F ht⟩) hS.2.2 hdg hlk
theorem q_vret (S : CallFix p m c cc nL s args gtbl own) (hr : meth.sig.returnType = none) (hlk : meth.locks = false) (hR : Rp E L w σ H) (hS : va_S (AW L w) s.heap H locs) (h0 : some σ = some σ') (hdg : decode cc pc = .ok (.return_, 1)) : W p l e R s m args below meth c H locs cells slots (MQ below (Qw E L w σ' none) args s cells slots (AW L w)) (F0 m pc ls []) := by
  cases h0
  exact W.vret S.1 S.2.1 hr (fun t ht hW => ⟨rfl, by rw [ht]; exact hR, hS.F ht⟩) hS.2.2 hdg hlk
theorem q_aret (S : CallFix p m c cc nL s args gtbl own) {C : String} (hr : meth.sig.returnType = some (.object C)) (hlk : meth.locks = false) (hR : Rp E L w σ H) (hS : va_S (AW L w) s.heap H locs) {q q' : Nat} (h0 : some (σ, q) = some (σ', q')) (hdg : decode cc pc = .ok (.areturn, 1)) : W p l e R s m args below meth c H locs cells slots (MQ below (Qw E L w σ' (some (.ref (w.2.2 q')))) args s cells slots (AW L w)) (F0 m pc ls [.ref (w.2.2 q)]) := by
  cases h0
  exact W.aret S.1 S.2.1 hr (Or.inl ⟨_, rfl⟩) (Or.inr ⟨_, rfl⟩) (fun t ht hW => ⟨rfl, by rw [ht]; exact hR, hS.F ht⟩) hS.2.2 hdg hlk
theorem q_ipure (S : CallFix p m c cc nL s args gtbl own) (hr : meth.sig.returnType = some .int) (hlk : meth.locks = false) (h0 : some v = some r) (hdg : decode cc pc = .ok (.ireturn, 1)) : W p l e R s m args below meth c s.heap [] cells slots (MQ below (Qp (.int r)) args s cells slots (fun _ => False)) (F0 m pc ls [.int v]) := by
  cases h0
  exact W.iret S.1 S.2.1 hr (fun t ht hW => ⟨rfl, ht⟩) (fun q hq => by cases hq) hdg hlk
theorem q_zpure (S : CallFix p m c cc nL s args gtbl own) (hr : meth.sig.returnType = some .boolean) (hlk : meth.locks = false) (hb : v = 0 ∨ v = 1) (h0 : some v = some r) (hdg : decode cc pc = .ok (.ireturn, 1)) : W p l e R s m args below meth c s.heap [] cells slots (MQ below (Qp (.int r)) args s cells slots (fun _ => False)) (F0 m pc ls [.int v]) := by
  cases h0
  exact W.zret S.1 S.2.1 hr (nb_n hb) (fun t ht hW => ⟨rfl, ht⟩) (fun q hq => by cases hq) hdg hlk
theorem q_tabI (S : CallFix p m c cc nL s args gtbl own) {dflt lo hi : Int} {offs : Array Int} {len : Nat} {x v : Int32} {off : Int} {tgt : Nat} (hdg : decode cc pc = .ok (.tableswitch dflt lo hi offs, len)) (hx : x = v) (h1 : ¬ v.toInt < lo) (h2 : ¬ hi < v.toInt) (ho : offs[(v.toInt - lo).toNat]? = some off) (ht : (pc : Int) + off = (tgt : Int)) (k : W p l e R s m args below meth c H locs cells slots Q (F0 m tgt ls rest)) : W p l e R s m args below meth c H locs cells slots Q (F0 m pc ls (.int x :: rest)) := by
  subst hx
  exact lv_tableIn S.1 S.2.1 hdg h1 h2 ho ht k
theorem q_tabD (S : CallFix p m c cc nL s args gtbl own) {dflt lo hi : Int} {offs : Array Int} {len : Nat} {x : Int32} {tgt : Nat} (hdg : decode cc pc = .ok (.tableswitch dflt lo hi offs, len)) (vs : List Int) (hsz : hi - lo < (offs.size : Int)) (hall : ∀ i, i < offs.size → offs[i]? = some dflt ∨ (lo + (i : Int)) ∈ vs) (hne : ∀ v ∈ vs, x.toInt ≠ v) (ht : (pc : Int) + dflt = (tgt : Int)) (k : W p l e R s m args below meth c H locs cells slots Q (F0 m tgt ls rest)) : W p l e R s m args below meth c H locs cells slots Q (F0 m pc ls (.int x :: rest)) := by
  by_cases h1 : x.toInt < lo
  · exact lv_tableOut S.1 S.2.1 hdg (Or.inl h1) ht k
  · by_cases h2 : hi < x.toInt
    · exact lv_tableOut S.1 S.2.1 hdg (Or.inr h2) ht k
    · have hi1 : (x.toInt - lo).toNat < offs.size := by omega
      rcases hall _ hi1 with h3 | h3
      · exact lv_tableIn S.1 S.2.1 hdg h1 h2 h3 ht k
      · exact absurd (show x.toInt = lo + ((x.toInt - lo).toNat : Int) by omega) (hne _ h3)
theorem q_lokI (S : CallFix p m c cc nL s args gtbl own) {dflt : Int} {ps : Array (Int × Int)} {len : Nat} {x v : Int32} {off : Int} {tgt : Nat} (hdg : decode cc pc = .ok (.lookupswitch dflt ps, len)) (hx : x = v) (hp : (ps.toList.zip (ps.toList.drop 1)).all (fun (a, next) => a.1 < next.1) = true) (ho : Op.lookupswitch.offset ps.toList dflt v.toInt = off) (ht : (pc : Int) + off = (tgt : Int)) (k : W p l e R s m args below meth c H locs cells slots Q (F0 m tgt ls rest)) : W p l e R s m args below meth c H locs cells slots Q (F0 m pc ls (.int x :: rest)) := by
  subst hx
  exact lv_lookup S.1 S.2.1 hdg hp ho ht k
theorem q_lokD2 (S : CallFix p m c cc nL s args gtbl own) {dflt k1 o1 k2 o2 : Int} {len : Nat} {x : Int32} {tgt : Nat} (hdg : decode cc pc = .ok (.lookupswitch dflt #[(k1, o1), (k2, o2)], len)) (hp : k1 < k2) (h1 : x.toInt ≠ k1) (h2 : x.toInt ≠ k2) (ht : (pc : Int) + dflt = (tgt : Int)) (k : W p l e R s m args below meth c H locs cells slots Q (F0 m tgt ls rest)) : W p l e R s m args below meth c H locs cells slots Q (F0 m pc ls (.int x :: rest)) := by
  refine lv_lookup S.1 S.2.1 hdg (by simp [hp]) ?_ ht k
  simp [Op.lookupswitch.offset, h1, h2, Ne.symm h1, Ne.symm h2]
theorem q_ld (S : CallFix p m c cc nL s args gtbl own) {j k : Nat} (hK : KS L w s) (hR : Rp E L w σ H) (hj : j ∈ L) {n : Nat} (he : E w j (σ j) = .inl (w.2.1 0, n, .inl (σ j))) {i : Int32} (hin : vp_in i n) (hk : i.toNatClampNeg = k) (hdg : decode cc pc = .ok (.iaload, 1))
    (kk : W p l e R s m args below meth c H locs cells slots Q (F0 m (pc + 1) ls (.int (σ j k) :: rest))) : W p l e R s m args below meth c H locs cells slots Q (F0 m pc ls (.int i :: .ref (w.2.2 j) :: rest)) := by
  subst hk
  exact r_ild S hK hR hj he hin hdg kk
theorem q_st (S : CallFix p m c cc nL s args gtbl own) {j k : Nat} (hK : KS L w s) (hR : Rp E L w σ H) (hS : va_S (AW L w) s.heap H locs) (hj : j ∈ L) {n : Nat} (he : ∀ f : Nat → Int32, E w j f = .inl (w.2.1 0, n, .inl f)) {i x : Int32} (hin : vp_in i n) (hk : i.toNatClampNeg = k) (hm : σ' = mu σ j k x) (hdg : decode cc pc = .ok (.iastore, 1))
    (kk : ∀ (H1 : Heap) (locs1 : List Loc), Rp E L w σ' H1 → va_S (AW L w) s.heap H1 locs1 → W p l e R s m args below meth c H1 locs1 cells slots Q (F0 m (pc + 1) ls rest)) : W p l e R s m args below meth c H locs cells slots Q (F0 m pc ls (.int x :: .int i :: .ref (w.2.2 j) :: rest)) := by
  subst hk
  subst hm
  exact r_ist S hK hR hS hj he hin hdg kk
theorem q_zst (S : CallFix p m c cc nL s args gtbl own) {j k : Nat} (hK : KS L w s) (hR : Rp E L w σ H) (hS : va_S (AW L w) s.heap H locs) (hj : j ∈ L) {n : Nat} (he : ∀ f : Nat → Int32, E w j f = .inl (w.2.1 1, n, .inl f)) {i x : Int32} (hb : x = 0 ∨ x = 1) (hin : vp_in i n) (hk : i.toNatClampNeg = k) (hm : σ' = mu σ j k x) (hdg : decode cc pc = .ok (.bastore, 1))
    (kk : ∀ (H1 : Heap) (locs1 : List Loc), Rp E L w σ' H1 → va_S (AW L w) s.heap H1 locs1 → W p l e R s m args below meth c H1 locs1 cells slots Q (F0 m (pc + 1) ls rest)) : W p l e R s m args below meth c H locs cells slots Q (F0 m pc ls (.int x :: .int i :: .ref (w.2.2 j) :: rest)) := by
  subst hk
  subst hm
  exact r_zst S hK hR hS hj he hb hin hdg kk
end Rows2
end
section
theorem ii1 (x : Int32) : x + Int32.ofInt 1 = x + 1 := rfl
theorem vin {i : Int32} {n : Nat} (h : ¬ (i < 0 ∨ n ≤ i.toNatClampNeg)) : vp_in i n := h
theorem q_ast {p : Program} {l : Launch} {e : Env} {R : Room} {s : State} {m : MethodId} {args : Array Value} {below : List Frame} {meth : Method} {c : Code} {H : Heap} {locs : List Loc} {cells slots : Nat} {Q : State → Prop} {cc : ByteArray} {pc nL : Nat} {ls : Array Slot} {rest : List Value} {w : WV} {σ σ' : Mem} {E : EV} {L : List Nat} {own : String} {j : Nat} (S : CallFix p m c cc nL s args gtbl own) (hK : KS L w s) (hR : Rp E L w σ H) (hS : va_S (AW L w) s.heap H locs) (hj : j ∈ L) {n t0 ci v : Nat} {r : vw_C} {vs : List Value} {cA : ClassId} (he : ∀ f : Nat → Int32, E w j f = .inl (cA, n, .inr (.inr (.inr (.inr (fun i => some (w.2.2 ((f i).toNatClampNeg)))))))) (ht : (tysW w)[t0]? = some (cA, .object r.1)) {x : Int32} (hx : x.toNatClampNeg = v) (hv : v ∈ L) (hev : E w v (σ v) = .inr (ci, vs)) (hc : vwCl[ci]? = some r) {i : Int32} (hin : vp_in i n) (hm : σ' = mu σ j i.toNatClampNeg x) (hdg : decode cc pc = .ok (.aastore, 1))
    (kk : ∀ (H1 : Heap) (locs1 : List Loc), Rp E L w σ' H1 → va_S (AW L w) s.heap H1 locs1 → W p l e R s m args below meth c H1 locs1 cells slots Q (F0 m (pc + 1) ls rest)) : W p l e R s m args below meth c H locs cells slots Q (F0 m pc ls (.ref (w.2.2 v) :: .int i :: .ref (w.2.2 j) :: rest)) := by
  subst hm
  exact r_ast S hK hR hS hj he ht hx hv hev hc hin hdg kk
theorem g0_14 {p : Program} {l : Launch} {e : Env} {R : Room} {s : State} {m : MethodId} {args : Array Value} {below : List Frame} {meth : Method} {c : Code} {H : Heap} {locs : List Loc} {cells slots : Nat} {Q : State → Prop} {cc : ByteArray} {pc nL : Nat} {ls : Array Slot} {rest : List Value} {w : WV} {σ : Mem} (S : CallFix p m c cc nL s args gtbl RX0) (hK : KS LC w s) (hR : Rp EC LC w σ H) {h : Nat} (hh : h ∈ bookL) {t : Nat} (ht : h + 1 = t) (hdg : decode cc pc = .ok (.getfield 14, 3)) (kk : W p l e R s m args below meth c H locs cells slots Q (F0 m (pc + 3) ls (.ref (w.2.2 t) :: rest))) : W p l e R s m args below meth c H locs cells slots Q (F0 m pc ls (.ref (w.2.2 h) :: rest)) := by subst ht; exact r_get S hK hR (ok_0 _ hh) inX0 (eC_0 _ hh w _) rfl 0 (by decide) (gt_at 140 (by decide +kernel) (by decide +kernel)) rfl hdg kk
theorem g0_20 {p : Program} {l : Launch} {e : Env} {R : Room} {s : State} {m : MethodId} {args : Array Value} {below : List Frame} {meth : Method} {c : Code} {H : Heap} {locs : List Loc} {cells slots : Nat} {Q : State → Prop} {cc : ByteArray} {pc nL : Nat} {ls : Array Slot} {rest : List Value} {w : WV} {σ : Mem} (S : CallFix p m c cc nL s args gtbl RX0) (hK : KS LC w s) (hR : Rp EC LC w σ H) {h : Nat} (hh : h ∈ bookL) {t : Nat} (ht : h + 4 = t) (hdg : decode cc pc = .ok (.getfield 20, 3)) (kk : W p l e R s m args below meth c H locs cells slots Q (F0 m (pc + 3) ls (.ref (w.2.2 t) :: rest))) : W p l e R s m args below meth c H locs cells slots Q (F0 m pc ls (.ref (w.2.2 h) :: rest)) := by subst ht; exact r_get S hK hR (ok_0 _ hh) inX0 (eC_0 _ hh w _) rfl 1 (by decide) (gt_at 143 (by decide +kernel) (by decide +kernel)) rfl hdg kk
theorem g0_23 {p : Program} {l : Launch} {e : Env} {R : Room} {s : State} {m : MethodId} {args : Array Value} {below : List Frame} {meth : Method} {c : Code} {H : Heap} {locs : List Loc} {cells slots : Nat} {Q : State → Prop} {cc : ByteArray} {pc nL : Nat} {ls : Array Slot} {rest : List Value} {w : WV} {σ : Mem} (S : CallFix p m c cc nL s args gtbl RX0) (hK : KS LC w s) (hR : Rp EC LC w σ H) {h : Nat} (hh : h ∈ bookL) {t : Nat} (ht : h + 7 = t) (hdg : decode cc pc = .ok (.getfield 23, 3)) (kk : W p l e R s m args below meth c H locs cells slots Q (F0 m (pc + 3) ls (.ref (w.2.2 t) :: rest))) : W p l e R s m args below meth c H locs cells slots Q (F0 m pc ls (.ref (w.2.2 h) :: rest)) := by subst ht; exact r_get S hK hR (ok_0 _ hh) inX0 (eC_0 _ hh w _) rfl 2 (by decide) (gt_at 146 (by decide +kernel) (by decide +kernel)) rfl hdg kk
theorem g0_26 {p : Program} {l : Launch} {e : Env} {R : Room} {s : State} {m : MethodId} {args : Array Value} {below : List Frame} {meth : Method} {c : Code} {H : Heap} {locs : List Loc} {cells slots : Nat} {Q : State → Prop} {cc : ByteArray} {pc nL : Nat} {ls : Array Slot} {rest : List Value} {w : WV} {σ : Mem} (S : CallFix p m c cc nL s args gtbl RX0) (hK : KS LC w s) (hR : Rp EC LC w σ H) {h : Nat} (hh : h ∈ bookL) {t : Nat} (ht : h + 10 = t) (hdg : decode cc pc = .ok (.getfield 26, 3)) (kk : W p l e R s m args below meth c H locs cells slots Q (F0 m (pc + 3) ls (.ref (w.2.2 t) :: rest))) : W p l e R s m args below meth c H locs cells slots Q (F0 m pc ls (.ref (w.2.2 h) :: rest)) := by subst ht; exact r_get S hK hR (ok_0 _ hh) inX0 (eC_0 _ hh w _) rfl 3 (by decide) (gt_at 148 (by decide +kernel) (by decide +kernel)) rfl hdg kk
theorem g0_29 {p : Program} {l : Launch} {e : Env} {R : Room} {s : State} {m : MethodId} {args : Array Value} {below : List Frame} {meth : Method} {c : Code} {H : Heap} {locs : List Loc} {cells slots : Nat} {Q : State → Prop} {cc : ByteArray} {pc nL : Nat} {ls : Array Slot} {rest : List Value} {w : WV} {σ : Mem} (S : CallFix p m c cc nL s args gtbl RX0) (hK : KS LC w s) (hR : Rp EC LC w σ H) {h : Nat} (hh : h ∈ bookL) {t : Nat} (ht : h + 13 = t) (hdg : decode cc pc = .ok (.getfield 29, 3)) (kk : W p l e R s m args below meth c H locs cells slots Q (F0 m (pc + 3) ls (.ref (w.2.2 t) :: rest))) : W p l e R s m args below meth c H locs cells slots Q (F0 m pc ls (.ref (w.2.2 h) :: rest)) := by subst ht; exact r_get S hK hR (ok_0 _ hh) inX0 (eC_0 _ hh w _) rfl 4 (by decide) (gt_at 150 (by decide +kernel) (by decide +kernel)) rfl hdg kk
theorem g0_33 {p : Program} {l : Launch} {e : Env} {R : Room} {s : State} {m : MethodId} {args : Array Value} {below : List Frame} {meth : Method} {c : Code} {H : Heap} {locs : List Loc} {cells slots : Nat} {Q : State → Prop} {cc : ByteArray} {pc nL : Nat} {ls : Array Slot} {rest : List Value} {w : WV} {σ : Mem} (S : CallFix p m c cc nL s args gtbl RX0) (hK : KS LC w s) (hR : Rp EC LC w σ H) {h : Nat} (hh : h ∈ bookL) (hdg : decode cc pc = .ok (.getfield 33, 3)) (kk : W p l e R s m args below meth c H locs cells slots Q (F0 m (pc + 3) ls (.int (σ h 5) :: rest))) : W p l e R s m args below meth c H locs cells slots Q (F0 m pc ls (.ref (w.2.2 h) :: rest)) := r_get S hK hR (ok_0 _ hh) inX0 (eC_0 _ hh w _) rfl 5 (by decide) (gt_at 151 (by decide +kernel) (by decide +kernel)) rfl hdg kk
theorem u0_33 {p : Program} {l : Launch} {e : Env} {R : Room} {s : State} {m : MethodId} {args : Array Value} {below : List Frame} {meth : Method} {c : Code} {H : Heap} {locs : List Loc} {cells slots : Nat} {Q : State → Prop} {cc : ByteArray} {pc nL : Nat} {ls : Array Slot} {rest : List Value} {w : WV} {σ σ' : Mem} (S : CallFix p m c cc nL s args gtbl RX0) (hK : KS LC w s) (hR : Rp EC LC w σ H) (hS : va_S (AW LC w) s.heap H locs) {h : Nat} (hh : h ∈ bookL) {x : Int32} (hm : σ' = mu σ h 5 x) (hdg : decode cc pc = .ok (.putfield 33, 3)) (kk : ∀ (H1 : Heap) (locs1 : List Loc), Rp EC LC w σ' H1 → va_S (AW LC w) s.heap H1 locs1 → W p l e R s m args below meth c H1 locs1 cells slots Q (F0 m (pc + 3) ls rest)) : W p l e R s m args below meth c H locs cells slots Q (F0 m pc ls (.int x :: .ref (w.2.2 h) :: rest)) := by
  subst hm
  exact r_put S hK hR hS (ok_0 _ hh) inX0 tyX0_ok nmX0 (eC_0 _ hh w _) rfl 5 (by decide) (gt_at 151 (by decide +kernel) (by decide +kernel)) rfl rfl rfl (Nat.le_of_ble_eq_true rfl) (eC_0 _ hh w _) hdg kk
theorem g0_37 {p : Program} {l : Launch} {e : Env} {R : Room} {s : State} {m : MethodId} {args : Array Value} {below : List Frame} {meth : Method} {c : Code} {H : Heap} {locs : List Loc} {cells slots : Nat} {Q : State → Prop} {cc : ByteArray} {pc nL : Nat} {ls : Array Slot} {rest : List Value} {w : WV} {σ : Mem} (S : CallFix p m c cc nL s args gtbl RX0) (hK : KS LC w s) (hR : Rp EC LC w σ H) {h : Nat} (hh : h ∈ bookL) (hdg : decode cc pc = .ok (.getfield 37, 3)) (kk : W p l e R s m args below meth c H locs cells slots Q (F0 m (pc + 3) ls (.int (σ h 6) :: rest))) : W p l e R s m args below meth c H locs cells slots Q (F0 m pc ls (.ref (w.2.2 h) :: rest)) := r_get S hK hR (ok_0 _ hh) inX0 (eC_0 _ hh w _) rfl 6 (by decide) (gt_at 152 (by decide +kernel) (by decide +kernel)) rfl hdg kk
theorem u0_37 {p : Program} {l : Launch} {e : Env} {R : Room} {s : State} {m : MethodId} {args : Array Value} {below : List Frame} {meth : Method} {c : Code} {H : Heap} {locs : List Loc} {cells slots : Nat} {Q : State → Prop} {cc : ByteArray} {pc nL : Nat} {ls : Array Slot} {rest : List Value} {w : WV} {σ σ' : Mem} (S : CallFix p m c cc nL s args gtbl RX0) (hK : KS LC w s) (hR : Rp EC LC w σ H) (hS : va_S (AW LC w) s.heap H locs) {h : Nat} (hh : h ∈ bookL) {x : Int32} (hm : σ' = mu σ h 6 x) (hdg : decode cc pc = .ok (.putfield 37, 3)) (kk : ∀ (H1 : Heap) (locs1 : List Loc), Rp EC LC w σ' H1 → va_S (AW LC w) s.heap H1 locs1 → W p l e R s m args below meth c H1 locs1 cells slots Q (F0 m (pc + 3) ls rest)) : W p l e R s m args below meth c H locs cells slots Q (F0 m pc ls (.int x :: .ref (w.2.2 h) :: rest)) := by
  subst hm
  exact r_put S hK hR hS (ok_0 _ hh) inX0 tyX0_ok nmX0 (eC_0 _ hh w _) rfl 6 (by decide) (gt_at 152 (by decide +kernel) (by decide +kernel)) rfl rfl rfl (Nat.le_of_ble_eq_true rfl) (eC_0 _ hh w _) hdg kk
theorem g0_40 {p : Program} {l : Launch} {e : Env} {R : Room} {s : State} {m : MethodId} {args : Array Value} {below : List Frame} {meth : Method} {c : Code} {H : Heap} {locs : List Loc} {cells slots : Nat} {Q : State → Prop} {cc : ByteArray} {pc nL : Nat} {ls : Array Slot} {rest : List Value} {w : WV} {σ : Mem} (S : CallFix p m c cc nL s args gtbl RX0) (hK : KS LC w s) (hR : Rp EC LC w σ H) {h : Nat} (hh : h ∈ bookL) (hdg : decode cc pc = .ok (.getfield 40, 3)) (kk : W p l e R s m args below meth c H locs cells slots Q (F0 m (pc + 3) ls (.int (σ h 7) :: rest))) : W p l e R s m args below meth c H locs cells slots Q (F0 m pc ls (.ref (w.2.2 h) :: rest)) := r_get S hK hR (ok_0 _ hh) inX0 (eC_0 _ hh w _) rfl 7 (by decide) (gt_at 153 (by decide +kernel) (by decide +kernel)) rfl hdg kk
theorem u0_40 {p : Program} {l : Launch} {e : Env} {R : Room} {s : State} {m : MethodId} {args : Array Value} {below : List Frame} {meth : Method} {c : Code} {H : Heap} {locs : List Loc} {cells slots : Nat} {Q : State → Prop} {cc : ByteArray} {pc nL : Nat} {ls : Array Slot} {rest : List Value} {w : WV} {σ σ' : Mem} (S : CallFix p m c cc nL s args gtbl RX0) (hK : KS LC w s) (hR : Rp EC LC w σ H) (hS : va_S (AW LC w) s.heap H locs) {h : Nat} (hh : h ∈ bookL) {x : Int32} (hm : σ' = mu σ h 7 x) (hdg : decode cc pc = .ok (.putfield 40, 3)) (kk : ∀ (H1 : Heap) (locs1 : List Loc), Rp EC LC w σ' H1 → va_S (AW LC w) s.heap H1 locs1 → W p l e R s m args below meth c H1 locs1 cells slots Q (F0 m (pc + 3) ls rest)) : W p l e R s m args below meth c H locs cells slots Q (F0 m pc ls (.int x :: .ref (w.2.2 h) :: rest)) := by
  subst hm
  exact r_put S hK hR hS (ok_0 _ hh) inX0 tyX0_ok nmX0 (eC_0 _ hh w _) rfl 7 (by decide) (gt_at 153 (by decide +kernel) (by decide +kernel)) rfl rfl rfl (Nat.le_of_ble_eq_true rfl) (eC_0 _ hh w _) hdg kk
theorem g0_43 {p : Program} {l : Launch} {e : Env} {R : Room} {s : State} {m : MethodId} {args : Array Value} {below : List Frame} {meth : Method} {c : Code} {H : Heap} {locs : List Loc} {cells slots : Nat} {Q : State → Prop} {cc : ByteArray} {pc nL : Nat} {ls : Array Slot} {rest : List Value} {w : WV} {σ : Mem} (S : CallFix p m c cc nL s args gtbl RX0) (hK : KS LC w s) (hR : Rp EC LC w σ H) {h : Nat} (hh : h ∈ bookL) (hdg : decode cc pc = .ok (.getfield 43, 3)) (kk : W p l e R s m args below meth c H locs cells slots Q (F0 m (pc + 3) ls (.int (σ h 8) :: rest))) : W p l e R s m args below meth c H locs cells slots Q (F0 m pc ls (.ref (w.2.2 h) :: rest)) := r_get S hK hR (ok_0 _ hh) inX0 (eC_0 _ hh w _) rfl 8 (by decide) (gt_at 154 (by decide +kernel) (by decide +kernel)) rfl hdg kk
theorem u0_43 {p : Program} {l : Launch} {e : Env} {R : Room} {s : State} {m : MethodId} {args : Array Value} {below : List Frame} {meth : Method} {c : Code} {H : Heap} {locs : List Loc} {cells slots : Nat} {Q : State → Prop} {cc : ByteArray} {pc nL : Nat} {ls : Array Slot} {rest : List Value} {w : WV} {σ σ' : Mem} (S : CallFix p m c cc nL s args gtbl RX0) (hK : KS LC w s) (hR : Rp EC LC w σ H) (hS : va_S (AW LC w) s.heap H locs) {h : Nat} (hh : h ∈ bookL) {x : Int32} (hm : σ' = mu σ h 8 x) (hdg : decode cc pc = .ok (.putfield 43, 3)) (kk : ∀ (H1 : Heap) (locs1 : List Loc), Rp EC LC w σ' H1 → va_S (AW LC w) s.heap H1 locs1 → W p l e R s m args below meth c H1 locs1 cells slots Q (F0 m (pc + 3) ls rest)) : W p l e R s m args below meth c H locs cells slots Q (F0 m pc ls (.int x :: .ref (w.2.2 h) :: rest)) := by
  subst hm
  exact r_put S hK hR hS (ok_0 _ hh) inX0 tyX0_ok nmX0 (eC_0 _ hh w _) rfl 8 (by decide) (gt_at 154 (by decide +kernel) (by decide +kernel)) rfl rfl rfl (Nat.le_of_ble_eq_true rfl) (eC_0 _ hh w _) hdg kk
theorem g1_9 {p : Program} {l : Launch} {e : Env} {R : Room} {s : State} {m : MethodId} {args : Array Value} {below : List Frame} {meth : Method} {c : Code} {H : Heap} {locs : List Loc} {cells slots : Nat} {Q : State → Prop} {cc : ByteArray} {pc nL : Nat} {ls : Array Slot} {rest : List Value} {w : WV} {σ : Mem} (S : CallFix p m c cc nL s args gtbl RX1) (hK : KS LC w s) (hR : Rp EC LC w σ H) {h : Nat} (hh : h ∈ hourL) {t : Nat} (ht : h + 1 = t) (hdg : decode cc pc = .ok (.getfield 9, 3)) (kk : W p l e R s m args below meth c H locs cells slots Q (F0 m (pc + 3) ls (.ref (w.2.2 t) :: rest))) : W p l e R s m args below meth c H locs cells slots Q (F0 m pc ls (.ref (w.2.2 h) :: rest)) := by subst ht; exact r_get S hK hR (ok_1 _ hh) inX1 (eC_1 _ hh w _) rfl 2 (by decide) (gt_at 199 (by decide +kernel) (by decide +kernel)) rfl hdg kk
theorem g1_15 {p : Program} {l : Launch} {e : Env} {R : Room} {s : State} {m : MethodId} {args : Array Value} {below : List Frame} {meth : Method} {c : Code} {H : Heap} {locs : List Loc} {cells slots : Nat} {Q : State → Prop} {cc : ByteArray} {pc nL : Nat} {ls : Array Slot} {rest : List Value} {w : WV} {σ : Mem} (S : CallFix p m c cc nL s args gtbl RX1) (hK : KS LC w s) (hR : Rp EC LC w σ H) {h : Nat} (hh : h ∈ hourL) {t : Nat} (ht : h + 2 = t) (hdg : decode cc pc = .ok (.getfield 15, 3)) (kk : W p l e R s m args below meth c H locs cells slots Q (F0 m (pc + 3) ls (.ref (w.2.2 t) :: rest))) : W p l e R s m args below meth c H locs cells slots Q (F0 m pc ls (.ref (w.2.2 h) :: rest)) := by subst ht; exact r_get S hK hR (ok_1 _ hh) inX1 (eC_1 _ hh w _) rfl 3 (by decide) (gt_at 200 (by decide +kernel) (by decide +kernel)) rfl hdg kk
theorem g1_18 {p : Program} {l : Launch} {e : Env} {R : Room} {s : State} {m : MethodId} {args : Array Value} {below : List Frame} {meth : Method} {c : Code} {H : Heap} {locs : List Loc} {cells slots : Nat} {Q : State → Prop} {cc : ByteArray} {pc nL : Nat} {ls : Array Slot} {rest : List Value} {w : WV} {σ : Mem} (S : CallFix p m c cc nL s args gtbl RX1) (hK : KS LC w s) (hR : Rp EC LC w σ H) {h : Nat} (hh : h ∈ hourL) {t : Nat} (ht : h + 3 = t) (hdg : decode cc pc = .ok (.getfield 18, 3)) (kk : W p l e R s m args below meth c H locs cells slots Q (F0 m (pc + 3) ls (.ref (w.2.2 t) :: rest))) : W p l e R s m args below meth c H locs cells slots Q (F0 m pc ls (.ref (w.2.2 h) :: rest)) := by subst ht; exact r_get S hK hR (ok_1 _ hh) inX1 (eC_1 _ hh w _) rfl 4 (by decide) (gt_at 201 (by decide +kernel) (by decide +kernel)) rfl hdg kk
theorem g1_21 {p : Program} {l : Launch} {e : Env} {R : Room} {s : State} {m : MethodId} {args : Array Value} {below : List Frame} {meth : Method} {c : Code} {H : Heap} {locs : List Loc} {cells slots : Nat} {Q : State → Prop} {cc : ByteArray} {pc nL : Nat} {ls : Array Slot} {rest : List Value} {w : WV} {σ : Mem} (S : CallFix p m c cc nL s args gtbl RX1) (hK : KS LC w s) (hR : Rp EC LC w σ H) {h : Nat} (hh : h ∈ hourL) {t : Nat} (ht : h + 4 = t) (hdg : decode cc pc = .ok (.getfield 21, 3)) (kk : W p l e R s m args below meth c H locs cells slots Q (F0 m (pc + 3) ls (.ref (w.2.2 t) :: rest))) : W p l e R s m args below meth c H locs cells slots Q (F0 m pc ls (.ref (w.2.2 h) :: rest)) := by subst ht; exact r_get S hK hR (ok_1 _ hh) inX1 (eC_1 _ hh w _) rfl 5 (by decide) (gt_at 202 (by decide +kernel) (by decide +kernel)) rfl hdg kk
theorem g1_24 {p : Program} {l : Launch} {e : Env} {R : Room} {s : State} {m : MethodId} {args : Array Value} {below : List Frame} {meth : Method} {c : Code} {H : Heap} {locs : List Loc} {cells slots : Nat} {Q : State → Prop} {cc : ByteArray} {pc nL : Nat} {ls : Array Slot} {rest : List Value} {w : WV} {σ : Mem} (S : CallFix p m c cc nL s args gtbl RX1) (hK : KS LC w s) (hR : Rp EC LC w σ H) {h : Nat} (hh : h ∈ hourL) {t : Nat} (ht : h + 5 = t) (hdg : decode cc pc = .ok (.getfield 24, 3)) (kk : W p l e R s m args below meth c H locs cells slots Q (F0 m (pc + 3) ls (.ref (w.2.2 t) :: rest))) : W p l e R s m args below meth c H locs cells slots Q (F0 m pc ls (.ref (w.2.2 h) :: rest)) := by subst ht; exact r_get S hK hR (ok_1 _ hh) inX1 (eC_1 _ hh w _) rfl 6 (by decide) (gt_at 203 (by decide +kernel) (by decide +kernel)) rfl hdg kk
theorem g1_27 {p : Program} {l : Launch} {e : Env} {R : Room} {s : State} {m : MethodId} {args : Array Value} {below : List Frame} {meth : Method} {c : Code} {H : Heap} {locs : List Loc} {cells slots : Nat} {Q : State → Prop} {cc : ByteArray} {pc nL : Nat} {ls : Array Slot} {rest : List Value} {w : WV} {σ : Mem} (S : CallFix p m c cc nL s args gtbl RX1) (hK : KS LC w s) (hR : Rp EC LC w σ H) {h : Nat} (hh : h ∈ hourL) {t : Nat} (ht : h + 6 = t) (hdg : decode cc pc = .ok (.getfield 27, 3)) (kk : W p l e R s m args below meth c H locs cells slots Q (F0 m (pc + 3) ls (.ref (w.2.2 t) :: rest))) : W p l e R s m args below meth c H locs cells slots Q (F0 m pc ls (.ref (w.2.2 h) :: rest)) := by subst ht; exact r_get S hK hR (ok_1 _ hh) inX1 (eC_1 _ hh w _) rfl 7 (by decide) (gt_at 204 (by decide +kernel) (by decide +kernel)) rfl hdg kk
theorem g1_30 {p : Program} {l : Launch} {e : Env} {R : Room} {s : State} {m : MethodId} {args : Array Value} {below : List Frame} {meth : Method} {c : Code} {H : Heap} {locs : List Loc} {cells slots : Nat} {Q : State → Prop} {cc : ByteArray} {pc nL : Nat} {ls : Array Slot} {rest : List Value} {w : WV} {σ : Mem} (S : CallFix p m c cc nL s args gtbl RX1) (hK : KS LC w s) (hR : Rp EC LC w σ H) {h : Nat} (hh : h ∈ hourL) {t : Nat} (ht : h + 7 = t) (hdg : decode cc pc = .ok (.getfield 30, 3)) (kk : W p l e R s m args below meth c H locs cells slots Q (F0 m (pc + 3) ls (.ref (w.2.2 t) :: rest))) : W p l e R s m args below meth c H locs cells slots Q (F0 m pc ls (.ref (w.2.2 h) :: rest)) := by subst ht; exact r_get S hK hR (ok_1 _ hh) inX1 (eC_1 _ hh w _) rfl 8 (by decide) (gt_at 205 (by decide +kernel) (by decide +kernel)) rfl hdg kk
theorem g1_33 {p : Program} {l : Launch} {e : Env} {R : Room} {s : State} {m : MethodId} {args : Array Value} {below : List Frame} {meth : Method} {c : Code} {H : Heap} {locs : List Loc} {cells slots : Nat} {Q : State → Prop} {cc : ByteArray} {pc nL : Nat} {ls : Array Slot} {rest : List Value} {w : WV} {σ : Mem} (S : CallFix p m c cc nL s args gtbl RX1) (hK : KS LC w s) (hR : Rp EC LC w σ H) {h : Nat} (hh : h ∈ hourL) (hdg : decode cc pc = .ok (.getfield 33, 3)) (kk : W p l e R s m args below meth c H locs cells slots Q (F0 m (pc + 3) ls (.int (σ h 9) :: rest))) : W p l e R s m args below meth c H locs cells slots Q (F0 m pc ls (.ref (w.2.2 h) :: rest)) := r_get S hK hR (ok_1 _ hh) inX1 (eC_1 _ hh w _) rfl 9 (by decide) (gt_at 206 (by decide +kernel) (by decide +kernel)) rfl hdg kk
theorem u1_33 {p : Program} {l : Launch} {e : Env} {R : Room} {s : State} {m : MethodId} {args : Array Value} {below : List Frame} {meth : Method} {c : Code} {H : Heap} {locs : List Loc} {cells slots : Nat} {Q : State → Prop} {cc : ByteArray} {pc nL : Nat} {ls : Array Slot} {rest : List Value} {w : WV} {σ σ' : Mem} (S : CallFix p m c cc nL s args gtbl RX1) (hK : KS LC w s) (hR : Rp EC LC w σ H) (hS : va_S (AW LC w) s.heap H locs) {h : Nat} (hh : h ∈ hourL) {x : Int32} (hm : σ' = mu σ h 9 x) (hdg : decode cc pc = .ok (.putfield 33, 3)) (kk : ∀ (H1 : Heap) (locs1 : List Loc), Rp EC LC w σ' H1 → va_S (AW LC w) s.heap H1 locs1 → W p l e R s m args below meth c H1 locs1 cells slots Q (F0 m (pc + 3) ls rest)) : W p l e R s m args below meth c H locs cells slots Q (F0 m pc ls (.int x :: .ref (w.2.2 h) :: rest)) := by
  subst hm
  exact r_put S hK hR hS (ok_1 _ hh) inX1 tyX1_ok nmX1 (eC_1 _ hh w _) rfl 9 (by decide) (gt_at 206 (by decide +kernel) (by decide +kernel)) rfl rfl rfl (Nat.le_of_ble_eq_true rfl) (eC_1 _ hh w _) hdg kk
theorem g1_37 {p : Program} {l : Launch} {e : Env} {R : Room} {s : State} {m : MethodId} {args : Array Value} {below : List Frame} {meth : Method} {c : Code} {H : Heap} {locs : List Loc} {cells slots : Nat} {Q : State → Prop} {cc : ByteArray} {pc nL : Nat} {ls : Array Slot} {rest : List Value} {w : WV} {σ : Mem} (S : CallFix p m c cc nL s args gtbl RX1) (hK : KS LC w s) (hR : Rp EC LC w σ H) {h : Nat} (hh : h ∈ hourL) (hdg : decode cc pc = .ok (.getfield 37, 3)) (kk : W p l e R s m args below meth c H locs cells slots Q (F0 m (pc + 3) ls (.int (σ h 10) :: rest))) : W p l e R s m args below meth c H locs cells slots Q (F0 m pc ls (.ref (w.2.2 h) :: rest)) := r_get S hK hR (ok_1 _ hh) inX1 (eC_1 _ hh w _) rfl 10 (by decide) (gt_at 207 (by decide +kernel) (by decide +kernel)) rfl hdg kk
theorem u1_37 {p : Program} {l : Launch} {e : Env} {R : Room} {s : State} {m : MethodId} {args : Array Value} {below : List Frame} {meth : Method} {c : Code} {H : Heap} {locs : List Loc} {cells slots : Nat} {Q : State → Prop} {cc : ByteArray} {pc nL : Nat} {ls : Array Slot} {rest : List Value} {w : WV} {σ σ' : Mem} (S : CallFix p m c cc nL s args gtbl RX1) (hK : KS LC w s) (hR : Rp EC LC w σ H) (hS : va_S (AW LC w) s.heap H locs) {h : Nat} (hh : h ∈ hourL) {x : Int32} (hb : x = 0 ∨ x = 1) (hm : σ' = mu σ h 10 x) (hdg : decode cc pc = .ok (.putfield 37, 3)) (kk : ∀ (H1 : Heap) (locs1 : List Loc), Rp EC LC w σ' H1 → va_S (AW LC w) s.heap H1 locs1 → W p l e R s m args below meth c H1 locs1 cells slots Q (F0 m (pc + 3) ls rest)) : W p l e R s m args below meth c H locs cells slots Q (F0 m pc ls (.int x :: .ref (w.2.2 h) :: rest)) := by
  subst hm
  exact r_put S hK hR hS (ok_1 _ hh) inX1 tyX1_ok nmX1 (eC_1 _ hh w _) rfl 10 (by decide) (gt_at 207 (by decide +kernel) (by decide +kernel)) rfl (nb_n hb) (nb_f hb) (Nat.le_of_ble_eq_true rfl) (eC_1 _ hh w _) hdg kk
theorem g1_41 {p : Program} {l : Launch} {e : Env} {R : Room} {s : State} {m : MethodId} {args : Array Value} {below : List Frame} {meth : Method} {c : Code} {H : Heap} {locs : List Loc} {cells slots : Nat} {Q : State → Prop} {cc : ByteArray} {pc nL : Nat} {ls : Array Slot} {rest : List Value} {w : WV} {σ : Mem} (S : CallFix p m c cc nL s args gtbl RX1) (hK : KS LC w s) (hR : Rp EC LC w σ H) {h : Nat} (hh : h ∈ hourL) (hdg : decode cc pc = .ok (.getfield 41, 3)) (kk : W p l e R s m args below meth c H locs cells slots Q (F0 m (pc + 3) ls (.int (σ h 11) :: rest))) : W p l e R s m args below meth c H locs cells slots Q (F0 m pc ls (.ref (w.2.2 h) :: rest)) := r_get S hK hR (ok_1 _ hh) inX1 (eC_1 _ hh w _) rfl 11 (by decide) (gt_at 208 (by decide +kernel) (by decide +kernel)) rfl hdg kk
theorem u1_41 {p : Program} {l : Launch} {e : Env} {R : Room} {s : State} {m : MethodId} {args : Array Value} {below : List Frame} {meth : Method} {c : Code} {H : Heap} {locs : List Loc} {cells slots : Nat} {Q : State → Prop} {cc : ByteArray} {pc nL : Nat} {ls : Array Slot} {rest : List Value} {w : WV} {σ σ' : Mem} (S : CallFix p m c cc nL s args gtbl RX1) (hK : KS LC w s) (hR : Rp EC LC w σ H) (hS : va_S (AW LC w) s.heap H locs) {h : Nat} (hh : h ∈ hourL) {x : Int32} (hm : σ' = mu σ h 11 x) (hdg : decode cc pc = .ok (.putfield 41, 3)) (kk : ∀ (H1 : Heap) (locs1 : List Loc), Rp EC LC w σ' H1 → va_S (AW LC w) s.heap H1 locs1 → W p l e R s m args below meth c H1 locs1 cells slots Q (F0 m (pc + 3) ls rest)) : W p l e R s m args below meth c H locs cells slots Q (F0 m pc ls (.int x :: .ref (w.2.2 h) :: rest)) := by
  subst hm
  exact r_put S hK hR hS (ok_1 _ hh) inX1 tyX1_ok nmX1 (eC_1 _ hh w _) rfl 11 (by decide) (gt_at 208 (by decide +kernel) (by decide +kernel)) rfl rfl rfl (Nat.le_of_ble_eq_true rfl) (eC_1 _ hh w _) hdg kk
theorem g1_44 {p : Program} {l : Launch} {e : Env} {R : Room} {s : State} {m : MethodId} {args : Array Value} {below : List Frame} {meth : Method} {c : Code} {H : Heap} {locs : List Loc} {cells slots : Nat} {Q : State → Prop} {cc : ByteArray} {pc nL : Nat} {ls : Array Slot} {rest : List Value} {w : WV} {σ : Mem} (S : CallFix p m c cc nL s args gtbl RX1) (hK : KS LC w s) (hR : Rp EC LC w σ H) {h : Nat} (hh : h ∈ hourL) (hdg : decode cc pc = .ok (.getfield 44, 3)) (kk : W p l e R s m args below meth c H locs cells slots Q (F0 m (pc + 3) ls (.int (σ h 12) :: rest))) : W p l e R s m args below meth c H locs cells slots Q (F0 m pc ls (.ref (w.2.2 h) :: rest)) := r_get S hK hR (ok_1 _ hh) inX1 (eC_1 _ hh w _) rfl 12 (by decide) (gt_at 209 (by decide +kernel) (by decide +kernel)) rfl hdg kk
theorem u1_44 {p : Program} {l : Launch} {e : Env} {R : Room} {s : State} {m : MethodId} {args : Array Value} {below : List Frame} {meth : Method} {c : Code} {H : Heap} {locs : List Loc} {cells slots : Nat} {Q : State → Prop} {cc : ByteArray} {pc nL : Nat} {ls : Array Slot} {rest : List Value} {w : WV} {σ σ' : Mem} (S : CallFix p m c cc nL s args gtbl RX1) (hK : KS LC w s) (hR : Rp EC LC w σ H) (hS : va_S (AW LC w) s.heap H locs) {h : Nat} (hh : h ∈ hourL) {x : Int32} (hm : σ' = mu σ h 12 x) (hdg : decode cc pc = .ok (.putfield 44, 3)) (kk : ∀ (H1 : Heap) (locs1 : List Loc), Rp EC LC w σ' H1 → va_S (AW LC w) s.heap H1 locs1 → W p l e R s m args below meth c H1 locs1 cells slots Q (F0 m (pc + 3) ls rest)) : W p l e R s m args below meth c H locs cells slots Q (F0 m pc ls (.int x :: .ref (w.2.2 h) :: rest)) := by
  subst hm
  exact r_put S hK hR hS (ok_1 _ hh) inX1 tyX1_ok nmX1 (eC_1 _ hh w _) rfl 12 (by decide) (gt_at 209 (by decide +kernel) (by decide +kernel)) rfl rfl rfl (Nat.le_of_ble_eq_true rfl) (eC_1 _ hh w _) hdg kk
theorem g1_47 {p : Program} {l : Launch} {e : Env} {R : Room} {s : State} {m : MethodId} {args : Array Value} {below : List Frame} {meth : Method} {c : Code} {H : Heap} {locs : List Loc} {cells slots : Nat} {Q : State → Prop} {cc : ByteArray} {pc nL : Nat} {ls : Array Slot} {rest : List Value} {w : WV} {σ : Mem} (S : CallFix p m c cc nL s args gtbl RX1) (hK : KS LC w s) (hR : Rp EC LC w σ H) {h : Nat} (hh : h ∈ hourL) (hdg : decode cc pc = .ok (.getfield 47, 3)) (kk : W p l e R s m args below meth c H locs cells slots Q (F0 m (pc + 3) ls (.int (σ h 13) :: rest))) : W p l e R s m args below meth c H locs cells slots Q (F0 m pc ls (.ref (w.2.2 h) :: rest)) := r_get S hK hR (ok_1 _ hh) inX1 (eC_1 _ hh w _) rfl 13 (by decide) (gt_at 210 (by decide +kernel) (by decide +kernel)) rfl hdg kk
theorem u1_47 {p : Program} {l : Launch} {e : Env} {R : Room} {s : State} {m : MethodId} {args : Array Value} {below : List Frame} {meth : Method} {c : Code} {H : Heap} {locs : List Loc} {cells slots : Nat} {Q : State → Prop} {cc : ByteArray} {pc nL : Nat} {ls : Array Slot} {rest : List Value} {w : WV} {σ σ' : Mem} (S : CallFix p m c cc nL s args gtbl RX1) (hK : KS LC w s) (hR : Rp EC LC w σ H) (hS : va_S (AW LC w) s.heap H locs) {h : Nat} (hh : h ∈ hourL) {x : Int32} (hm : σ' = mu σ h 13 x) (hdg : decode cc pc = .ok (.putfield 47, 3)) (kk : ∀ (H1 : Heap) (locs1 : List Loc), Rp EC LC w σ' H1 → va_S (AW LC w) s.heap H1 locs1 → W p l e R s m args below meth c H1 locs1 cells slots Q (F0 m (pc + 3) ls rest)) : W p l e R s m args below meth c H locs cells slots Q (F0 m pc ls (.int x :: .ref (w.2.2 h) :: rest)) := by
  subst hm
  exact r_put S hK hR hS (ok_1 _ hh) inX1 tyX1_ok nmX1 (eC_1 _ hh w _) rfl 13 (by decide) (gt_at 210 (by decide +kernel) (by decide +kernel)) rfl rfl rfl (Nat.le_of_ble_eq_true rfl) (eC_1 _ hh w _) hdg kk
theorem g1_50 {p : Program} {l : Launch} {e : Env} {R : Room} {s : State} {m : MethodId} {args : Array Value} {below : List Frame} {meth : Method} {c : Code} {H : Heap} {locs : List Loc} {cells slots : Nat} {Q : State → Prop} {cc : ByteArray} {pc nL : Nat} {ls : Array Slot} {rest : List Value} {w : WV} {σ : Mem} (S : CallFix p m c cc nL s args gtbl RX1) (hK : KS LC w s) (hR : Rp EC LC w σ H) {h : Nat} (hh : h ∈ hourL) (hdg : decode cc pc = .ok (.getfield 50, 3)) (kk : W p l e R s m args below meth c H locs cells slots Q (F0 m (pc + 3) ls (.int (σ h 14) :: rest))) : W p l e R s m args below meth c H locs cells slots Q (F0 m pc ls (.ref (w.2.2 h) :: rest)) := r_get S hK hR (ok_1 _ hh) inX1 (eC_1 _ hh w _) rfl 14 (by decide) (gt_at 211 (by decide +kernel) (by decide +kernel)) rfl hdg kk
theorem u1_50 {p : Program} {l : Launch} {e : Env} {R : Room} {s : State} {m : MethodId} {args : Array Value} {below : List Frame} {meth : Method} {c : Code} {H : Heap} {locs : List Loc} {cells slots : Nat} {Q : State → Prop} {cc : ByteArray} {pc nL : Nat} {ls : Array Slot} {rest : List Value} {w : WV} {σ σ' : Mem} (S : CallFix p m c cc nL s args gtbl RX1) (hK : KS LC w s) (hR : Rp EC LC w σ H) (hS : va_S (AW LC w) s.heap H locs) {h : Nat} (hh : h ∈ hourL) {x : Int32} (hm : σ' = mu σ h 14 x) (hdg : decode cc pc = .ok (.putfield 50, 3)) (kk : ∀ (H1 : Heap) (locs1 : List Loc), Rp EC LC w σ' H1 → va_S (AW LC w) s.heap H1 locs1 → W p l e R s m args below meth c H1 locs1 cells slots Q (F0 m (pc + 3) ls rest)) : W p l e R s m args below meth c H locs cells slots Q (F0 m pc ls (.int x :: .ref (w.2.2 h) :: rest)) := by
  subst hm
  exact r_put S hK hR hS (ok_1 _ hh) inX1 tyX1_ok nmX1 (eC_1 _ hh w _) rfl 14 (by decide) (gt_at 211 (by decide +kernel) (by decide +kernel)) rfl rfl rfl (Nat.le_of_ble_eq_true rfl) (eC_1 _ hh w _) hdg kk
theorem g1_53 {p : Program} {l : Launch} {e : Env} {R : Room} {s : State} {m : MethodId} {args : Array Value} {below : List Frame} {meth : Method} {c : Code} {H : Heap} {locs : List Loc} {cells slots : Nat} {Q : State → Prop} {cc : ByteArray} {pc nL : Nat} {ls : Array Slot} {rest : List Value} {w : WV} {σ : Mem} (S : CallFix p m c cc nL s args gtbl RX1) (hK : KS LC w s) (hR : Rp EC LC w σ H) {h : Nat} (hh : h ∈ hourL) (hdg : decode cc pc = .ok (.getfield 53, 3)) (kk : W p l e R s m args below meth c H locs cells slots Q (F0 m (pc + 3) ls (.int (σ h 15) :: rest))) : W p l e R s m args below meth c H locs cells slots Q (F0 m pc ls (.ref (w.2.2 h) :: rest)) := r_get S hK hR (ok_1 _ hh) inX1 (eC_1 _ hh w _) rfl 15 (by decide) (gt_at 212 (by decide +kernel) (by decide +kernel)) rfl hdg kk
theorem u1_53 {p : Program} {l : Launch} {e : Env} {R : Room} {s : State} {m : MethodId} {args : Array Value} {below : List Frame} {meth : Method} {c : Code} {H : Heap} {locs : List Loc} {cells slots : Nat} {Q : State → Prop} {cc : ByteArray} {pc nL : Nat} {ls : Array Slot} {rest : List Value} {w : WV} {σ σ' : Mem} (S : CallFix p m c cc nL s args gtbl RX1) (hK : KS LC w s) (hR : Rp EC LC w σ H) (hS : va_S (AW LC w) s.heap H locs) {h : Nat} (hh : h ∈ hourL) {x : Int32} (hm : σ' = mu σ h 15 x) (hdg : decode cc pc = .ok (.putfield 53, 3)) (kk : ∀ (H1 : Heap) (locs1 : List Loc), Rp EC LC w σ' H1 → va_S (AW LC w) s.heap H1 locs1 → W p l e R s m args below meth c H1 locs1 cells slots Q (F0 m (pc + 3) ls rest)) : W p l e R s m args below meth c H locs cells slots Q (F0 m pc ls (.int x :: .ref (w.2.2 h) :: rest)) := by
  subst hm
  exact r_put S hK hR hS (ok_1 _ hh) inX1 tyX1_ok nmX1 (eC_1 _ hh w _) rfl 15 (by decide) (gt_at 212 (by decide +kernel) (by decide +kernel)) rfl rfl rfl (Nat.le_of_ble_eq_true rfl) (eC_1 _ hh w _) hdg kk
theorem g1_56 {p : Program} {l : Launch} {e : Env} {R : Room} {s : State} {m : MethodId} {args : Array Value} {below : List Frame} {meth : Method} {c : Code} {H : Heap} {locs : List Loc} {cells slots : Nat} {Q : State → Prop} {cc : ByteArray} {pc nL : Nat} {ls : Array Slot} {rest : List Value} {w : WV} {σ : Mem} (S : CallFix p m c cc nL s args gtbl RX1) (hK : KS LC w s) (hR : Rp EC LC w σ H) {h : Nat} (hh : h ∈ hourL) (hdg : decode cc pc = .ok (.getfield 56, 3)) (kk : W p l e R s m args below meth c H locs cells slots Q (F0 m (pc + 3) ls (.int (σ h 16) :: rest))) : W p l e R s m args below meth c H locs cells slots Q (F0 m pc ls (.ref (w.2.2 h) :: rest)) := r_get S hK hR (ok_1 _ hh) inX1 (eC_1 _ hh w _) rfl 16 (by decide) (gt_at 213 (by decide +kernel) (by decide +kernel)) rfl hdg kk
theorem u1_56 {p : Program} {l : Launch} {e : Env} {R : Room} {s : State} {m : MethodId} {args : Array Value} {below : List Frame} {meth : Method} {c : Code} {H : Heap} {locs : List Loc} {cells slots : Nat} {Q : State → Prop} {cc : ByteArray} {pc nL : Nat} {ls : Array Slot} {rest : List Value} {w : WV} {σ σ' : Mem} (S : CallFix p m c cc nL s args gtbl RX1) (hK : KS LC w s) (hR : Rp EC LC w σ H) (hS : va_S (AW LC w) s.heap H locs) {h : Nat} (hh : h ∈ hourL) {x : Int32} (hm : σ' = mu σ h 16 x) (hdg : decode cc pc = .ok (.putfield 56, 3)) (kk : ∀ (H1 : Heap) (locs1 : List Loc), Rp EC LC w σ' H1 → va_S (AW LC w) s.heap H1 locs1 → W p l e R s m args below meth c H1 locs1 cells slots Q (F0 m (pc + 3) ls rest)) : W p l e R s m args below meth c H locs cells slots Q (F0 m pc ls (.int x :: .ref (w.2.2 h) :: rest)) := by
  subst hm
  exact r_put S hK hR hS (ok_1 _ hh) inX1 tyX1_ok nmX1 (eC_1 _ hh w _) rfl 16 (by decide) (gt_at 213 (by decide +kernel) (by decide +kernel)) rfl rfl rfl (Nat.le_of_ble_eq_true rfl) (eC_1 _ hh w _) hdg kk
theorem g1_59 {p : Program} {l : Launch} {e : Env} {R : Room} {s : State} {m : MethodId} {args : Array Value} {below : List Frame} {meth : Method} {c : Code} {H : Heap} {locs : List Loc} {cells slots : Nat} {Q : State → Prop} {cc : ByteArray} {pc nL : Nat} {ls : Array Slot} {rest : List Value} {w : WV} {σ : Mem} (S : CallFix p m c cc nL s args gtbl RX1) (hK : KS LC w s) (hR : Rp EC LC w σ H) {h : Nat} (hh : h ∈ hourL) (hdg : decode cc pc = .ok (.getfield 59, 3)) (kk : W p l e R s m args below meth c H locs cells slots Q (F0 m (pc + 3) ls (.int (σ h 17) :: rest))) : W p l e R s m args below meth c H locs cells slots Q (F0 m pc ls (.ref (w.2.2 h) :: rest)) := r_get S hK hR (ok_1 _ hh) inX1 (eC_1 _ hh w _) rfl 17 (by decide) (gt_at 214 (by decide +kernel) (by decide +kernel)) rfl hdg kk
theorem u1_59 {p : Program} {l : Launch} {e : Env} {R : Room} {s : State} {m : MethodId} {args : Array Value} {below : List Frame} {meth : Method} {c : Code} {H : Heap} {locs : List Loc} {cells slots : Nat} {Q : State → Prop} {cc : ByteArray} {pc nL : Nat} {ls : Array Slot} {rest : List Value} {w : WV} {σ σ' : Mem} (S : CallFix p m c cc nL s args gtbl RX1) (hK : KS LC w s) (hR : Rp EC LC w σ H) (hS : va_S (AW LC w) s.heap H locs) {h : Nat} (hh : h ∈ hourL) {x : Int32} (hm : σ' = mu σ h 17 x) (hdg : decode cc pc = .ok (.putfield 59, 3)) (kk : ∀ (H1 : Heap) (locs1 : List Loc), Rp EC LC w σ' H1 → va_S (AW LC w) s.heap H1 locs1 → W p l e R s m args below meth c H1 locs1 cells slots Q (F0 m (pc + 3) ls rest)) : W p l e R s m args below meth c H locs cells slots Q (F0 m pc ls (.int x :: .ref (w.2.2 h) :: rest)) := by
  subst hm
  exact r_put S hK hR hS (ok_1 _ hh) inX1 tyX1_ok nmX1 (eC_1 _ hh w _) rfl 17 (by decide) (gt_at 214 (by decide +kernel) (by decide +kernel)) rfl rfl rfl (Nat.le_of_ble_eq_true rfl) (eC_1 _ hh w _) hdg kk
theorem g1_62 {p : Program} {l : Launch} {e : Env} {R : Room} {s : State} {m : MethodId} {args : Array Value} {below : List Frame} {meth : Method} {c : Code} {H : Heap} {locs : List Loc} {cells slots : Nat} {Q : State → Prop} {cc : ByteArray} {pc nL : Nat} {ls : Array Slot} {rest : List Value} {w : WV} {σ : Mem} (S : CallFix p m c cc nL s args gtbl RX1) (hK : KS LC w s) (hR : Rp EC LC w σ H) {h : Nat} (hh : h ∈ hourL) (hdg : decode cc pc = .ok (.getfield 62, 3)) (kk : W p l e R s m args below meth c H locs cells slots Q (F0 m (pc + 3) ls (.int (σ h 18) :: rest))) : W p l e R s m args below meth c H locs cells slots Q (F0 m pc ls (.ref (w.2.2 h) :: rest)) := r_get S hK hR (ok_1 _ hh) inX1 (eC_1 _ hh w _) rfl 18 (by decide) (gt_at 215 (by decide +kernel) (by decide +kernel)) rfl hdg kk
theorem u1_62 {p : Program} {l : Launch} {e : Env} {R : Room} {s : State} {m : MethodId} {args : Array Value} {below : List Frame} {meth : Method} {c : Code} {H : Heap} {locs : List Loc} {cells slots : Nat} {Q : State → Prop} {cc : ByteArray} {pc nL : Nat} {ls : Array Slot} {rest : List Value} {w : WV} {σ σ' : Mem} (S : CallFix p m c cc nL s args gtbl RX1) (hK : KS LC w s) (hR : Rp EC LC w σ H) (hS : va_S (AW LC w) s.heap H locs) {h : Nat} (hh : h ∈ hourL) {x : Int32} (hb : x = 0 ∨ x = 1) (hm : σ' = mu σ h 18 x) (hdg : decode cc pc = .ok (.putfield 62, 3)) (kk : ∀ (H1 : Heap) (locs1 : List Loc), Rp EC LC w σ' H1 → va_S (AW LC w) s.heap H1 locs1 → W p l e R s m args below meth c H1 locs1 cells slots Q (F0 m (pc + 3) ls rest)) : W p l e R s m args below meth c H locs cells slots Q (F0 m pc ls (.int x :: .ref (w.2.2 h) :: rest)) := by
  subst hm
  exact r_put S hK hR hS (ok_1 _ hh) inX1 tyX1_ok nmX1 (eC_1 _ hh w _) rfl 18 (by decide) (gt_at 215 (by decide +kernel) (by decide +kernel)) rfl (nb_n hb) (nb_f hb) (Nat.le_of_ble_eq_true rfl) (eC_1 _ hh w _) hdg kk
theorem g1_65 {p : Program} {l : Launch} {e : Env} {R : Room} {s : State} {m : MethodId} {args : Array Value} {below : List Frame} {meth : Method} {c : Code} {H : Heap} {locs : List Loc} {cells slots : Nat} {Q : State → Prop} {cc : ByteArray} {pc nL : Nat} {ls : Array Slot} {rest : List Value} {w : WV} {σ : Mem} (S : CallFix p m c cc nL s args gtbl RX1) (hK : KS LC w s) (hR : Rp EC LC w σ H) {h : Nat} (hh : h ∈ hourL) (hdg : decode cc pc = .ok (.getfield 65, 3)) (kk : W p l e R s m args below meth c H locs cells slots Q (F0 m (pc + 3) ls (.ref (w.2.2 3) :: rest))) : W p l e R s m args below meth c H locs cells slots Q (F0 m pc ls (.ref (w.2.2 h) :: rest)) := r_get S hK hR (ok_1 _ hh) inX1 (eC_1 _ hh w _) rfl 0 (by decide) (gt_at 197 (by decide +kernel) (by decide +kernel)) rfl hdg kk
theorem g1_69 {p : Program} {l : Launch} {e : Env} {R : Room} {s : State} {m : MethodId} {args : Array Value} {below : List Frame} {meth : Method} {c : Code} {H : Heap} {locs : List Loc} {cells slots : Nat} {Q : State → Prop} {cc : ByteArray} {pc nL : Nat} {ls : Array Slot} {rest : List Value} {w : WV} {σ : Mem} (S : CallFix p m c cc nL s args gtbl RX1) (hK : KS LC w s) (hR : Rp EC LC w σ H) {h : Nat} (hh : h ∈ hourL) (hdg : decode cc pc = .ok (.getfield 69, 3)) (kk : W p l e R s m args below meth c H locs cells slots Q (F0 m (pc + 3) ls (.ref (w.2.2 (hst h)) :: rest))) : W p l e R s m args below meth c H locs cells slots Q (F0 m pc ls (.ref (w.2.2 h) :: rest)) := r_get S hK hR (ok_1 _ hh) inX1 (eC_1 _ hh w _) rfl 1 (by decide) (gt_at 198 (by decide +kernel) (by decide +kernel)) rfl hdg kk
theorem g1_95 {p : Program} {l : Launch} {e : Env} {R : Room} {s : State} {m : MethodId} {args : Array Value} {below : List Frame} {meth : Method} {c : Code} {H : Heap} {locs : List Loc} {cells slots : Nat} {Q : State → Prop} {cc : ByteArray} {pc nL : Nat} {ls : Array Slot} {rest : List Value} {w : WV} {σ : Mem} (S : CallFix p m c cc nL s args gtbl RX1) (hK : KS LC w s) (hR : Rp EC LC w σ H) {h : Nat} (hh : h ∈ bookL) {t : Nat} (ht : h + 1 = t) (hdg : decode cc pc = .ok (.getfield 95, 3)) (kk : W p l e R s m args below meth c H locs cells slots Q (F0 m (pc + 3) ls (.ref (w.2.2 t) :: rest))) : W p l e R s m args below meth c H locs cells slots Q (F0 m pc ls (.ref (w.2.2 h) :: rest)) := by subst ht; exact r_get S hK hR (ok_0 _ hh) inX0 (eC_0 _ hh w _) rfl 0 (by decide) (gt_at 142 (by decide +kernel) (by decide +kernel)) rfl hdg kk
theorem g1_174 {p : Program} {l : Launch} {e : Env} {R : Room} {s : State} {m : MethodId} {args : Array Value} {below : List Frame} {meth : Method} {c : Code} {H : Heap} {locs : List Loc} {cells slots : Nat} {Q : State → Prop} {cc : ByteArray} {pc nL : Nat} {ls : Array Slot} {rest : List Value} {w : WV} {σ : Mem} (S : CallFix p m c cc nL s args gtbl RX1) (hK : KS LC w s) (hR : Rp EC LC w σ H) {h : Nat} (hh : h ∈ bookL) {t : Nat} (ht : h + 4 = t) (hdg : decode cc pc = .ok (.getfield 174, 3)) (kk : W p l e R s m args below meth c H locs cells slots Q (F0 m (pc + 3) ls (.ref (w.2.2 t) :: rest))) : W p l e R s m args below meth c H locs cells slots Q (F0 m pc ls (.ref (w.2.2 h) :: rest)) := by subst ht; exact r_get S hK hR (ok_0 _ hh) inX0 (eC_0 _ hh w _) rfl 1 (by decide) (gt_at 145 (by decide +kernel) (by decide +kernel)) rfl hdg kk
theorem g2_9 {p : Program} {l : Launch} {e : Env} {R : Room} {s : State} {m : MethodId} {args : Array Value} {below : List Frame} {meth : Method} {c : Code} {H : Heap} {locs : List Loc} {cells slots : Nat} {Q : State → Prop} {cc : ByteArray} {pc nL : Nat} {ls : Array Slot} {rest : List Value} {w : WV} {σ : Mem} (S : CallFix p m c cc nL s args gtbl RX2) (hK : KS LC w s) (hR : Rp EC LC w σ H) {h : Nat} (hh : h ∈ pairsL) {t : Nat} (ht : h + 1 = t) (hdg : decode cc pc = .ok (.getfield 9, 3)) (kk : W p l e R s m args below meth c H locs cells slots Q (F0 m (pc + 3) ls (.ref (w.2.2 t) :: rest))) : W p l e R s m args below meth c H locs cells slots Q (F0 m pc ls (.ref (w.2.2 h) :: rest)) := by subst ht; exact r_get S hK hR (ok_2 _ hh) inX2 (eC_2 _ hh w _) rfl 0 (by decide) (gt_at 127 (by decide +kernel) (by decide +kernel)) rfl hdg kk
theorem g2_15 {p : Program} {l : Launch} {e : Env} {R : Room} {s : State} {m : MethodId} {args : Array Value} {below : List Frame} {meth : Method} {c : Code} {H : Heap} {locs : List Loc} {cells slots : Nat} {Q : State → Prop} {cc : ByteArray} {pc nL : Nat} {ls : Array Slot} {rest : List Value} {w : WV} {σ : Mem} (S : CallFix p m c cc nL s args gtbl RX2) (hK : KS LC w s) (hR : Rp EC LC w σ H) {h : Nat} (hh : h ∈ pairsL) {t : Nat} (ht : h + 2 = t) (hdg : decode cc pc = .ok (.getfield 15, 3)) (kk : W p l e R s m args below meth c H locs cells slots Q (F0 m (pc + 3) ls (.ref (w.2.2 t) :: rest))) : W p l e R s m args below meth c H locs cells slots Q (F0 m pc ls (.ref (w.2.2 h) :: rest)) := by subst ht; exact r_get S hK hR (ok_2 _ hh) inX2 (eC_2 _ hh w _) rfl 1 (by decide) (gt_at 128 (by decide +kernel) (by decide +kernel)) rfl hdg kk
theorem g2_18 {p : Program} {l : Launch} {e : Env} {R : Room} {s : State} {m : MethodId} {args : Array Value} {below : List Frame} {meth : Method} {c : Code} {H : Heap} {locs : List Loc} {cells slots : Nat} {Q : State → Prop} {cc : ByteArray} {pc nL : Nat} {ls : Array Slot} {rest : List Value} {w : WV} {σ : Mem} (S : CallFix p m c cc nL s args gtbl RX2) (hK : KS LC w s) (hR : Rp EC LC w σ H) {h : Nat} (hh : h ∈ pairsL) (hdg : decode cc pc = .ok (.getfield 18, 3)) (kk : W p l e R s m args below meth c H locs cells slots Q (F0 m (pc + 3) ls (.int (σ h 3) :: rest))) : W p l e R s m args below meth c H locs cells slots Q (F0 m pc ls (.ref (w.2.2 h) :: rest)) := r_get S hK hR (ok_2 _ hh) inX2 (eC_2 _ hh w _) rfl 3 (by decide) (gt_at 130 (by decide +kernel) (by decide +kernel)) rfl hdg kk
theorem u2_18 {p : Program} {l : Launch} {e : Env} {R : Room} {s : State} {m : MethodId} {args : Array Value} {below : List Frame} {meth : Method} {c : Code} {H : Heap} {locs : List Loc} {cells slots : Nat} {Q : State → Prop} {cc : ByteArray} {pc nL : Nat} {ls : Array Slot} {rest : List Value} {w : WV} {σ σ' : Mem} (S : CallFix p m c cc nL s args gtbl RX2) (hK : KS LC w s) (hR : Rp EC LC w σ H) (hS : va_S (AW LC w) s.heap H locs) {h : Nat} (hh : h ∈ pairsL) {x : Int32} (hm : σ' = mu σ h 3 x) (hdg : decode cc pc = .ok (.putfield 18, 3)) (kk : ∀ (H1 : Heap) (locs1 : List Loc), Rp EC LC w σ' H1 → va_S (AW LC w) s.heap H1 locs1 → W p l e R s m args below meth c H1 locs1 cells slots Q (F0 m (pc + 3) ls rest)) : W p l e R s m args below meth c H locs cells slots Q (F0 m pc ls (.int x :: .ref (w.2.2 h) :: rest)) := by
  subst hm
  exact r_put S hK hR hS (ok_2 _ hh) inX2 tyX2_ok nmX2 (eC_2 _ hh w _) rfl 3 (by decide) (gt_at 130 (by decide +kernel) (by decide +kernel)) rfl rfl rfl (Nat.le_of_ble_eq_true rfl) (eC_2 _ hh w _) hdg kk
theorem g2_28 {p : Program} {l : Launch} {e : Env} {R : Room} {s : State} {m : MethodId} {args : Array Value} {below : List Frame} {meth : Method} {c : Code} {H : Heap} {locs : List Loc} {cells slots : Nat} {Q : State → Prop} {cc : ByteArray} {pc nL : Nat} {ls : Array Slot} {rest : List Value} {w : WV} {σ : Mem} (S : CallFix p m c cc nL s args gtbl RX2) (hK : KS LC w s) (hR : Rp EC LC w σ H) {h : Nat} (hh : h ∈ pairsL) (hdg : decode cc pc = .ok (.getfield 28, 3)) (kk : W p l e R s m args below meth c H locs cells slots Q (F0 m (pc + 3) ls (.int (σ h 2) :: rest))) : W p l e R s m args below meth c H locs cells slots Q (F0 m pc ls (.ref (w.2.2 h) :: rest)) := r_get S hK hR (ok_2 _ hh) inX2 (eC_2 _ hh w _) rfl 2 (by decide) (gt_at 129 (by decide +kernel) (by decide +kernel)) rfl hdg kk
theorem g3_7 {p : Program} {l : Launch} {e : Env} {R : Room} {s : State} {m : MethodId} {args : Array Value} {below : List Frame} {meth : Method} {c : Code} {H : Heap} {locs : List Loc} {cells slots : Nat} {Q : State → Prop} {cc : ByteArray} {pc nL : Nat} {ls : Array Slot} {rest : List Value} {w : WV} {σ : Mem} (S : CallFix p m c cc nL s args gtbl RX3) (hK : KS LC w s) (hR : Rp EC LC w σ H) {h : Nat} (hh : h ∈ pileL) (hdg : decode cc pc = .ok (.getfield 7, 3)) (kk : W p l e R s m args below meth c H locs cells slots Q (F0 m (pc + 3) ls (.int (σ h 1) :: rest))) : W p l e R s m args below meth c H locs cells slots Q (F0 m pc ls (.ref (w.2.2 h) :: rest)) := r_get S hK hR (ok_3 _ hh) inX3 (eC_3 _ hh w _) rfl 1 (by decide) (gt_at 268 (by decide +kernel) (by decide +kernel)) rfl hdg kk
theorem u3_7 {p : Program} {l : Launch} {e : Env} {R : Room} {s : State} {m : MethodId} {args : Array Value} {below : List Frame} {meth : Method} {c : Code} {H : Heap} {locs : List Loc} {cells slots : Nat} {Q : State → Prop} {cc : ByteArray} {pc nL : Nat} {ls : Array Slot} {rest : List Value} {w : WV} {σ σ' : Mem} (S : CallFix p m c cc nL s args gtbl RX3) (hK : KS LC w s) (hR : Rp EC LC w σ H) (hS : va_S (AW LC w) s.heap H locs) {h : Nat} (hh : h ∈ pileL) {x : Int32} (hm : σ' = mu σ h 1 x) (hdg : decode cc pc = .ok (.putfield 7, 3)) (kk : ∀ (H1 : Heap) (locs1 : List Loc), Rp EC LC w σ' H1 → va_S (AW LC w) s.heap H1 locs1 → W p l e R s m args below meth c H1 locs1 cells slots Q (F0 m (pc + 3) ls rest)) : W p l e R s m args below meth c H locs cells slots Q (F0 m pc ls (.int x :: .ref (w.2.2 h) :: rest)) := by
  subst hm
  exact r_put S hK hR hS (ok_3 _ hh) inX3 tyX3_ok nmX3 (eC_3 _ hh w _) rfl 1 (by decide) (gt_at 268 (by decide +kernel) (by decide +kernel)) rfl rfl rfl (Nat.le_of_ble_eq_true rfl) (eC_3 _ hh w _) hdg kk
theorem g3_21 {p : Program} {l : Launch} {e : Env} {R : Room} {s : State} {m : MethodId} {args : Array Value} {below : List Frame} {meth : Method} {c : Code} {H : Heap} {locs : List Loc} {cells slots : Nat} {Q : State → Prop} {cc : ByteArray} {pc nL : Nat} {ls : Array Slot} {rest : List Value} {w : WV} {σ : Mem} (S : CallFix p m c cc nL s args gtbl RX3) (hK : KS LC w s) (hR : Rp EC LC w σ H) {h : Nat} (hh : h ∈ pileL) {t : Nat} (ht : h + 1 = t) (hdg : decode cc pc = .ok (.getfield 21, 3)) (kk : W p l e R s m args below meth c H locs cells slots Q (F0 m (pc + 3) ls (.ref (w.2.2 t) :: rest))) : W p l e R s m args below meth c H locs cells slots Q (F0 m pc ls (.ref (w.2.2 h) :: rest)) := by subst ht; exact r_get S hK hR (ok_3 _ hh) inX3 (eC_3 _ hh w _) rfl 0 (by decide) (gt_at 267 (by decide +kernel) (by decide +kernel)) rfl hdg kk
theorem g4_14 {p : Program} {l : Launch} {e : Env} {R : Room} {s : State} {m : MethodId} {args : Array Value} {below : List Frame} {meth : Method} {c : Code} {H : Heap} {locs : List Loc} {cells slots : Nat} {Q : State → Prop} {cc : ByteArray} {pc nL : Nat} {ls : Array Slot} {rest : List Value} {w : WV} {σ : Mem} (S : CallFix p m c cc nL s args gtbl RX4) (hK : KS LC w s) (hR : Rp EC LC w σ H) {h : Nat} (hh : h ∈ standL) {t : Nat} (ht : h + 1 = t) (hdg : decode cc pc = .ok (.getfield 14, 3)) (kk : W p l e R s m args below meth c H locs cells slots Q (F0 m (pc + 3) ls (.ref (w.2.2 t) :: rest))) : W p l e R s m args below meth c H locs cells slots Q (F0 m pc ls (.ref (w.2.2 h) :: rest)) := by subst ht; exact r_get S hK hR (ok_4 _ hh) inX4 (eC_4 _ hh w _) rfl 0 (by decide) (gt_at 182 (by decide +kernel) (by decide +kernel)) rfl hdg kk
theorem g4_20 {p : Program} {l : Launch} {e : Env} {R : Room} {s : State} {m : MethodId} {args : Array Value} {below : List Frame} {meth : Method} {c : Code} {H : Heap} {locs : List Loc} {cells slots : Nat} {Q : State → Prop} {cc : ByteArray} {pc nL : Nat} {ls : Array Slot} {rest : List Value} {w : WV} {σ : Mem} (S : CallFix p m c cc nL s args gtbl RX4) (hK : KS LC w s) (hR : Rp EC LC w σ H) {h : Nat} (hh : h ∈ standL) {t : Nat} (ht : h + 4 = t) (hdg : decode cc pc = .ok (.getfield 20, 3)) (kk : W p l e R s m args below meth c H locs cells slots Q (F0 m (pc + 3) ls (.ref (w.2.2 t) :: rest))) : W p l e R s m args below meth c H locs cells slots Q (F0 m pc ls (.ref (w.2.2 h) :: rest)) := by subst ht; exact r_get S hK hR (ok_4 _ hh) inX4 (eC_4 _ hh w _) rfl 1 (by decide) (gt_at 184 (by decide +kernel) (by decide +kernel)) rfl hdg kk
theorem g5_9 {p : Program} {l : Launch} {e : Env} {R : Room} {s : State} {m : MethodId} {args : Array Value} {below : List Frame} {meth : Method} {c : Code} {H : Heap} {locs : List Loc} {cells slots : Nat} {Q : State → Prop} {cc : ByteArray} {pc nL : Nat} {ls : Array Slot} {rest : List Value} {w : WV} {σ : Mem} (S : CallFix p m c cc nL s args gtbl RX5) (hK : KS LC w s) (hR : Rp EC LC w σ H) {h : Nat} (hh : h ∈ textL) {t : Nat} (ht : h + 1 = t) (hdg : decode cc pc = .ok (.getfield 9, 3)) (kk : W p l e R s m args below meth c H locs cells slots Q (F0 m (pc + 3) ls (.ref (w.2.2 t) :: rest))) : W p l e R s m args below meth c H locs cells slots Q (F0 m pc ls (.ref (w.2.2 h) :: rest)) := by subst ht; exact r_get S hK hR (ok_5 _ hh) inX5 (eC_5 _ hh w _) rfl 0 (by decide) (gt_at 101 (by decide +kernel) (by decide +kernel)) rfl hdg kk
theorem g5_15 {p : Program} {l : Launch} {e : Env} {R : Room} {s : State} {m : MethodId} {args : Array Value} {below : List Frame} {meth : Method} {c : Code} {H : Heap} {locs : List Loc} {cells slots : Nat} {Q : State → Prop} {cc : ByteArray} {pc nL : Nat} {ls : Array Slot} {rest : List Value} {w : WV} {σ : Mem} (S : CallFix p m c cc nL s args gtbl RX5) (hK : KS LC w s) (hR : Rp EC LC w σ H) {h : Nat} (hh : h ∈ textL) (hdg : decode cc pc = .ok (.getfield 15, 3)) (kk : W p l e R s m args below meth c H locs cells slots Q (F0 m (pc + 3) ls (.int (σ h 1) :: rest))) : W p l e R s m args below meth c H locs cells slots Q (F0 m pc ls (.ref (w.2.2 h) :: rest)) := r_get S hK hR (ok_5 _ hh) inX5 (eC_5 _ hh w _) rfl 1 (by decide) (gt_at 102 (by decide +kernel) (by decide +kernel)) rfl hdg kk
theorem u5_15 {p : Program} {l : Launch} {e : Env} {R : Room} {s : State} {m : MethodId} {args : Array Value} {below : List Frame} {meth : Method} {c : Code} {H : Heap} {locs : List Loc} {cells slots : Nat} {Q : State → Prop} {cc : ByteArray} {pc nL : Nat} {ls : Array Slot} {rest : List Value} {w : WV} {σ σ' : Mem} (S : CallFix p m c cc nL s args gtbl RX5) (hK : KS LC w s) (hR : Rp EC LC w σ H) (hS : va_S (AW LC w) s.heap H locs) {h : Nat} (hh : h ∈ textL) {x : Int32} (hm : σ' = mu σ h 1 x) (hdg : decode cc pc = .ok (.putfield 15, 3)) (kk : ∀ (H1 : Heap) (locs1 : List Loc), Rp EC LC w σ' H1 → va_S (AW LC w) s.heap H1 locs1 → W p l e R s m args below meth c H1 locs1 cells slots Q (F0 m (pc + 3) ls rest)) : W p l e R s m args below meth c H locs cells slots Q (F0 m pc ls (.int x :: .ref (w.2.2 h) :: rest)) := by
  subst hm
  exact r_put S hK hR hS (ok_5 _ hh) inX5 tyX5_ok nmX5 (eC_5 _ hh w _) rfl 1 (by decide) (gt_at 102 (by decide +kernel) (by decide +kernel)) rfl rfl rfl (Nat.le_of_ble_eq_true rfl) (eC_5 _ hh w _) hdg kk
theorem g5_19 {p : Program} {l : Launch} {e : Env} {R : Room} {s : State} {m : MethodId} {args : Array Value} {below : List Frame} {meth : Method} {c : Code} {H : Heap} {locs : List Loc} {cells slots : Nat} {Q : State → Prop} {cc : ByteArray} {pc nL : Nat} {ls : Array Slot} {rest : List Value} {w : WV} {σ : Mem} (S : CallFix p m c cc nL s args gtbl RX5) (hK : KS LC w s) (hR : Rp EC LC w σ H) {h : Nat} (hh : h ∈ textL) (hdg : decode cc pc = .ok (.getfield 19, 3)) (kk : W p l e R s m args below meth c H locs cells slots Q (F0 m (pc + 3) ls (.int (σ h 2) :: rest))) : W p l e R s m args below meth c H locs cells slots Q (F0 m pc ls (.ref (w.2.2 h) :: rest)) := r_get S hK hR (ok_5 _ hh) inX5 (eC_5 _ hh w _) rfl 2 (by decide) (gt_at 103 (by decide +kernel) (by decide +kernel)) rfl hdg kk
theorem u5_19 {p : Program} {l : Launch} {e : Env} {R : Room} {s : State} {m : MethodId} {args : Array Value} {below : List Frame} {meth : Method} {c : Code} {H : Heap} {locs : List Loc} {cells slots : Nat} {Q : State → Prop} {cc : ByteArray} {pc nL : Nat} {ls : Array Slot} {rest : List Value} {w : WV} {σ σ' : Mem} (S : CallFix p m c cc nL s args gtbl RX5) (hK : KS LC w s) (hR : Rp EC LC w σ H) (hS : va_S (AW LC w) s.heap H locs) {h : Nat} (hh : h ∈ textL) {x : Int32} (hm : σ' = mu σ h 2 x) (hdg : decode cc pc = .ok (.putfield 19, 3)) (kk : ∀ (H1 : Heap) (locs1 : List Loc), Rp EC LC w σ' H1 → va_S (AW LC w) s.heap H1 locs1 → W p l e R s m args below meth c H1 locs1 cells slots Q (F0 m (pc + 3) ls rest)) : W p l e R s m args below meth c H locs cells slots Q (F0 m pc ls (.int x :: .ref (w.2.2 h) :: rest)) := by
  subst hm
  exact r_put S hK hR hS (ok_5 _ hh) inX5 tyX5_ok nmX5 (eC_5 _ hh w _) rfl 2 (by decide) (gt_at 103 (by decide +kernel) (by decide +kernel)) rfl rfl rfl (Nat.le_of_ble_eq_true rfl) (eC_5 _ hh w _) hdg kk
theorem g6_10 {p : Program} {l : Launch} {e : Env} {R : Room} {s : State} {m : MethodId} {args : Array Value} {below : List Frame} {meth : Method} {c : Code} {H : Heap} {locs : List Loc} {cells slots : Nat} {Q : State → Prop} {cc : ByteArray} {pc nL : Nat} {ls : Array Slot} {rest : List Value} {w : WV} {σ : Mem} (S : CallFix p m c cc nL s args gtbl RX6) (hK : KS LC w s) (hR : Rp EC LC w σ H) (hdg : decode cc pc = .ok (.getfield 10, 3)) (kk : W p l e R s m args below meth c H locs cells slots Q (F0 m (pc + 3) ls (.ref (w.2.2 1) :: rest))) : W p l e R s m args below meth c H locs cells slots Q (F0 m pc ls (.ref (w.2.2 0) :: rest)) := r_get S hK hR (by decide) inX6 (eC_6 w _) rfl 0 (by decide) (gt_at 473 (by decide +kernel) (by decide +kernel)) rfl hdg kk
theorem g6_19 {p : Program} {l : Launch} {e : Env} {R : Room} {s : State} {m : MethodId} {args : Array Value} {below : List Frame} {meth : Method} {c : Code} {H : Heap} {locs : List Loc} {cells slots : Nat} {Q : State → Prop} {cc : ByteArray} {pc nL : Nat} {ls : Array Slot} {rest : List Value} {w : WV} {σ : Mem} (S : CallFix p m c cc nL s args gtbl RX6) (hK : KS LC w s) (hR : Rp EC LC w σ H) (hdg : decode cc pc = .ok (.getfield 19, 3)) (kk : W p l e R s m args below meth c H locs cells slots Q (F0 m (pc + 3) ls (.ref (w.2.2 3) :: rest))) : W p l e R s m args below meth c H locs cells slots Q (F0 m pc ls (.ref (w.2.2 0) :: rest)) := r_get S hK hR (by decide) inX6 (eC_6 w _) rfl 1 (by decide) (gt_at 474 (by decide +kernel) (by decide +kernel)) rfl hdg kk
theorem g6_23 {p : Program} {l : Launch} {e : Env} {R : Room} {s : State} {m : MethodId} {args : Array Value} {below : List Frame} {meth : Method} {c : Code} {H : Heap} {locs : List Loc} {cells slots : Nat} {Q : State → Prop} {cc : ByteArray} {pc nL : Nat} {ls : Array Slot} {rest : List Value} {w : WV} {σ : Mem} (S : CallFix p m c cc nL s args gtbl RX6) (hK : KS LC w s) (hR : Rp EC LC w σ H) (hdg : decode cc pc = .ok (.getfield 23, 3)) (kk : W p l e R s m args below meth c H locs cells slots Q (F0 m (pc + 3) ls (.ref (w.2.2 17) :: rest))) : W p l e R s m args below meth c H locs cells slots Q (F0 m pc ls (.ref (w.2.2 0) :: rest)) := r_get S hK hR (by decide) inX6 (eC_6 w _) rfl 2 (by decide) (gt_at 475 (by decide +kernel) (by decide +kernel)) rfl hdg kk
theorem g6_29 {p : Program} {l : Launch} {e : Env} {R : Room} {s : State} {m : MethodId} {args : Array Value} {below : List Frame} {meth : Method} {c : Code} {H : Heap} {locs : List Loc} {cells slots : Nat} {Q : State → Prop} {cc : ByteArray} {pc nL : Nat} {ls : Array Slot} {rest : List Value} {w : WV} {σ : Mem} (S : CallFix p m c cc nL s args gtbl RX6) (hK : KS LC w s) (hR : Rp EC LC w σ H) (hdg : decode cc pc = .ok (.getfield 29, 3)) (kk : W p l e R s m args below meth c H locs cells slots Q (F0 m (pc + 3) ls (.ref (w.2.2 31) :: rest))) : W p l e R s m args below meth c H locs cells slots Q (F0 m pc ls (.ref (w.2.2 0) :: rest)) := r_get S hK hR (by decide) inX6 (eC_6 w _) rfl 3 (by decide) (gt_at 476 (by decide +kernel) (by decide +kernel)) rfl hdg kk
theorem g6_33 {p : Program} {l : Launch} {e : Env} {R : Room} {s : State} {m : MethodId} {args : Array Value} {below : List Frame} {meth : Method} {c : Code} {H : Heap} {locs : List Loc} {cells slots : Nat} {Q : State → Prop} {cc : ByteArray} {pc nL : Nat} {ls : Array Slot} {rest : List Value} {w : WV} {σ : Mem} (S : CallFix p m c cc nL s args gtbl RX6) (hK : KS LC w s) (hR : Rp EC LC w σ H) (hdg : decode cc pc = .ok (.getfield 33, 3)) (kk : W p l e R s m args below meth c H locs cells slots Q (F0 m (pc + 3) ls (.ref (w.2.2 36) :: rest))) : W p l e R s m args below meth c H locs cells slots Q (F0 m pc ls (.ref (w.2.2 0) :: rest)) := r_get S hK hR (by decide) inX6 (eC_6 w _) rfl 4 (by decide) (gt_at 477 (by decide +kernel) (by decide +kernel)) rfl hdg kk
theorem g6_38 {p : Program} {l : Launch} {e : Env} {R : Room} {s : State} {m : MethodId} {args : Array Value} {below : List Frame} {meth : Method} {c : Code} {H : Heap} {locs : List Loc} {cells slots : Nat} {Q : State → Prop} {cc : ByteArray} {pc nL : Nat} {ls : Array Slot} {rest : List Value} {w : WV} {σ : Mem} (S : CallFix p m c cc nL s args gtbl RX6) (hK : KS LC w s) (hR : Rp EC LC w σ H) (hdg : decode cc pc = .ok (.getfield 38, 3)) (kk : W p l e R s m args below meth c H locs cells slots Q (F0 m (pc + 3) ls (.ref (w.2.2 41) :: rest))) : W p l e R s m args below meth c H locs cells slots Q (F0 m pc ls (.ref (w.2.2 0) :: rest)) := r_get S hK hR (by decide) inX6 (eC_6 w _) rfl 5 (by decide) (gt_at 478 (by decide +kernel) (by decide +kernel)) rfl hdg kk
theorem g6_45 {p : Program} {l : Launch} {e : Env} {R : Room} {s : State} {m : MethodId} {args : Array Value} {below : List Frame} {meth : Method} {c : Code} {H : Heap} {locs : List Loc} {cells slots : Nat} {Q : State → Prop} {cc : ByteArray} {pc nL : Nat} {ls : Array Slot} {rest : List Value} {w : WV} {σ : Mem} (S : CallFix p m c cc nL s args gtbl RX6) (hK : KS LC w s) (hR : Rp EC LC w σ H) (hdg : decode cc pc = .ok (.getfield 45, 3)) (kk : W p l e R s m args below meth c H locs cells slots Q (F0 m (pc + 3) ls (.ref (w.2.2 74) :: rest))) : W p l e R s m args below meth c H locs cells slots Q (F0 m pc ls (.ref (w.2.2 0) :: rest)) := r_get S hK hR (by decide) inX6 (eC_6 w _) rfl 6 (by decide) (gt_at 479 (by decide +kernel) (by decide +kernel)) rfl hdg kk
theorem g6_54 {p : Program} {l : Launch} {e : Env} {R : Room} {s : State} {m : MethodId} {args : Array Value} {below : List Frame} {meth : Method} {c : Code} {H : Heap} {locs : List Loc} {cells slots : Nat} {Q : State → Prop} {cc : ByteArray} {pc nL : Nat} {ls : Array Slot} {rest : List Value} {w : WV} {σ : Mem} (S : CallFix p m c cc nL s args gtbl RX6) (hK : KS LC w s) (hR : Rp EC LC w σ H) (hdg : decode cc pc = .ok (.getfield 54, 3)) (kk : W p l e R s m args below meth c H locs cells slots Q (F0 m (pc + 3) ls (.ref (w.2.2 82) :: rest))) : W p l e R s m args below meth c H locs cells slots Q (F0 m pc ls (.ref (w.2.2 0) :: rest)) := r_get S hK hR (by decide) inX6 (eC_6 w _) rfl 7 (by decide) (gt_at 480 (by decide +kernel) (by decide +kernel)) rfl hdg kk
theorem g6_58 {p : Program} {l : Launch} {e : Env} {R : Room} {s : State} {m : MethodId} {args : Array Value} {below : List Frame} {meth : Method} {c : Code} {H : Heap} {locs : List Loc} {cells slots : Nat} {Q : State → Prop} {cc : ByteArray} {pc nL : Nat} {ls : Array Slot} {rest : List Value} {w : WV} {σ : Mem} (S : CallFix p m c cc nL s args gtbl RX6) (hK : KS LC w s) (hR : Rp EC LC w σ H) (hdg : decode cc pc = .ok (.getfield 58, 3)) (kk : W p l e R s m args below meth c H locs cells slots Q (F0 m (pc + 3) ls (.ref (w.2.2 124) :: rest))) : W p l e R s m args below meth c H locs cells slots Q (F0 m pc ls (.ref (w.2.2 0) :: rest)) := r_get S hK hR (by decide) inX6 (eC_6 w _) rfl 8 (by decide) (gt_at 481 (by decide +kernel) (by decide +kernel)) rfl hdg kk
theorem g6_64 {p : Program} {l : Launch} {e : Env} {R : Room} {s : State} {m : MethodId} {args : Array Value} {below : List Frame} {meth : Method} {c : Code} {H : Heap} {locs : List Loc} {cells slots : Nat} {Q : State → Prop} {cc : ByteArray} {pc nL : Nat} {ls : Array Slot} {rest : List Value} {w : WV} {σ : Mem} (S : CallFix p m c cc nL s args gtbl RX6) (hK : KS LC w s) (hR : Rp EC LC w σ H) (hdg : decode cc pc = .ok (.getfield 64, 3)) (kk : W p l e R s m args below meth c H locs cells slots Q (F0 m (pc + 3) ls (.ref (w.2.2 136) :: rest))) : W p l e R s m args below meth c H locs cells slots Q (F0 m pc ls (.ref (w.2.2 0) :: rest)) := r_get S hK hR (by decide) inX6 (eC_6 w _) rfl 9 (by decide) (gt_at 482 (by decide +kernel) (by decide +kernel)) rfl hdg kk
theorem g6_68 {p : Program} {l : Launch} {e : Env} {R : Room} {s : State} {m : MethodId} {args : Array Value} {below : List Frame} {meth : Method} {c : Code} {H : Heap} {locs : List Loc} {cells slots : Nat} {Q : State → Prop} {cc : ByteArray} {pc nL : Nat} {ls : Array Slot} {rest : List Value} {w : WV} {σ : Mem} (S : CallFix p m c cc nL s args gtbl RX6) (hK : KS LC w s) (hR : Rp EC LC w σ H) (hdg : decode cc pc = .ok (.getfield 68, 3)) (kk : W p l e R s m args below meth c H locs cells slots Q (F0 m (pc + 3) ls (.int (σ 0 10) :: rest))) : W p l e R s m args below meth c H locs cells slots Q (F0 m pc ls (.ref (w.2.2 0) :: rest)) := r_get S hK hR (by decide) inX6 (eC_6 w _) rfl 10 (by decide) (gt_at 483 (by decide +kernel) (by decide +kernel)) rfl hdg kk
theorem u6_68 {p : Program} {l : Launch} {e : Env} {R : Room} {s : State} {m : MethodId} {args : Array Value} {below : List Frame} {meth : Method} {c : Code} {H : Heap} {locs : List Loc} {cells slots : Nat} {Q : State → Prop} {cc : ByteArray} {pc nL : Nat} {ls : Array Slot} {rest : List Value} {w : WV} {σ σ' : Mem} (S : CallFix p m c cc nL s args gtbl RX6) (hK : KS LC w s) (hR : Rp EC LC w σ H) (hS : va_S (AW LC w) s.heap H locs) {x : Int32} (hb : x = 0 ∨ x = 1) (hm : σ' = mu σ 0 10 x) (hdg : decode cc pc = .ok (.putfield 68, 3)) (kk : ∀ (H1 : Heap) (locs1 : List Loc), Rp EC LC w σ' H1 → va_S (AW LC w) s.heap H1 locs1 → W p l e R s m args below meth c H1 locs1 cells slots Q (F0 m (pc + 3) ls rest)) : W p l e R s m args below meth c H locs cells slots Q (F0 m pc ls (.int x :: .ref (w.2.2 0) :: rest)) := by
  subst hm
  exact r_put S hK hR hS (by decide) inX6 tyX6_ok nmX6 (eC_6 w _) rfl 10 (by decide) (gt_at 483 (by decide +kernel) (by decide +kernel)) rfl (nb_n hb) (nb_f hb) (Nat.le_of_ble_eq_true rfl) (eC_6 w _) hdg kk
theorem g6_72 {p : Program} {l : Launch} {e : Env} {R : Room} {s : State} {m : MethodId} {args : Array Value} {below : List Frame} {meth : Method} {c : Code} {H : Heap} {locs : List Loc} {cells slots : Nat} {Q : State → Prop} {cc : ByteArray} {pc nL : Nat} {ls : Array Slot} {rest : List Value} {w : WV} {σ : Mem} (S : CallFix p m c cc nL s args gtbl RX6) (hK : KS LC w s) (hR : Rp EC LC w σ H) (hdg : decode cc pc = .ok (.getfield 72, 3)) (kk : W p l e R s m args below meth c H locs cells slots Q (F0 m (pc + 3) ls (.int (σ 0 11) :: rest))) : W p l e R s m args below meth c H locs cells slots Q (F0 m pc ls (.ref (w.2.2 0) :: rest)) := r_get S hK hR (by decide) inX6 (eC_6 w _) rfl 11 (by decide) (gt_at 484 (by decide +kernel) (by decide +kernel)) rfl hdg kk
theorem u6_72 {p : Program} {l : Launch} {e : Env} {R : Room} {s : State} {m : MethodId} {args : Array Value} {below : List Frame} {meth : Method} {c : Code} {H : Heap} {locs : List Loc} {cells slots : Nat} {Q : State → Prop} {cc : ByteArray} {pc nL : Nat} {ls : Array Slot} {rest : List Value} {w : WV} {σ σ' : Mem} (S : CallFix p m c cc nL s args gtbl RX6) (hK : KS LC w s) (hR : Rp EC LC w σ H) (hS : va_S (AW LC w) s.heap H locs) {x : Int32} (hm : σ' = mu σ 0 11 x) (hdg : decode cc pc = .ok (.putfield 72, 3)) (kk : ∀ (H1 : Heap) (locs1 : List Loc), Rp EC LC w σ' H1 → va_S (AW LC w) s.heap H1 locs1 → W p l e R s m args below meth c H1 locs1 cells slots Q (F0 m (pc + 3) ls rest)) : W p l e R s m args below meth c H locs cells slots Q (F0 m pc ls (.int x :: .ref (w.2.2 0) :: rest)) := by
  subst hm
  exact r_put S hK hR hS (by decide) inX6 tyX6_ok nmX6 (eC_6 w _) rfl 11 (by decide) (gt_at 484 (by decide +kernel) (by decide +kernel)) rfl rfl rfl (Nat.le_of_ble_eq_true rfl) (eC_6 w _) hdg kk
theorem g6_76 {p : Program} {l : Launch} {e : Env} {R : Room} {s : State} {m : MethodId} {args : Array Value} {below : List Frame} {meth : Method} {c : Code} {H : Heap} {locs : List Loc} {cells slots : Nat} {Q : State → Prop} {cc : ByteArray} {pc nL : Nat} {ls : Array Slot} {rest : List Value} {w : WV} {σ : Mem} (S : CallFix p m c cc nL s args gtbl RX6) (hK : KS LC w s) (hR : Rp EC LC w σ H) (hdg : decode cc pc = .ok (.getfield 76, 3)) (kk : W p l e R s m args below meth c H locs cells slots Q (F0 m (pc + 3) ls (.int (σ 0 12) :: rest))) : W p l e R s m args below meth c H locs cells slots Q (F0 m pc ls (.ref (w.2.2 0) :: rest)) := r_get S hK hR (by decide) inX6 (eC_6 w _) rfl 12 (by decide) (gt_at 485 (by decide +kernel) (by decide +kernel)) rfl hdg kk
theorem u6_76 {p : Program} {l : Launch} {e : Env} {R : Room} {s : State} {m : MethodId} {args : Array Value} {below : List Frame} {meth : Method} {c : Code} {H : Heap} {locs : List Loc} {cells slots : Nat} {Q : State → Prop} {cc : ByteArray} {pc nL : Nat} {ls : Array Slot} {rest : List Value} {w : WV} {σ σ' : Mem} (S : CallFix p m c cc nL s args gtbl RX6) (hK : KS LC w s) (hR : Rp EC LC w σ H) (hS : va_S (AW LC w) s.heap H locs) {x : Int32} (hm : σ' = mu σ 0 12 x) (hdg : decode cc pc = .ok (.putfield 76, 3)) (kk : ∀ (H1 : Heap) (locs1 : List Loc), Rp EC LC w σ' H1 → va_S (AW LC w) s.heap H1 locs1 → W p l e R s m args below meth c H1 locs1 cells slots Q (F0 m (pc + 3) ls rest)) : W p l e R s m args below meth c H locs cells slots Q (F0 m pc ls (.int x :: .ref (w.2.2 0) :: rest)) := by
  subst hm
  exact r_put S hK hR hS (by decide) inX6 tyX6_ok nmX6 (eC_6 w _) rfl 12 (by decide) (gt_at 485 (by decide +kernel) (by decide +kernel)) rfl rfl rfl (Nat.le_of_ble_eq_true rfl) (eC_6 w _) hdg kk
theorem g6_113 {p : Program} {l : Launch} {e : Env} {R : Room} {s : State} {m : MethodId} {args : Array Value} {below : List Frame} {meth : Method} {c : Code} {H : Heap} {locs : List Loc} {cells slots : Nat} {Q : State → Prop} {cc : ByteArray} {pc nL : Nat} {ls : Array Slot} {rest : List Value} {w : WV} {σ : Mem} (S : CallFix p m c cc nL s args gtbl RX6) (hK : KS LC w s) (hR : Rp EC LC w σ H) {h : Nat} (hh : h ∈ bookL) {t : Nat} (ht : h + 1 = t) (hdg : decode cc pc = .ok (.getfield 113, 3)) (kk : W p l e R s m args below meth c H locs cells slots Q (F0 m (pc + 3) ls (.ref (w.2.2 t) :: rest))) : W p l e R s m args below meth c H locs cells slots Q (F0 m pc ls (.ref (w.2.2 h) :: rest)) := by subst ht; exact r_get S hK hR (ok_0 _ hh) inX0 (eC_0 _ hh w _) rfl 0 (by decide) (gt_at 141 (by decide +kernel) (by decide +kernel)) rfl hdg kk
theorem g6_136 {p : Program} {l : Launch} {e : Env} {R : Room} {s : State} {m : MethodId} {args : Array Value} {below : List Frame} {meth : Method} {c : Code} {H : Heap} {locs : List Loc} {cells slots : Nat} {Q : State → Prop} {cc : ByteArray} {pc nL : Nat} {ls : Array Slot} {rest : List Value} {w : WV} {σ : Mem} (S : CallFix p m c cc nL s args gtbl RX6) (hK : KS LC w s) (hR : Rp EC LC w σ H) {h : Nat} (hh : h ∈ bookL) {t : Nat} (ht : h + 4 = t) (hdg : decode cc pc = .ok (.getfield 136, 3)) (kk : W p l e R s m args below meth c H locs cells slots Q (F0 m (pc + 3) ls (.ref (w.2.2 t) :: rest))) : W p l e R s m args below meth c H locs cells slots Q (F0 m pc ls (.ref (w.2.2 h) :: rest)) := by subst ht; exact r_get S hK hR (ok_0 _ hh) inX0 (eC_0 _ hh w _) rfl 1 (by decide) (gt_at 144 (by decide +kernel) (by decide +kernel)) rfl hdg kk
theorem g6_178 {p : Program} {l : Launch} {e : Env} {R : Room} {s : State} {m : MethodId} {args : Array Value} {below : List Frame} {meth : Method} {c : Code} {H : Heap} {locs : List Loc} {cells slots : Nat} {Q : State → Prop} {cc : ByteArray} {pc nL : Nat} {ls : Array Slot} {rest : List Value} {w : WV} {σ : Mem} (S : CallFix p m c cc nL s args gtbl RX6) (hK : KS LC w s) (hR : Rp EC LC w σ H) {h : Nat} (hh : h ∈ standL) {t : Nat} (ht : h + 1 = t) (hdg : decode cc pc = .ok (.getfield 178, 3)) (kk : W p l e R s m args below meth c H locs cells slots Q (F0 m (pc + 3) ls (.ref (w.2.2 t) :: rest))) : W p l e R s m args below meth c H locs cells slots Q (F0 m pc ls (.ref (w.2.2 h) :: rest)) := by subst ht; exact r_get S hK hR (ok_4 _ hh) inX4 (eC_4 _ hh w _) rfl 0 (by decide) (gt_at 183 (by decide +kernel) (by decide +kernel)) rfl hdg kk
theorem g6_208 {p : Program} {l : Launch} {e : Env} {R : Room} {s : State} {m : MethodId} {args : Array Value} {below : List Frame} {meth : Method} {c : Code} {H : Heap} {locs : List Loc} {cells slots : Nat} {Q : State → Prop} {cc : ByteArray} {pc nL : Nat} {ls : Array Slot} {rest : List Value} {w : WV} {σ : Mem} (S : CallFix p m c cc nL s args gtbl RX6) (hK : KS LC w s) (hR : Rp EC LC w σ H) {h : Nat} (hh : h ∈ bookL) {t : Nat} (ht : h + 10 = t) (hdg : decode cc pc = .ok (.getfield 208, 3)) (kk : W p l e R s m args below meth c H locs cells slots Q (F0 m (pc + 3) ls (.ref (w.2.2 t) :: rest))) : W p l e R s m args below meth c H locs cells slots Q (F0 m pc ls (.ref (w.2.2 h) :: rest)) := by subst ht; exact r_get S hK hR (ok_0 _ hh) inX0 (eC_0 _ hh w _) rfl 3 (by decide) (gt_at 149 (by decide +kernel) (by decide +kernel)) rfl hdg kk
theorem g6_250 {p : Program} {l : Launch} {e : Env} {R : Room} {s : State} {m : MethodId} {args : Array Value} {below : List Frame} {meth : Method} {c : Code} {H : Heap} {locs : List Loc} {cells slots : Nat} {Q : State → Prop} {cc : ByteArray} {pc nL : Nat} {ls : Array Slot} {rest : List Value} {w : WV} {σ : Mem} (S : CallFix p m c cc nL s args gtbl RX6) (hK : KS LC w s) (hR : Rp EC LC w σ H) {h : Nat} (hh : h ∈ bookL) {t : Nat} (ht : h + 7 = t) (hdg : decode cc pc = .ok (.getfield 250, 3)) (kk : W p l e R s m args below meth c H locs cells slots Q (F0 m (pc + 3) ls (.ref (w.2.2 t) :: rest))) : W p l e R s m args below meth c H locs cells slots Q (F0 m pc ls (.ref (w.2.2 h) :: rest)) := by subst ht; exact r_get S hK hR (ok_0 _ hh) inX0 (eC_0 _ hh w _) rfl 2 (by decide) (gt_at 147 (by decide +kernel) (by decide +kernel)) rfl hdg kk
theorem g7_7 {p : Program} {l : Launch} {e : Env} {R : Room} {s : State} {m : MethodId} {args : Array Value} {below : List Frame} {meth : Method} {c : Code} {H : Heap} {locs : List Loc} {cells slots : Nat} {Q : State → Prop} {cc : ByteArray} {pc nL : Nat} {ls : Array Slot} {rest : List Value} {w : WV} {σ : Mem} (S : CallFix p m c cc nL s args gtbl RX7) (hK : KS LM w s) (hR : Rp EM LM w σ H) (hdg : decode cc pc = .ok (.getfield 7, 3)) (kk : W p l e R s m args below meth c H locs cells slots Q (F0 m (pc + 3) ls (.ref (w.2.2 2) :: rest))) : W p l e R s m args below meth c H locs cells slots Q (F0 m pc ls (.ref (w.2.2 0) :: rest)) := r_get S hK hR (by decide) inX7 (eM_7 w _) rfl 1 (by decide) (gt_at 907 (by decide +kernel) (by decide +kernel)) rfl hdg kk
theorem g7_13 {p : Program} {l : Launch} {e : Env} {R : Room} {s : State} {m : MethodId} {args : Array Value} {below : List Frame} {meth : Method} {c : Code} {H : Heap} {locs : List Loc} {cells slots : Nat} {Q : State → Prop} {cc : ByteArray} {pc nL : Nat} {ls : Array Slot} {rest : List Value} {w : WV} {σ : Mem} (S : CallFix p m c cc nL s args gtbl RX7) (hK : KS LM w s) (hR : Rp EM LM w σ H) (hdg : decode cc pc = .ok (.getfield 13, 3)) (kk : W p l e R s m args below meth c H locs cells slots Q (F0 m (pc + 3) ls (.ref (w.2.2 3) :: rest))) : W p l e R s m args below meth c H locs cells slots Q (F0 m pc ls (.ref (w.2.2 0) :: rest)) := r_get S hK hR (by decide) inX7 (eM_7 w _) rfl 2 (by decide) (gt_at 908 (by decide +kernel) (by decide +kernel)) rfl hdg kk
theorem g7_16 {p : Program} {l : Launch} {e : Env} {R : Room} {s : State} {m : MethodId} {args : Array Value} {below : List Frame} {meth : Method} {c : Code} {H : Heap} {locs : List Loc} {cells slots : Nat} {Q : State → Prop} {cc : ByteArray} {pc nL : Nat} {ls : Array Slot} {rest : List Value} {w : WV} {σ : Mem} (S : CallFix p m c cc nL s args gtbl RX7) (hK : KS LM w s) (hR : Rp EM LM w σ H) (hdg : decode cc pc = .ok (.getfield 16, 3)) (kk : W p l e R s m args below meth c H locs cells slots Q (F0 m (pc + 3) ls (.ref (w.2.2 4) :: rest))) : W p l e R s m args below meth c H locs cells slots Q (F0 m pc ls (.ref (w.2.2 0) :: rest)) := r_get S hK hR (by decide) inX7 (eM_7 w _) rfl 3 (by decide) (gt_at 909 (by decide +kernel) (by decide +kernel)) rfl hdg kk
theorem g7_19 {p : Program} {l : Launch} {e : Env} {R : Room} {s : State} {m : MethodId} {args : Array Value} {below : List Frame} {meth : Method} {c : Code} {H : Heap} {locs : List Loc} {cells slots : Nat} {Q : State → Prop} {cc : ByteArray} {pc nL : Nat} {ls : Array Slot} {rest : List Value} {w : WV} {σ : Mem} (S : CallFix p m c cc nL s args gtbl RX7) (hK : KS LM w s) (hR : Rp EM LM w σ H) (hdg : decode cc pc = .ok (.getfield 19, 3)) (kk : W p l e R s m args below meth c H locs cells slots Q (F0 m (pc + 3) ls (.ref (w.2.2 5) :: rest))) : W p l e R s m args below meth c H locs cells slots Q (F0 m pc ls (.ref (w.2.2 0) :: rest)) := r_get S hK hR (by decide) inX7 (eM_7 w _) rfl 4 (by decide) (gt_at 910 (by decide +kernel) (by decide +kernel)) rfl hdg kk
theorem g7_22 {p : Program} {l : Launch} {e : Env} {R : Room} {s : State} {m : MethodId} {args : Array Value} {below : List Frame} {meth : Method} {c : Code} {H : Heap} {locs : List Loc} {cells slots : Nat} {Q : State → Prop} {cc : ByteArray} {pc nL : Nat} {ls : Array Slot} {rest : List Value} {w : WV} {σ : Mem} (S : CallFix p m c cc nL s args gtbl RX7) (hK : KS LM w s) (hR : Rp EM LM w σ H) (hdg : decode cc pc = .ok (.getfield 22, 3)) (kk : W p l e R s m args below meth c H locs cells slots Q (F0 m (pc + 3) ls (.ref (w.2.2 6) :: rest))) : W p l e R s m args below meth c H locs cells slots Q (F0 m pc ls (.ref (w.2.2 0) :: rest)) := r_get S hK hR (by decide) inX7 (eM_7 w _) rfl 5 (by decide) (gt_at 911 (by decide +kernel) (by decide +kernel)) rfl hdg kk
theorem g7_25 {p : Program} {l : Launch} {e : Env} {R : Room} {s : State} {m : MethodId} {args : Array Value} {below : List Frame} {meth : Method} {c : Code} {H : Heap} {locs : List Loc} {cells slots : Nat} {Q : State → Prop} {cc : ByteArray} {pc nL : Nat} {ls : Array Slot} {rest : List Value} {w : WV} {σ : Mem} (S : CallFix p m c cc nL s args gtbl RX7) (hK : KS LM w s) (hR : Rp EM LM w σ H) (hdg : decode cc pc = .ok (.getfield 25, 3)) (kk : W p l e R s m args below meth c H locs cells slots Q (F0 m (pc + 3) ls (.ref (w.2.2 7) :: rest))) : W p l e R s m args below meth c H locs cells slots Q (F0 m pc ls (.ref (w.2.2 0) :: rest)) := r_get S hK hR (by decide) inX7 (eM_7 w _) rfl 6 (by decide) (gt_at 912 (by decide +kernel) (by decide +kernel)) rfl hdg kk
theorem g7_28 {p : Program} {l : Launch} {e : Env} {R : Room} {s : State} {m : MethodId} {args : Array Value} {below : List Frame} {meth : Method} {c : Code} {H : Heap} {locs : List Loc} {cells slots : Nat} {Q : State → Prop} {cc : ByteArray} {pc nL : Nat} {ls : Array Slot} {rest : List Value} {w : WV} {σ : Mem} (S : CallFix p m c cc nL s args gtbl RX7) (hK : KS LM w s) (hR : Rp EM LM w σ H) (hdg : decode cc pc = .ok (.getfield 28, 3)) (kk : W p l e R s m args below meth c H locs cells slots Q (F0 m (pc + 3) ls (.ref (w.2.2 8) :: rest))) : W p l e R s m args below meth c H locs cells slots Q (F0 m pc ls (.ref (w.2.2 0) :: rest)) := r_get S hK hR (by decide) inX7 (eM_7 w _) rfl 7 (by decide) (gt_at 913 (by decide +kernel) (by decide +kernel)) rfl hdg kk
theorem g7_31 {p : Program} {l : Launch} {e : Env} {R : Room} {s : State} {m : MethodId} {args : Array Value} {below : List Frame} {meth : Method} {c : Code} {H : Heap} {locs : List Loc} {cells slots : Nat} {Q : State → Prop} {cc : ByteArray} {pc nL : Nat} {ls : Array Slot} {rest : List Value} {w : WV} {σ : Mem} (S : CallFix p m c cc nL s args gtbl RX7) (hK : KS LM w s) (hR : Rp EM LM w σ H) (hdg : decode cc pc = .ok (.getfield 31, 3)) (kk : W p l e R s m args below meth c H locs cells slots Q (F0 m (pc + 3) ls (.ref (w.2.2 9) :: rest))) : W p l e R s m args below meth c H locs cells slots Q (F0 m pc ls (.ref (w.2.2 0) :: rest)) := r_get S hK hR (by decide) inX7 (eM_7 w _) rfl 8 (by decide) (gt_at 914 (by decide +kernel) (by decide +kernel)) rfl hdg kk
theorem g7_34 {p : Program} {l : Launch} {e : Env} {R : Room} {s : State} {m : MethodId} {args : Array Value} {below : List Frame} {meth : Method} {c : Code} {H : Heap} {locs : List Loc} {cells slots : Nat} {Q : State → Prop} {cc : ByteArray} {pc nL : Nat} {ls : Array Slot} {rest : List Value} {w : WV} {σ : Mem} (S : CallFix p m c cc nL s args gtbl RX7) (hK : KS LM w s) (hR : Rp EM LM w σ H) (hdg : decode cc pc = .ok (.getfield 34, 3)) (kk : W p l e R s m args below meth c H locs cells slots Q (F0 m (pc + 3) ls (.ref (w.2.2 10) :: rest))) : W p l e R s m args below meth c H locs cells slots Q (F0 m pc ls (.ref (w.2.2 0) :: rest)) := r_get S hK hR (by decide) inX7 (eM_7 w _) rfl 9 (by decide) (gt_at 915 (by decide +kernel) (by decide +kernel)) rfl hdg kk
theorem g7_37 {p : Program} {l : Launch} {e : Env} {R : Room} {s : State} {m : MethodId} {args : Array Value} {below : List Frame} {meth : Method} {c : Code} {H : Heap} {locs : List Loc} {cells slots : Nat} {Q : State → Prop} {cc : ByteArray} {pc nL : Nat} {ls : Array Slot} {rest : List Value} {w : WV} {σ : Mem} (S : CallFix p m c cc nL s args gtbl RX7) (hK : KS LM w s) (hR : Rp EM LM w σ H) (hdg : decode cc pc = .ok (.getfield 37, 3)) (kk : W p l e R s m args below meth c H locs cells slots Q (F0 m (pc + 3) ls (.ref (w.2.2 11) :: rest))) : W p l e R s m args below meth c H locs cells slots Q (F0 m pc ls (.ref (w.2.2 0) :: rest)) := r_get S hK hR (by decide) inX7 (eM_7 w _) rfl 10 (by decide) (gt_at 916 (by decide +kernel) (by decide +kernel)) rfl hdg kk
theorem g7_40 {p : Program} {l : Launch} {e : Env} {R : Room} {s : State} {m : MethodId} {args : Array Value} {below : List Frame} {meth : Method} {c : Code} {H : Heap} {locs : List Loc} {cells slots : Nat} {Q : State → Prop} {cc : ByteArray} {pc nL : Nat} {ls : Array Slot} {rest : List Value} {w : WV} {σ : Mem} (S : CallFix p m c cc nL s args gtbl RX7) (hK : KS LM w s) (hR : Rp EM LM w σ H) (hdg : decode cc pc = .ok (.getfield 40, 3)) (kk : W p l e R s m args below meth c H locs cells slots Q (F0 m (pc + 3) ls (.ref (w.2.2 12) :: rest))) : W p l e R s m args below meth c H locs cells slots Q (F0 m pc ls (.ref (w.2.2 0) :: rest)) := r_get S hK hR (by decide) inX7 (eM_7 w _) rfl 11 (by decide) (gt_at 917 (by decide +kernel) (by decide +kernel)) rfl hdg kk
theorem g7_43 {p : Program} {l : Launch} {e : Env} {R : Room} {s : State} {m : MethodId} {args : Array Value} {below : List Frame} {meth : Method} {c : Code} {H : Heap} {locs : List Loc} {cells slots : Nat} {Q : State → Prop} {cc : ByteArray} {pc nL : Nat} {ls : Array Slot} {rest : List Value} {w : WV} {σ : Mem} (S : CallFix p m c cc nL s args gtbl RX7) (hK : KS LM w s) (hR : Rp EM LM w σ H) (hdg : decode cc pc = .ok (.getfield 43, 3)) (kk : W p l e R s m args below meth c H locs cells slots Q (F0 m (pc + 3) ls (.ref (w.2.2 13) :: rest))) : W p l e R s m args below meth c H locs cells slots Q (F0 m pc ls (.ref (w.2.2 0) :: rest)) := r_get S hK hR (by decide) inX7 (eM_7 w _) rfl 12 (by decide) (gt_at 918 (by decide +kernel) (by decide +kernel)) rfl hdg kk
theorem g7_46 {p : Program} {l : Launch} {e : Env} {R : Room} {s : State} {m : MethodId} {args : Array Value} {below : List Frame} {meth : Method} {c : Code} {H : Heap} {locs : List Loc} {cells slots : Nat} {Q : State → Prop} {cc : ByteArray} {pc nL : Nat} {ls : Array Slot} {rest : List Value} {w : WV} {σ : Mem} (S : CallFix p m c cc nL s args gtbl RX7) (hK : KS LM w s) (hR : Rp EM LM w σ H) (hdg : decode cc pc = .ok (.getfield 46, 3)) (kk : W p l e R s m args below meth c H locs cells slots Q (F0 m (pc + 3) ls (.ref (w.2.2 14) :: rest))) : W p l e R s m args below meth c H locs cells slots Q (F0 m pc ls (.ref (w.2.2 0) :: rest)) := r_get S hK hR (by decide) inX7 (eM_7 w _) rfl 13 (by decide) (gt_at 919 (by decide +kernel) (by decide +kernel)) rfl hdg kk
theorem g7_49 {p : Program} {l : Launch} {e : Env} {R : Room} {s : State} {m : MethodId} {args : Array Value} {below : List Frame} {meth : Method} {c : Code} {H : Heap} {locs : List Loc} {cells slots : Nat} {Q : State → Prop} {cc : ByteArray} {pc nL : Nat} {ls : Array Slot} {rest : List Value} {w : WV} {σ : Mem} (S : CallFix p m c cc nL s args gtbl RX7) (hK : KS LM w s) (hR : Rp EM LM w σ H) (hdg : decode cc pc = .ok (.getfield 49, 3)) (kk : W p l e R s m args below meth c H locs cells slots Q (F0 m (pc + 3) ls (.ref (w.2.2 15) :: rest))) : W p l e R s m args below meth c H locs cells slots Q (F0 m pc ls (.ref (w.2.2 0) :: rest)) := r_get S hK hR (by decide) inX7 (eM_7 w _) rfl 14 (by decide) (gt_at 920 (by decide +kernel) (by decide +kernel)) rfl hdg kk
theorem g7_52 {p : Program} {l : Launch} {e : Env} {R : Room} {s : State} {m : MethodId} {args : Array Value} {below : List Frame} {meth : Method} {c : Code} {H : Heap} {locs : List Loc} {cells slots : Nat} {Q : State → Prop} {cc : ByteArray} {pc nL : Nat} {ls : Array Slot} {rest : List Value} {w : WV} {σ : Mem} (S : CallFix p m c cc nL s args gtbl RX7) (hK : KS LM w s) (hR : Rp EM LM w σ H) (hdg : decode cc pc = .ok (.getfield 52, 3)) (kk : W p l e R s m args below meth c H locs cells slots Q (F0 m (pc + 3) ls (.ref (w.2.2 16) :: rest))) : W p l e R s m args below meth c H locs cells slots Q (F0 m pc ls (.ref (w.2.2 0) :: rest)) := r_get S hK hR (by decide) inX7 (eM_7 w _) rfl 15 (by decide) (gt_at 921 (by decide +kernel) (by decide +kernel)) rfl hdg kk
theorem g7_55 {p : Program} {l : Launch} {e : Env} {R : Room} {s : State} {m : MethodId} {args : Array Value} {below : List Frame} {meth : Method} {c : Code} {H : Heap} {locs : List Loc} {cells slots : Nat} {Q : State → Prop} {cc : ByteArray} {pc nL : Nat} {ls : Array Slot} {rest : List Value} {w : WV} {σ : Mem} (S : CallFix p m c cc nL s args gtbl RX7) (hK : KS LM w s) (hR : Rp EM LM w σ H) (hdg : decode cc pc = .ok (.getfield 55, 3)) (kk : W p l e R s m args below meth c H locs cells slots Q (F0 m (pc + 3) ls (.ref (w.2.2 17) :: rest))) : W p l e R s m args below meth c H locs cells slots Q (F0 m pc ls (.ref (w.2.2 0) :: rest)) := r_get S hK hR (by decide) inX7 (eM_7 w _) rfl 16 (by decide) (gt_at 922 (by decide +kernel) (by decide +kernel)) rfl hdg kk
theorem g7_58 {p : Program} {l : Launch} {e : Env} {R : Room} {s : State} {m : MethodId} {args : Array Value} {below : List Frame} {meth : Method} {c : Code} {H : Heap} {locs : List Loc} {cells slots : Nat} {Q : State → Prop} {cc : ByteArray} {pc nL : Nat} {ls : Array Slot} {rest : List Value} {w : WV} {σ : Mem} (S : CallFix p m c cc nL s args gtbl RX7) (hK : KS LM w s) (hR : Rp EM LM w σ H) (hdg : decode cc pc = .ok (.getfield 58, 3)) (kk : W p l e R s m args below meth c H locs cells slots Q (F0 m (pc + 3) ls (.ref (w.2.2 18) :: rest))) : W p l e R s m args below meth c H locs cells slots Q (F0 m pc ls (.ref (w.2.2 0) :: rest)) := r_get S hK hR (by decide) inX7 (eM_7 w _) rfl 17 (by decide) (gt_at 923 (by decide +kernel) (by decide +kernel)) rfl hdg kk
theorem g7_61 {p : Program} {l : Launch} {e : Env} {R : Room} {s : State} {m : MethodId} {args : Array Value} {below : List Frame} {meth : Method} {c : Code} {H : Heap} {locs : List Loc} {cells slots : Nat} {Q : State → Prop} {cc : ByteArray} {pc nL : Nat} {ls : Array Slot} {rest : List Value} {w : WV} {σ : Mem} (S : CallFix p m c cc nL s args gtbl RX7) (hK : KS LM w s) (hR : Rp EM LM w σ H) (hdg : decode cc pc = .ok (.getfield 61, 3)) (kk : W p l e R s m args below meth c H locs cells slots Q (F0 m (pc + 3) ls (.ref (w.2.2 20) :: rest))) : W p l e R s m args below meth c H locs cells slots Q (F0 m pc ls (.ref (w.2.2 0) :: rest)) := r_get S hK hR (by decide) inX7 (eM_7 w _) rfl 19 (by decide) (gt_at 925 (by decide +kernel) (by decide +kernel)) rfl hdg kk
theorem g7_64 {p : Program} {l : Launch} {e : Env} {R : Room} {s : State} {m : MethodId} {args : Array Value} {below : List Frame} {meth : Method} {c : Code} {H : Heap} {locs : List Loc} {cells slots : Nat} {Q : State → Prop} {cc : ByteArray} {pc nL : Nat} {ls : Array Slot} {rest : List Value} {w : WV} {σ : Mem} (S : CallFix p m c cc nL s args gtbl RX7) (hK : KS LM w s) (hR : Rp EM LM w σ H) (hdg : decode cc pc = .ok (.getfield 64, 3)) (kk : W p l e R s m args below meth c H locs cells slots Q (F0 m (pc + 3) ls (.ref (w.2.2 23) :: rest))) : W p l e R s m args below meth c H locs cells slots Q (F0 m pc ls (.ref (w.2.2 0) :: rest)) := r_get S hK hR (by decide) inX7 (eM_7 w _) rfl 22 (by decide) (gt_at 928 (by decide +kernel) (by decide +kernel)) rfl hdg kk
theorem g7_67 {p : Program} {l : Launch} {e : Env} {R : Room} {s : State} {m : MethodId} {args : Array Value} {below : List Frame} {meth : Method} {c : Code} {H : Heap} {locs : List Loc} {cells slots : Nat} {Q : State → Prop} {cc : ByteArray} {pc nL : Nat} {ls : Array Slot} {rest : List Value} {w : WV} {σ : Mem} (S : CallFix p m c cc nL s args gtbl RX7) (hK : KS LM w s) (hR : Rp EM LM w σ H) (hdg : decode cc pc = .ok (.getfield 67, 3)) (kk : W p l e R s m args below meth c H locs cells slots Q (F0 m (pc + 3) ls (.ref (w.2.2 24) :: rest))) : W p l e R s m args below meth c H locs cells slots Q (F0 m pc ls (.ref (w.2.2 0) :: rest)) := r_get S hK hR (by decide) inX7 (eM_7 w _) rfl 23 (by decide) (gt_at 929 (by decide +kernel) (by decide +kernel)) rfl hdg kk
theorem g7_70 {p : Program} {l : Launch} {e : Env} {R : Room} {s : State} {m : MethodId} {args : Array Value} {below : List Frame} {meth : Method} {c : Code} {H : Heap} {locs : List Loc} {cells slots : Nat} {Q : State → Prop} {cc : ByteArray} {pc nL : Nat} {ls : Array Slot} {rest : List Value} {w : WV} {σ : Mem} (S : CallFix p m c cc nL s args gtbl RX7) (hK : KS LM w s) (hR : Rp EM LM w σ H) (hdg : decode cc pc = .ok (.getfield 70, 3)) (kk : W p l e R s m args below meth c H locs cells slots Q (F0 m (pc + 3) ls (.ref (w.2.2 26) :: rest))) : W p l e R s m args below meth c H locs cells slots Q (F0 m pc ls (.ref (w.2.2 0) :: rest)) := r_get S hK hR (by decide) inX7 (eM_7 w _) rfl 25 (by decide) (gt_at 931 (by decide +kernel) (by decide +kernel)) rfl hdg kk
theorem g7_73 {p : Program} {l : Launch} {e : Env} {R : Room} {s : State} {m : MethodId} {args : Array Value} {below : List Frame} {meth : Method} {c : Code} {H : Heap} {locs : List Loc} {cells slots : Nat} {Q : State → Prop} {cc : ByteArray} {pc nL : Nat} {ls : Array Slot} {rest : List Value} {w : WV} {σ : Mem} (S : CallFix p m c cc nL s args gtbl RX7) (hK : KS LM w s) (hR : Rp EM LM w σ H) (hdg : decode cc pc = .ok (.getfield 73, 3)) (kk : W p l e R s m args below meth c H locs cells slots Q (F0 m (pc + 3) ls (.ref (w.2.2 27) :: rest))) : W p l e R s m args below meth c H locs cells slots Q (F0 m pc ls (.ref (w.2.2 0) :: rest)) := r_get S hK hR (by decide) inX7 (eM_7 w _) rfl 26 (by decide) (gt_at 932 (by decide +kernel) (by decide +kernel)) rfl hdg kk
theorem g7_76 {p : Program} {l : Launch} {e : Env} {R : Room} {s : State} {m : MethodId} {args : Array Value} {below : List Frame} {meth : Method} {c : Code} {H : Heap} {locs : List Loc} {cells slots : Nat} {Q : State → Prop} {cc : ByteArray} {pc nL : Nat} {ls : Array Slot} {rest : List Value} {w : WV} {σ : Mem} (S : CallFix p m c cc nL s args gtbl RX7) (hK : KS LM w s) (hR : Rp EM LM w σ H) (hdg : decode cc pc = .ok (.getfield 76, 3)) (kk : W p l e R s m args below meth c H locs cells slots Q (F0 m (pc + 3) ls (.ref (w.2.2 28) :: rest))) : W p l e R s m args below meth c H locs cells slots Q (F0 m pc ls (.ref (w.2.2 0) :: rest)) := r_get S hK hR (by decide) inX7 (eM_7 w _) rfl 27 (by decide) (gt_at 933 (by decide +kernel) (by decide +kernel)) rfl hdg kk
theorem g7_79 {p : Program} {l : Launch} {e : Env} {R : Room} {s : State} {m : MethodId} {args : Array Value} {below : List Frame} {meth : Method} {c : Code} {H : Heap} {locs : List Loc} {cells slots : Nat} {Q : State → Prop} {cc : ByteArray} {pc nL : Nat} {ls : Array Slot} {rest : List Value} {w : WV} {σ : Mem} (S : CallFix p m c cc nL s args gtbl RX7) (hK : KS LM w s) (hR : Rp EM LM w σ H) (hdg : decode cc pc = .ok (.getfield 79, 3)) (kk : W p l e R s m args below meth c H locs cells slots Q (F0 m (pc + 3) ls (.ref (w.2.2 29) :: rest))) : W p l e R s m args below meth c H locs cells slots Q (F0 m pc ls (.ref (w.2.2 0) :: rest)) := r_get S hK hR (by decide) inX7 (eM_7 w _) rfl 28 (by decide) (gt_at 934 (by decide +kernel) (by decide +kernel)) rfl hdg kk
theorem g7_82 {p : Program} {l : Launch} {e : Env} {R : Room} {s : State} {m : MethodId} {args : Array Value} {below : List Frame} {meth : Method} {c : Code} {H : Heap} {locs : List Loc} {cells slots : Nat} {Q : State → Prop} {cc : ByteArray} {pc nL : Nat} {ls : Array Slot} {rest : List Value} {w : WV} {σ : Mem} (S : CallFix p m c cc nL s args gtbl RX7) (hK : KS LM w s) (hR : Rp EM LM w σ H) (hdg : decode cc pc = .ok (.getfield 82, 3)) (kk : W p l e R s m args below meth c H locs cells slots Q (F0 m (pc + 3) ls (.ref (w.2.2 30) :: rest))) : W p l e R s m args below meth c H locs cells slots Q (F0 m pc ls (.ref (w.2.2 0) :: rest)) := r_get S hK hR (by decide) inX7 (eM_7 w _) rfl 29 (by decide) (gt_at 935 (by decide +kernel) (by decide +kernel)) rfl hdg kk
theorem g7_85 {p : Program} {l : Launch} {e : Env} {R : Room} {s : State} {m : MethodId} {args : Array Value} {below : List Frame} {meth : Method} {c : Code} {H : Heap} {locs : List Loc} {cells slots : Nat} {Q : State → Prop} {cc : ByteArray} {pc nL : Nat} {ls : Array Slot} {rest : List Value} {w : WV} {σ : Mem} (S : CallFix p m c cc nL s args gtbl RX7) (hK : KS LM w s) (hR : Rp EM LM w σ H) (hdg : decode cc pc = .ok (.getfield 85, 3)) (kk : W p l e R s m args below meth c H locs cells slots Q (F0 m (pc + 3) ls (.ref (w.2.2 31) :: rest))) : W p l e R s m args below meth c H locs cells slots Q (F0 m pc ls (.ref (w.2.2 0) :: rest)) := r_get S hK hR (by decide) inX7 (eM_7 w _) rfl 30 (by decide) (gt_at 936 (by decide +kernel) (by decide +kernel)) rfl hdg kk
theorem g7_88 {p : Program} {l : Launch} {e : Env} {R : Room} {s : State} {m : MethodId} {args : Array Value} {below : List Frame} {meth : Method} {c : Code} {H : Heap} {locs : List Loc} {cells slots : Nat} {Q : State → Prop} {cc : ByteArray} {pc nL : Nat} {ls : Array Slot} {rest : List Value} {w : WV} {σ : Mem} (S : CallFix p m c cc nL s args gtbl RX7) (hK : KS LM w s) (hR : Rp EM LM w σ H) (hdg : decode cc pc = .ok (.getfield 88, 3)) (kk : W p l e R s m args below meth c H locs cells slots Q (F0 m (pc + 3) ls (.ref (w.2.2 32) :: rest))) : W p l e R s m args below meth c H locs cells slots Q (F0 m pc ls (.ref (w.2.2 0) :: rest)) := r_get S hK hR (by decide) inX7 (eM_7 w _) rfl 31 (by decide) (gt_at 937 (by decide +kernel) (by decide +kernel)) rfl hdg kk
theorem g7_92 {p : Program} {l : Launch} {e : Env} {R : Room} {s : State} {m : MethodId} {args : Array Value} {below : List Frame} {meth : Method} {c : Code} {H : Heap} {locs : List Loc} {cells slots : Nat} {Q : State → Prop} {cc : ByteArray} {pc nL : Nat} {ls : Array Slot} {rest : List Value} {w : WV} {σ : Mem} (S : CallFix p m c cc nL s args gtbl RX7) (hK : KS LM w s) (hR : Rp EM LM w σ H) (hdg : decode cc pc = .ok (.getfield 92, 3)) (kk : W p l e R s m args below meth c H locs cells slots Q (F0 m (pc + 3) ls (.ref (w.2.2 38) :: rest))) : W p l e R s m args below meth c H locs cells slots Q (F0 m pc ls (.ref (w.2.2 0) :: rest)) := r_get S hK hR (by decide) inX7 (eM_7 w _) rfl 37 (by decide) (gt_at 943 (by decide +kernel) (by decide +kernel)) rfl hdg kk
theorem g7_117 {p : Program} {l : Launch} {e : Env} {R : Room} {s : State} {m : MethodId} {args : Array Value} {below : List Frame} {meth : Method} {c : Code} {H : Heap} {locs : List Loc} {cells slots : Nat} {Q : State → Prop} {cc : ByteArray} {pc nL : Nat} {ls : Array Slot} {rest : List Value} {w : WV} {σ : Mem} (S : CallFix p m c cc nL s args gtbl RX7) (hK : KS LM w s) (hR : Rp EM LM w σ H) (hdg : decode cc pc = .ok (.getfield 117, 3)) (kk : W p l e R s m args below meth c H locs cells slots Q (F0 m (pc + 3) ls (.int (σ 0 0) :: rest))) : W p l e R s m args below meth c H locs cells slots Q (F0 m pc ls (.ref (w.2.2 0) :: rest)) := r_get S hK hR (by decide) inX7 (eM_7 w _) rfl 0 (by decide) (gt_at 906 (by decide +kernel) (by decide +kernel)) rfl hdg kk
theorem u7_117 {p : Program} {l : Launch} {e : Env} {R : Room} {s : State} {m : MethodId} {args : Array Value} {below : List Frame} {meth : Method} {c : Code} {H : Heap} {locs : List Loc} {cells slots : Nat} {Q : State → Prop} {cc : ByteArray} {pc nL : Nat} {ls : Array Slot} {rest : List Value} {w : WV} {σ σ' : Mem} (S : CallFix p m c cc nL s args gtbl RX7) (hK : KS LM w s) (hR : Rp EM LM w σ H) (hS : va_S (AW LM w) s.heap H locs) {x : Int32} (hm : σ' = mu σ 0 0 x) (hdg : decode cc pc = .ok (.putfield 117, 3)) (kk : ∀ (H1 : Heap) (locs1 : List Loc), Rp EM LM w σ' H1 → va_S (AW LM w) s.heap H1 locs1 → W p l e R s m args below meth c H1 locs1 cells slots Q (F0 m (pc + 3) ls rest)) : W p l e R s m args below meth c H locs cells slots Q (F0 m pc ls (.int x :: .ref (w.2.2 0) :: rest)) := by
  subst hm
  exact r_put S hK hR hS (by decide) inX7 tyX7_ok nmX7 (eM_7 w _) rfl 0 (by decide) (gt_at 906 (by decide +kernel) (by decide +kernel)) rfl rfl rfl (Nat.le_of_ble_eq_true rfl) (eM_7 w _) hdg kk
theorem g7_121 {p : Program} {l : Launch} {e : Env} {R : Room} {s : State} {m : MethodId} {args : Array Value} {below : List Frame} {meth : Method} {c : Code} {H : Heap} {locs : List Loc} {cells slots : Nat} {Q : State → Prop} {cc : ByteArray} {pc nL : Nat} {ls : Array Slot} {rest : List Value} {w : WV} {σ : Mem} (S : CallFix p m c cc nL s args gtbl RX7) (hK : KS LM w s) (hR : Rp EM LM w σ H) (hdg : decode cc pc = .ok (.getfield 121, 3)) (kk : W p l e R s m args below meth c H locs cells slots Q (F0 m (pc + 3) ls (.int (σ 0 24) :: rest))) : W p l e R s m args below meth c H locs cells slots Q (F0 m pc ls (.ref (w.2.2 0) :: rest)) := r_get S hK hR (by decide) inX7 (eM_7 w _) rfl 24 (by decide) (gt_at 930 (by decide +kernel) (by decide +kernel)) rfl hdg kk
theorem u7_121 {p : Program} {l : Launch} {e : Env} {R : Room} {s : State} {m : MethodId} {args : Array Value} {below : List Frame} {meth : Method} {c : Code} {H : Heap} {locs : List Loc} {cells slots : Nat} {Q : State → Prop} {cc : ByteArray} {pc nL : Nat} {ls : Array Slot} {rest : List Value} {w : WV} {σ σ' : Mem} (S : CallFix p m c cc nL s args gtbl RX7) (hK : KS LM w s) (hR : Rp EM LM w σ H) (hS : va_S (AW LM w) s.heap H locs) {x : Int32} (hm : σ' = mu σ 0 24 x) (hdg : decode cc pc = .ok (.putfield 121, 3)) (kk : ∀ (H1 : Heap) (locs1 : List Loc), Rp EM LM w σ' H1 → va_S (AW LM w) s.heap H1 locs1 → W p l e R s m args below meth c H1 locs1 cells slots Q (F0 m (pc + 3) ls rest)) : W p l e R s m args below meth c H locs cells slots Q (F0 m pc ls (.int x :: .ref (w.2.2 0) :: rest)) := by
  subst hm
  exact r_put S hK hR hS (by decide) inX7 tyX7_ok nmX7 (eM_7 w _) rfl 24 (by decide) (gt_at 930 (by decide +kernel) (by decide +kernel)) rfl rfl rfl (Nat.le_of_ble_eq_true rfl) (eM_7 w _) hdg kk
theorem g7_159 {p : Program} {l : Launch} {e : Env} {R : Room} {s : State} {m : MethodId} {args : Array Value} {below : List Frame} {meth : Method} {c : Code} {H : Heap} {locs : List Loc} {cells slots : Nat} {Q : State → Prop} {cc : ByteArray} {pc nL : Nat} {ls : Array Slot} {rest : List Value} {w : WV} {σ : Mem} (S : CallFix p m c cc nL s args gtbl RX7) (hK : KS LM w s) (hR : Rp EM LM w σ H) (hdg : decode cc pc = .ok (.getfield 159, 3)) (kk : W p l e R s m args below meth c H locs cells slots Q (F0 m (pc + 3) ls (.int (σ 0 18) :: rest))) : W p l e R s m args below meth c H locs cells slots Q (F0 m pc ls (.ref (w.2.2 0) :: rest)) := r_get S hK hR (by decide) inX7 (eM_7 w _) rfl 18 (by decide) (gt_at 924 (by decide +kernel) (by decide +kernel)) rfl hdg kk
theorem u7_159 {p : Program} {l : Launch} {e : Env} {R : Room} {s : State} {m : MethodId} {args : Array Value} {below : List Frame} {meth : Method} {c : Code} {H : Heap} {locs : List Loc} {cells slots : Nat} {Q : State → Prop} {cc : ByteArray} {pc nL : Nat} {ls : Array Slot} {rest : List Value} {w : WV} {σ σ' : Mem} (S : CallFix p m c cc nL s args gtbl RX7) (hK : KS LM w s) (hR : Rp EM LM w σ H) (hS : va_S (AW LM w) s.heap H locs) {x : Int32} (hm : σ' = mu σ 0 18 x) (hdg : decode cc pc = .ok (.putfield 159, 3)) (kk : ∀ (H1 : Heap) (locs1 : List Loc), Rp EM LM w σ' H1 → va_S (AW LM w) s.heap H1 locs1 → W p l e R s m args below meth c H1 locs1 cells slots Q (F0 m (pc + 3) ls rest)) : W p l e R s m args below meth c H locs cells slots Q (F0 m pc ls (.int x :: .ref (w.2.2 0) :: rest)) := by
  subst hm
  exact r_put S hK hR hS (by decide) inX7 tyX7_ok nmX7 (eM_7 w _) rfl 18 (by decide) (gt_at 924 (by decide +kernel) (by decide +kernel)) rfl rfl rfl (Nat.le_of_ble_eq_true rfl) (eM_7 w _) hdg kk
theorem g7_162 {p : Program} {l : Launch} {e : Env} {R : Room} {s : State} {m : MethodId} {args : Array Value} {below : List Frame} {meth : Method} {c : Code} {H : Heap} {locs : List Loc} {cells slots : Nat} {Q : State → Prop} {cc : ByteArray} {pc nL : Nat} {ls : Array Slot} {rest : List Value} {w : WV} {σ : Mem} (S : CallFix p m c cc nL s args gtbl RX7) (hK : KS LM w s) (hR : Rp EM LM w σ H) (hdg : decode cc pc = .ok (.getfield 162, 3)) (kk : W p l e R s m args below meth c H locs cells slots Q (F0 m (pc + 3) ls (.int (σ 0 20) :: rest))) : W p l e R s m args below meth c H locs cells slots Q (F0 m pc ls (.ref (w.2.2 0) :: rest)) := r_get S hK hR (by decide) inX7 (eM_7 w _) rfl 20 (by decide) (gt_at 926 (by decide +kernel) (by decide +kernel)) rfl hdg kk
theorem u7_162 {p : Program} {l : Launch} {e : Env} {R : Room} {s : State} {m : MethodId} {args : Array Value} {below : List Frame} {meth : Method} {c : Code} {H : Heap} {locs : List Loc} {cells slots : Nat} {Q : State → Prop} {cc : ByteArray} {pc nL : Nat} {ls : Array Slot} {rest : List Value} {w : WV} {σ σ' : Mem} (S : CallFix p m c cc nL s args gtbl RX7) (hK : KS LM w s) (hR : Rp EM LM w σ H) (hS : va_S (AW LM w) s.heap H locs) {x : Int32} (hm : σ' = mu σ 0 20 x) (hdg : decode cc pc = .ok (.putfield 162, 3)) (kk : ∀ (H1 : Heap) (locs1 : List Loc), Rp EM LM w σ' H1 → va_S (AW LM w) s.heap H1 locs1 → W p l e R s m args below meth c H1 locs1 cells slots Q (F0 m (pc + 3) ls rest)) : W p l e R s m args below meth c H locs cells slots Q (F0 m pc ls (.int x :: .ref (w.2.2 0) :: rest)) := by
  subst hm
  exact r_put S hK hR hS (by decide) inX7 tyX7_ok nmX7 (eM_7 w _) rfl 20 (by decide) (gt_at 926 (by decide +kernel) (by decide +kernel)) rfl rfl rfl (Nat.le_of_ble_eq_true rfl) (eM_7 w _) hdg kk
theorem g7_165 {p : Program} {l : Launch} {e : Env} {R : Room} {s : State} {m : MethodId} {args : Array Value} {below : List Frame} {meth : Method} {c : Code} {H : Heap} {locs : List Loc} {cells slots : Nat} {Q : State → Prop} {cc : ByteArray} {pc nL : Nat} {ls : Array Slot} {rest : List Value} {w : WV} {σ : Mem} (S : CallFix p m c cc nL s args gtbl RX7) (hK : KS LM w s) (hR : Rp EM LM w σ H) (hdg : decode cc pc = .ok (.getfield 165, 3)) (kk : W p l e R s m args below meth c H locs cells slots Q (F0 m (pc + 3) ls (.int (σ 0 21) :: rest))) : W p l e R s m args below meth c H locs cells slots Q (F0 m pc ls (.ref (w.2.2 0) :: rest)) := r_get S hK hR (by decide) inX7 (eM_7 w _) rfl 21 (by decide) (gt_at 927 (by decide +kernel) (by decide +kernel)) rfl hdg kk
theorem u7_165 {p : Program} {l : Launch} {e : Env} {R : Room} {s : State} {m : MethodId} {args : Array Value} {below : List Frame} {meth : Method} {c : Code} {H : Heap} {locs : List Loc} {cells slots : Nat} {Q : State → Prop} {cc : ByteArray} {pc nL : Nat} {ls : Array Slot} {rest : List Value} {w : WV} {σ σ' : Mem} (S : CallFix p m c cc nL s args gtbl RX7) (hK : KS LM w s) (hR : Rp EM LM w σ H) (hS : va_S (AW LM w) s.heap H locs) {x : Int32} (hm : σ' = mu σ 0 21 x) (hdg : decode cc pc = .ok (.putfield 165, 3)) (kk : ∀ (H1 : Heap) (locs1 : List Loc), Rp EM LM w σ' H1 → va_S (AW LM w) s.heap H1 locs1 → W p l e R s m args below meth c H1 locs1 cells slots Q (F0 m (pc + 3) ls rest)) : W p l e R s m args below meth c H locs cells slots Q (F0 m pc ls (.int x :: .ref (w.2.2 0) :: rest)) := by
  subst hm
  exact r_put S hK hR hS (by decide) inX7 tyX7_ok nmX7 (eM_7 w _) rfl 21 (by decide) (gt_at 927 (by decide +kernel) (by decide +kernel)) rfl rfl rfl (Nat.le_of_ble_eq_true rfl) (eM_7 w _) hdg kk
theorem g7_182 {p : Program} {l : Launch} {e : Env} {R : Room} {s : State} {m : MethodId} {args : Array Value} {below : List Frame} {meth : Method} {c : Code} {H : Heap} {locs : List Loc} {cells slots : Nat} {Q : State → Prop} {cc : ByteArray} {pc nL : Nat} {ls : Array Slot} {rest : List Value} {w : WV} {σ : Mem} (S : CallFix p m c cc nL s args gtbl RX7) (hK : KS LM w s) (hR : Rp EM LM w σ H) (hdg : decode cc pc = .ok (.getfield 182, 3)) (kk : W p l e R s m args below meth c H locs cells slots Q (F0 m (pc + 3) ls (.int (σ 0 32) :: rest))) : W p l e R s m args below meth c H locs cells slots Q (F0 m pc ls (.ref (w.2.2 0) :: rest)) := r_get S hK hR (by decide) inX7 (eM_7 w _) rfl 32 (by decide) (gt_at 938 (by decide +kernel) (by decide +kernel)) rfl hdg kk
theorem u7_182 {p : Program} {l : Launch} {e : Env} {R : Room} {s : State} {m : MethodId} {args : Array Value} {below : List Frame} {meth : Method} {c : Code} {H : Heap} {locs : List Loc} {cells slots : Nat} {Q : State → Prop} {cc : ByteArray} {pc nL : Nat} {ls : Array Slot} {rest : List Value} {w : WV} {σ σ' : Mem} (S : CallFix p m c cc nL s args gtbl RX7) (hK : KS LM w s) (hR : Rp EM LM w σ H) (hS : va_S (AW LM w) s.heap H locs) {x : Int32} (hm : σ' = mu σ 0 32 x) (hdg : decode cc pc = .ok (.putfield 182, 3)) (kk : ∀ (H1 : Heap) (locs1 : List Loc), Rp EM LM w σ' H1 → va_S (AW LM w) s.heap H1 locs1 → W p l e R s m args below meth c H1 locs1 cells slots Q (F0 m (pc + 3) ls rest)) : W p l e R s m args below meth c H locs cells slots Q (F0 m pc ls (.int x :: .ref (w.2.2 0) :: rest)) := by
  subst hm
  exact r_put S hK hR hS (by decide) inX7 tyX7_ok nmX7 (eM_7 w _) rfl 32 (by decide) (gt_at 938 (by decide +kernel) (by decide +kernel)) rfl rfl rfl (Nat.le_of_ble_eq_true rfl) (eM_7 w _) hdg kk
theorem g7_185 {p : Program} {l : Launch} {e : Env} {R : Room} {s : State} {m : MethodId} {args : Array Value} {below : List Frame} {meth : Method} {c : Code} {H : Heap} {locs : List Loc} {cells slots : Nat} {Q : State → Prop} {cc : ByteArray} {pc nL : Nat} {ls : Array Slot} {rest : List Value} {w : WV} {σ : Mem} (S : CallFix p m c cc nL s args gtbl RX7) (hK : KS LM w s) (hR : Rp EM LM w σ H) (hdg : decode cc pc = .ok (.getfield 185, 3)) (kk : W p l e R s m args below meth c H locs cells slots Q (F0 m (pc + 3) ls (.int (σ 0 33) :: rest))) : W p l e R s m args below meth c H locs cells slots Q (F0 m pc ls (.ref (w.2.2 0) :: rest)) := r_get S hK hR (by decide) inX7 (eM_7 w _) rfl 33 (by decide) (gt_at 939 (by decide +kernel) (by decide +kernel)) rfl hdg kk
theorem u7_185 {p : Program} {l : Launch} {e : Env} {R : Room} {s : State} {m : MethodId} {args : Array Value} {below : List Frame} {meth : Method} {c : Code} {H : Heap} {locs : List Loc} {cells slots : Nat} {Q : State → Prop} {cc : ByteArray} {pc nL : Nat} {ls : Array Slot} {rest : List Value} {w : WV} {σ σ' : Mem} (S : CallFix p m c cc nL s args gtbl RX7) (hK : KS LM w s) (hR : Rp EM LM w σ H) (hS : va_S (AW LM w) s.heap H locs) {x : Int32} (hm : σ' = mu σ 0 33 x) (hdg : decode cc pc = .ok (.putfield 185, 3)) (kk : ∀ (H1 : Heap) (locs1 : List Loc), Rp EM LM w σ' H1 → va_S (AW LM w) s.heap H1 locs1 → W p l e R s m args below meth c H1 locs1 cells slots Q (F0 m (pc + 3) ls rest)) : W p l e R s m args below meth c H locs cells slots Q (F0 m pc ls (.int x :: .ref (w.2.2 0) :: rest)) := by
  subst hm
  exact r_put S hK hR hS (by decide) inX7 tyX7_ok nmX7 (eM_7 w _) rfl 33 (by decide) (gt_at 939 (by decide +kernel) (by decide +kernel)) rfl rfl rfl (Nat.le_of_ble_eq_true rfl) (eM_7 w _) hdg kk
theorem g7_188 {p : Program} {l : Launch} {e : Env} {R : Room} {s : State} {m : MethodId} {args : Array Value} {below : List Frame} {meth : Method} {c : Code} {H : Heap} {locs : List Loc} {cells slots : Nat} {Q : State → Prop} {cc : ByteArray} {pc nL : Nat} {ls : Array Slot} {rest : List Value} {w : WV} {σ : Mem} (S : CallFix p m c cc nL s args gtbl RX7) (hK : KS LM w s) (hR : Rp EM LM w σ H) (hdg : decode cc pc = .ok (.getfield 188, 3)) (kk : W p l e R s m args below meth c H locs cells slots Q (F0 m (pc + 3) ls (.int (σ 0 35) :: rest))) : W p l e R s m args below meth c H locs cells slots Q (F0 m pc ls (.ref (w.2.2 0) :: rest)) := r_get S hK hR (by decide) inX7 (eM_7 w _) rfl 35 (by decide) (gt_at 941 (by decide +kernel) (by decide +kernel)) rfl hdg kk
theorem u7_188 {p : Program} {l : Launch} {e : Env} {R : Room} {s : State} {m : MethodId} {args : Array Value} {below : List Frame} {meth : Method} {c : Code} {H : Heap} {locs : List Loc} {cells slots : Nat} {Q : State → Prop} {cc : ByteArray} {pc nL : Nat} {ls : Array Slot} {rest : List Value} {w : WV} {σ σ' : Mem} (S : CallFix p m c cc nL s args gtbl RX7) (hK : KS LM w s) (hR : Rp EM LM w σ H) (hS : va_S (AW LM w) s.heap H locs) {x : Int32} (hb : x = 0 ∨ x = 1) (hm : σ' = mu σ 0 35 x) (hdg : decode cc pc = .ok (.putfield 188, 3)) (kk : ∀ (H1 : Heap) (locs1 : List Loc), Rp EM LM w σ' H1 → va_S (AW LM w) s.heap H1 locs1 → W p l e R s m args below meth c H1 locs1 cells slots Q (F0 m (pc + 3) ls rest)) : W p l e R s m args below meth c H locs cells slots Q (F0 m pc ls (.int x :: .ref (w.2.2 0) :: rest)) := by
  subst hm
  exact r_put S hK hR hS (by decide) inX7 tyX7_ok nmX7 (eM_7 w _) rfl 35 (by decide) (gt_at 941 (by decide +kernel) (by decide +kernel)) rfl (nb_n hb) (nb_f hb) (Nat.le_of_ble_eq_true rfl) (eM_7 w _) hdg kk
theorem g7_192 {p : Program} {l : Launch} {e : Env} {R : Room} {s : State} {m : MethodId} {args : Array Value} {below : List Frame} {meth : Method} {c : Code} {H : Heap} {locs : List Loc} {cells slots : Nat} {Q : State → Prop} {cc : ByteArray} {pc nL : Nat} {ls : Array Slot} {rest : List Value} {w : WV} {σ : Mem} (S : CallFix p m c cc nL s args gtbl RX7) (hK : KS LM w s) (hR : Rp EM LM w σ H) (hdg : decode cc pc = .ok (.getfield 192, 3)) (kk : W p l e R s m args below meth c H locs cells slots Q (F0 m (pc + 3) ls (.int (σ 0 36) :: rest))) : W p l e R s m args below meth c H locs cells slots Q (F0 m pc ls (.ref (w.2.2 0) :: rest)) := r_get S hK hR (by decide) inX7 (eM_7 w _) rfl 36 (by decide) (gt_at 942 (by decide +kernel) (by decide +kernel)) rfl hdg kk
theorem u7_192 {p : Program} {l : Launch} {e : Env} {R : Room} {s : State} {m : MethodId} {args : Array Value} {below : List Frame} {meth : Method} {c : Code} {H : Heap} {locs : List Loc} {cells slots : Nat} {Q : State → Prop} {cc : ByteArray} {pc nL : Nat} {ls : Array Slot} {rest : List Value} {w : WV} {σ σ' : Mem} (S : CallFix p m c cc nL s args gtbl RX7) (hK : KS LM w s) (hR : Rp EM LM w σ H) (hS : va_S (AW LM w) s.heap H locs) {x : Int32} (hm : σ' = mu σ 0 36 x) (hdg : decode cc pc = .ok (.putfield 192, 3)) (kk : ∀ (H1 : Heap) (locs1 : List Loc), Rp EM LM w σ' H1 → va_S (AW LM w) s.heap H1 locs1 → W p l e R s m args below meth c H1 locs1 cells slots Q (F0 m (pc + 3) ls rest)) : W p l e R s m args below meth c H locs cells slots Q (F0 m pc ls (.int x :: .ref (w.2.2 0) :: rest)) := by
  subst hm
  exact r_put S hK hR hS (by decide) inX7 tyX7_ok nmX7 (eM_7 w _) rfl 36 (by decide) (gt_at 942 (by decide +kernel) (by decide +kernel)) rfl rfl rfl (Nat.le_of_ble_eq_true rfl) (eM_7 w _) hdg kk
theorem g7_217 {p : Program} {l : Launch} {e : Env} {R : Room} {s : State} {m : MethodId} {args : Array Value} {below : List Frame} {meth : Method} {c : Code} {H : Heap} {locs : List Loc} {cells slots : Nat} {Q : State → Prop} {cc : ByteArray} {pc nL : Nat} {ls : Array Slot} {rest : List Value} {w : WV} {σ : Mem} (S : CallFix p m c cc nL s args gtbl RX7) (hK : KS LM w s) (hR : Rp EM LM w σ H) (hdg : decode cc pc = .ok (.getfield 217, 3)) (kk : W p l e R s m args below meth c H locs cells slots Q (F0 m (pc + 3) ls (.int (σ 0 34) :: rest))) : W p l e R s m args below meth c H locs cells slots Q (F0 m pc ls (.ref (w.2.2 0) :: rest)) := r_get S hK hR (by decide) inX7 (eM_7 w _) rfl 34 (by decide) (gt_at 940 (by decide +kernel) (by decide +kernel)) rfl hdg kk
theorem u7_217 {p : Program} {l : Launch} {e : Env} {R : Room} {s : State} {m : MethodId} {args : Array Value} {below : List Frame} {meth : Method} {c : Code} {H : Heap} {locs : List Loc} {cells slots : Nat} {Q : State → Prop} {cc : ByteArray} {pc nL : Nat} {ls : Array Slot} {rest : List Value} {w : WV} {σ σ' : Mem} (S : CallFix p m c cc nL s args gtbl RX7) (hK : KS LM w s) (hR : Rp EM LM w σ H) (hS : va_S (AW LM w) s.heap H locs) {x : Int32} (hb : x = 0 ∨ x = 1) (hm : σ' = mu σ 0 34 x) (hdg : decode cc pc = .ok (.putfield 217, 3)) (kk : ∀ (H1 : Heap) (locs1 : List Loc), Rp EM LM w σ' H1 → va_S (AW LM w) s.heap H1 locs1 → W p l e R s m args below meth c H1 locs1 cells slots Q (F0 m (pc + 3) ls rest)) : W p l e R s m args below meth c H locs cells slots Q (F0 m pc ls (.int x :: .ref (w.2.2 0) :: rest)) := by
  subst hm
  exact r_put S hK hR hS (by decide) inX7 tyX7_ok nmX7 (eM_7 w _) rfl 34 (by decide) (gt_at 940 (by decide +kernel) (by decide +kernel)) rfl (nb_n hb) (nb_f hb) (Nat.le_of_ble_eq_true rfl) (eM_7 w _) hdg kk
end
section
/-! FourTenGatesModel.noHour(I)V -/
abbrev rm7_noHour : Room := { frames := 0, cells := 0, slots := 0, locals := 0 }
theorem d7_noHour_0 : decode cX7_noHour 0 = .ok (.aload_n 0, 1) := by decide +kernel
theorem d7_noHour_1 : decode cX7_noHour 1 = .ok (.getfield 13, 3) := by decide +kernel
theorem d7_noHour_4 : decode cX7_noHour 4 = .ok (.iload_n 1, 1) := by decide +kernel
theorem d7_noHour_5 : decode cX7_noHour 5 = .ok (.iconst 0, 1) := by decide +kernel
theorem d7_noHour_6 : decode cX7_noHour 6 = .ok (.iastore, 1) := by decide +kernel
theorem d7_noHour_7 : decode cX7_noHour 7 = .ok (.aload_n 0, 1) := by decide +kernel
theorem d7_noHour_8 : decode cX7_noHour 8 = .ok (.getfield 22, 3) := by decide +kernel
theorem d7_noHour_11 : decode cX7_noHour 11 = .ok (.iload_n 1, 1) := by decide +kernel
theorem d7_noHour_12 : decode cX7_noHour 12 = .ok (.iconst 0, 1) := by decide +kernel
theorem d7_noHour_13 : decode cX7_noHour 13 = .ok (.iastore, 1) := by decide +kernel
theorem d7_noHour_14 : decode cX7_noHour 14 = .ok (.aload_n 0, 1) := by decide +kernel
theorem d7_noHour_15 : decode cX7_noHour 15 = .ok (.getfield 37, 3) := by decide +kernel
theorem d7_noHour_18 : decode cX7_noHour 18 = .ok (.iload_n 1, 1) := by decide +kernel
theorem d7_noHour_19 : decode cX7_noHour 19 = .ok (.iconst 0, 1) := by decide +kernel
theorem d7_noHour_20 : decode cX7_noHour 20 = .ok (.iastore, 1) := by decide +kernel
theorem d7_noHour_21 : decode cX7_noHour 21 = .ok (.aload_n 0, 1) := by decide +kernel
theorem d7_noHour_22 : decode cX7_noHour 22 = .ok (.getfield 46, 3) := by decide +kernel
theorem d7_noHour_25 : decode cX7_noHour 25 = .ok (.iload_n 1, 1) := by decide +kernel
theorem d7_noHour_26 : decode cX7_noHour 26 = .ok (.iconst 0, 1) := by decide +kernel
theorem d7_noHour_27 : decode cX7_noHour 27 = .ok (.iastore, 1) := by decide +kernel
theorem d7_noHour_28 : decode cX7_noHour 28 = .ok (.aload_n 0, 1) := by decide +kernel
theorem d7_noHour_29 : decode cX7_noHour 29 = .ok (.getfield 31, 3) := by decide +kernel
theorem d7_noHour_32 : decode cX7_noHour 32 = .ok (.iconst 4, 1) := by decide +kernel
theorem d7_noHour_33 : decode cX7_noHour 33 = .ok (.iload_n 1, 1) := by decide +kernel
theorem d7_noHour_34 : decode cX7_noHour 34 = .ok (.imul, 1) := by decide +kernel
theorem d7_noHour_35 : decode cX7_noHour 35 = .ok (.iconst 4, 1) := by decide +kernel
theorem d7_noHour_36 : decode cX7_noHour 36 = .ok (.iastore, 1) := by decide +kernel
theorem d7_noHour_37 : decode cX7_noHour 37 = .ok (.aload_n 0, 1) := by decide +kernel
theorem d7_noHour_38 : decode cX7_noHour 38 = .ok (.getfield 31, 3) := by decide +kernel
theorem d7_noHour_41 : decode cX7_noHour 41 = .ok (.iconst 4, 1) := by decide +kernel
theorem d7_noHour_42 : decode cX7_noHour 42 = .ok (.iload_n 1, 1) := by decide +kernel
theorem d7_noHour_43 : decode cX7_noHour 43 = .ok (.imul, 1) := by decide +kernel
theorem d7_noHour_44 : decode cX7_noHour 44 = .ok (.iconst 1, 1) := by decide +kernel
theorem d7_noHour_45 : decode cX7_noHour 45 = .ok (.iadd, 1) := by decide +kernel
theorem d7_noHour_46 : decode cX7_noHour 46 = .ok (.bipush 20, 2) := by decide +kernel
theorem d7_noHour_48 : decode cX7_noHour 48 = .ok (.iastore, 1) := by decide +kernel
theorem d7_noHour_49 : decode cX7_noHour 49 = .ok (.aload_n 0, 1) := by decide +kernel
theorem d7_noHour_50 : decode cX7_noHour 50 = .ok (.getfield 31, 3) := by decide +kernel
theorem d7_noHour_53 : decode cX7_noHour 53 = .ok (.iconst 4, 1) := by decide +kernel
theorem d7_noHour_54 : decode cX7_noHour 54 = .ok (.iload_n 1, 1) := by decide +kernel
theorem d7_noHour_55 : decode cX7_noHour 55 = .ok (.imul, 1) := by decide +kernel
theorem d7_noHour_56 : decode cX7_noHour 56 = .ok (.iconst 2, 1) := by decide +kernel
theorem d7_noHour_57 : decode cX7_noHour 57 = .ok (.iadd, 1) := by decide +kernel
theorem d7_noHour_58 : decode cX7_noHour 58 = .ok (.bipush 60, 2) := by decide +kernel
theorem d7_noHour_60 : decode cX7_noHour 60 = .ok (.iastore, 1) := by decide +kernel
theorem d7_noHour_61 : decode cX7_noHour 61 = .ok (.aload_n 0, 1) := by decide +kernel
theorem d7_noHour_62 : decode cX7_noHour 62 = .ok (.getfield 31, 3) := by decide +kernel
theorem d7_noHour_65 : decode cX7_noHour 65 = .ok (.iconst 4, 1) := by decide +kernel
theorem d7_noHour_66 : decode cX7_noHour 66 = .ok (.iload_n 1, 1) := by decide +kernel
theorem d7_noHour_67 : decode cX7_noHour 67 = .ok (.imul, 1) := by decide +kernel
theorem d7_noHour_68 : decode cX7_noHour 68 = .ok (.iconst 3, 1) := by decide +kernel
theorem d7_noHour_69 : decode cX7_noHour 69 = .ok (.iadd, 1) := by decide +kernel
theorem d7_noHour_70 : decode cX7_noHour 70 = .ok (.bipush 30, 2) := by decide +kernel
theorem d7_noHour_72 : decode cX7_noHour 72 = .ok (.iastore, 1) := by decide +kernel
theorem d7_noHour_73 : decode cX7_noHour 73 = .ok (.iconst 0, 1) := by decide +kernel
theorem d7_noHour_74 : decode cX7_noHour 74 = .ok (.istore_n 2, 1) := by decide +kernel
theorem d7_noHour_75 : decode cX7_noHour 75 = .ok (.iload_n 2, 1) := by decide +kernel
theorem d7_noHour_76 : decode cX7_noHour 76 = .ok (.iconst 4, 1) := by decide +kernel
theorem d7_noHour_77 : decode cX7_noHour 77 = .ok (.if_icmp .ge 29, 3) := by decide +kernel
theorem d7_noHour_80 : decode cX7_noHour 80 = .ok (.aload_n 0, 1) := by decide +kernel
theorem d7_noHour_81 : decode cX7_noHour 81 = .ok (.getfield 34, 3) := by decide +kernel
theorem d7_noHour_84 : decode cX7_noHour 84 = .ok (.iconst 4, 1) := by decide +kernel
theorem d7_noHour_85 : decode cX7_noHour 85 = .ok (.iload_n 1, 1) := by decide +kernel
theorem d7_noHour_86 : decode cX7_noHour 86 = .ok (.imul, 1) := by decide +kernel
theorem d7_noHour_87 : decode cX7_noHour 87 = .ok (.iload_n 2, 1) := by decide +kernel
theorem d7_noHour_88 : decode cX7_noHour 88 = .ok (.iadd, 1) := by decide +kernel
theorem d7_noHour_89 : decode cX7_noHour 89 = .ok (.iload_n 2, 1) := by decide +kernel
theorem d7_noHour_90 : decode cX7_noHour 90 = .ok (.iconst 2, 1) := by decide +kernel
theorem d7_noHour_91 : decode cX7_noHour 91 = .ok (.if_icmp .ne 7, 3) := by decide +kernel
theorem d7_noHour_94 : decode cX7_noHour 94 = .ok (.iconst 5, 1) := by decide +kernel
theorem d7_noHour_95 : decode cX7_noHour 95 = .ok (.goto 4, 3) := by decide +kernel
theorem d7_noHour_98 : decode cX7_noHour 98 = .ok (.iconst 1, 1) := by decide +kernel
theorem d7_noHour_99 : decode cX7_noHour 99 = .ok (.iastore, 1) := by decide +kernel
theorem d7_noHour_100 : decode cX7_noHour 100 = .ok (.iinc 2 1, 3) := by decide +kernel
theorem d7_noHour_103 : decode cX7_noHour 103 = .ok (.goto (-28), 3) := by decide +kernel
theorem d7_noHour_106 : decode cX7_noHour 106 = .ok (.return_, 1) := by decide +kernel
def f7_noHour_b99 (k75 : Mem → Int32 → Int32 → Option Mem) (σ : Mem) (x1 : Int32) (x2 : Int32) (s1 : Int32) (s2 : Int32) : Option Mem := if ¬ (s1 < 0 ∨ 8 ≤ s1.toNatClampNeg) then (bm (mu σ 10 s1.toNatClampNeg s2) fun σ2 => k75 σ2 x1 (x2 + 1)) else none
set_option maxHeartbeats 4000000 in
set_option maxRecDepth 100000 in
theorem t7_noHour_b99 {p : Program} {l : Launch} {e : Env} {s : State} {m : MethodId} {args : Array Value} {below : List Frame} {meth : Method} {c : Code} {w : WV} {σ' : Mem} {k75 : Mem → Int32 → Int32 → Option Mem} (S : CallFix p m c cX7_noHour 3 s args gtbl RX7) (hr : meth.sig.returnType = none) (hlk : meth.locks = false) (hK : KS LM w s) (hk75 : ∀ (σ : Mem) (x1 : Int32) (x2 : Int32), k75 σ x1 x2 = some σ' → ∀ (H : Heap) (locs : List Loc), Rp EM LM w σ H → va_S (AW LM w) s.heap H locs → ∀ (ls : Array Slot), lv_has ls 3 [(0, .ref (w.2.2 0)), (1, .int x1), (2, .int x2)] → W p l e rm7_noHour s m args below meth c H locs 0 0 (MQ below (Qw EM LM w σ' none) args s 0 0 (AW LM w)) (F0 m 75 ls [])) : ∀ (σ : Mem) (x1 : Int32) (x2 : Int32) (s1 : Int32) (s2 : Int32), f7_noHour_b99 k75 σ x1 x2 s1 s2 = some σ' → ∀ (H : Heap) (locs : List Loc), Rp EM LM w σ H → va_S (AW LM w) s.heap H locs → ∀ (ls : Array Slot), lv_has ls 3 [(0, .ref (w.2.2 0)), (1, .int x1), (2, .int x2)] → W p l e rm7_noHour s m args below meth c H locs 0 0 (MQ below (Qw EM LM w σ' none) args s 0 0 (AW LM w)) (F0 m 99 ls [.int s2, .int s1, .ref (w.2.2 10)]) := by
  obtain ⟨hx, hb, hml, hown, hts⟩ := id S
  intro σ x1 x2 s1 s2 h0 H locs hR hS ls hl
  unfold f7_noHour_b99 at h0
  obtain ⟨hi1, h0⟩ := og_if h0
  obtain ⟨σ2, hm2, h0⟩ := og_m h0
  refine q_st S hK hR hS (by decide) (eM_109 w) hi1 rfl hm2 d7_noHour_99 (fun H locs hR hS => ?_)
  refine lv_iinc (v := x2 + 1) (lv' := [(2, .int (x2 + 1)), (0, .ref (w.2.2 0)), (1, .int x1)]) hx hb d7_noHour_100 hl (k := 2) rfl (ii1 _) (by decide) rfl (fun ls hl => ?_)
  refine lv_goto (tgt := 75) hx hb d7_noHour_103 (by decide) ?_
  exact hk75 σ2 x1 (x2 + 1) h0 _ _ hR hS _ (lv_sub hl [1, 2, 0] rfl)
def f7_noHour_b75 : Nat → Mem → Int32 → Int32 → Option Mem
  | 0, _, _, _ => none
  | n + 1, σ, x1, x2 => if 4 ≤ x2 then some σ else if x2 = 2 then f7_noHour_b99 (f7_noHour_b75 n) σ x1 x2 ((4 * x1) + x2) 5 else f7_noHour_b99 (f7_noHour_b75 n) σ x1 x2 ((4 * x1) + x2) 1
set_option maxHeartbeats 4000000 in
set_option maxRecDepth 100000 in
theorem t7_noHour_b75 {p : Program} {l : Launch} {e : Env} {s : State} {m : MethodId} {args : Array Value} {below : List Frame} {meth : Method} {c : Code} {w : WV} {σ' : Mem} (S : CallFix p m c cX7_noHour 3 s args gtbl RX7) (hr : meth.sig.returnType = none) (hlk : meth.locks = false) (hK : KS LM w s) : ∀ (n : Nat), ∀ (σ : Mem) (x1 : Int32) (x2 : Int32), f7_noHour_b75  n σ x1 x2 = some σ' → ∀ (H : Heap) (locs : List Loc), Rp EM LM w σ H → va_S (AW LM w) s.heap H locs → ∀ (ls : Array Slot), lv_has ls 3 [(0, .ref (w.2.2 0)), (1, .int x1), (2, .int x2)] → W p l e rm7_noHour s m args below meth c H locs 0 0 (MQ below (Qw EM LM w σ' none) args s 0 0 (AW LM w)) (F0 m 75 ls []) := by
  obtain ⟨hx, hb, hml, hown, hts⟩ := id S
  intro n
  induction n with
  | zero =>
    intro σ x1 x2 h0
    cases (show none = _ from h0)
  | succ n ih =>
    intro σ x1 x2 h0 H locs hR hS ls hl
    rw [f7_noHour_b75] at h0
    refine lv_iload_n hx hb d7_noHour_75 rfl (lv_at hl 2 rfl) ?_
    refine lv_iconst (v := 4) hx hb d7_noHour_76 (by decide) ?_
    refine lv_icmp_ge (tgt := 106) hx hb d7_noHour_77 (by decide) (fun hc1 => ?_) (fun hc1 => ?_)
    · have h0 := og_t hc1 h0
      exact q_vret S hr hlk hR hS h0 d7_noHour_106
    · have h0 := og_f hc1 h0
      refine lv_aload_n hx hb d7_noHour_80 rfl (lv_at hl 0 rfl) ?_
      refine g7_34 S hK hR d7_noHour_81 ?_
      refine lv_iconst (v := 4) hx hb d7_noHour_84 (by decide) ?_
      refine lv_iload_n hx hb d7_noHour_85 rfl (lv_at hl 1 rfl) ?_
      refine lv_imul hx hb d7_noHour_86 ?_
      refine lv_iload_n hx hb d7_noHour_87 rfl (lv_at hl 2 rfl) ?_
      refine lv_iadd hx hb d7_noHour_88 ?_
      refine lv_iload_n hx hb d7_noHour_89 rfl (lv_at hl 2 rfl) ?_
      refine lv_iconst (v := 2) hx hb d7_noHour_90 (by decide) ?_
      refine lv_icmp_ne (tgt := 98) hx hb d7_noHour_91 (by decide) (fun hc2 => ?_) (fun hc2 => ?_)
      · have h0 := og_f hc2 h0
        refine lv_iconst (v := 1) hx hb d7_noHour_98 (by decide) ?_
        exact t7_noHour_b99 S hr hlk hK ih σ x1 x2 ((4 * x1) + x2) 1 h0 _ _ hR hS _ (lv_sub hl [0, 1, 2] rfl)
      · have h0 := og_t hc2 h0
        refine lv_iconst (v := 5) hx hb d7_noHour_94 (by decide) ?_
        refine lv_goto (tgt := 99) hx hb d7_noHour_95 (by decide) ?_
        exact t7_noHour_b99 S hr hlk hK ih σ x1 x2 ((4 * x1) + x2) 5 h0 _ _ hR hS _ (lv_sub hl [0, 1, 2] rfl)
def f7_noHour (σ : Mem) (x1 : Int32) : Option Mem := if ¬ (x1 < 0 ∨ 2 ≤ x1.toNatClampNeg) then (bm (mu σ 3 x1.toNatClampNeg 0) fun σ2 => if ¬ (x1 < 0 ∨ 2 ≤ x1.toNatClampNeg) then (bm (mu σ2 6 x1.toNatClampNeg 0) fun σ4 => if ¬ (x1 < 0 ∨ 2 ≤ x1.toNatClampNeg) then (bm (mu σ4 11 x1.toNatClampNeg 0) fun σ6 => if ¬ (x1 < 0 ∨ 2 ≤ x1.toNatClampNeg) then (bm (mu σ6 14 x1.toNatClampNeg 0) fun σ8 => if ¬ (4 * x1 < 0 ∨ 8 ≤ (4 * x1).toNatClampNeg) then (bm (mu σ8 9 ((4 * x1).toNatClampNeg) 4) fun σ10 => if ¬ ((4 * x1) + 1 < 0 ∨ 8 ≤ ((4 * x1) + 1).toNatClampNeg) then (bm (mu σ10 9 (((4 * x1) + 1).toNatClampNeg) 20) fun σ12 => if ¬ ((4 * x1) + 2 < 0 ∨ 8 ≤ ((4 * x1) + 2).toNatClampNeg) then (bm (mu σ12 9 (((4 * x1) + 2).toNatClampNeg) 60) fun σ14 => if ¬ ((4 * x1) + 3 < 0 ∨ 8 ≤ ((4 * x1) + 3).toNatClampNeg) then (bm (mu σ14 9 (((4 * x1) + 3).toNatClampNeg) 30) fun σ16 => f7_noHour_b75 1000 σ16 x1 0) else none) else none) else none) else none) else none) else none) else none) else none
set_option maxHeartbeats 4000000 in
set_option maxRecDepth 100000 in
theorem c7_noHour (l : Launch) {w : WV} {σ : Mem} {x1 : Int32} {σ' : Mem} (h0 : f7_noHour σ x1 = some σ') : Met l yX7_noHour (wy yX7_noHour cX7_noHour 3 none) rm7_noHour (Pw EM LM w [.ref (w.2.2 0), .int x1] σ) (Qw EM LM w σ' none) 0 0 (AW LM w) := by
  refine mk_met (by decide) (Nat.le_of_ble_eq_true rfl) ?_
  intro p e s m below meth c S hr hlk hK hR ls hl
  obtain ⟨hx, hb, hml, hown, hts⟩ := id S
  have hl : lv_has ls 3 [(0, .ref (w.2.2 0)), (1, .int x1)] := hl
  have hS : va_S (AW LM w) s.heap s.heap [] := va_S.rf
  unfold f7_noHour at h0
  refine lv_aload_n hx hb d7_noHour_0 rfl (lv_at hl 0 rfl) ?_
  refine g7_13 S hK hR d7_noHour_1 ?_
  refine lv_iload_n hx hb d7_noHour_4 rfl (lv_at hl 1 rfl) ?_
  refine lv_iconst (v := 0) hx hb d7_noHour_5 (by decide) ?_
  obtain ⟨hi1, h0⟩ := og_if h0
  obtain ⟨σ2, hm2, h0⟩ := og_m h0
  refine q_st S hK hR hS (by decide) (eM_102 w) hi1 rfl hm2 d7_noHour_6 (fun H locs hR hS => ?_)
  refine lv_aload_n hx hb d7_noHour_7 rfl (lv_at hl 0 rfl) ?_
  refine g7_22 S hK hR d7_noHour_8 ?_
  refine lv_iload_n hx hb d7_noHour_11 rfl (lv_at hl 1 rfl) ?_
  refine lv_iconst (v := 0) hx hb d7_noHour_12 (by decide) ?_
  obtain ⟨hi3, h0⟩ := og_if h0
  obtain ⟨σ4, hm4, h0⟩ := og_m h0
  refine q_st S hK hR hS (by decide) (eM_105 w) hi3 rfl hm4 d7_noHour_13 (fun H locs hR hS => ?_)
  refine lv_aload_n hx hb d7_noHour_14 rfl (lv_at hl 0 rfl) ?_
  refine g7_37 S hK hR d7_noHour_15 ?_
  refine lv_iload_n hx hb d7_noHour_18 rfl (lv_at hl 1 rfl) ?_
  refine lv_iconst (v := 0) hx hb d7_noHour_19 (by decide) ?_
  obtain ⟨hi5, h0⟩ := og_if h0
  obtain ⟨σ6, hm6, h0⟩ := og_m h0
  refine q_st S hK hR hS (by decide) (eM_110 w) hi5 rfl hm6 d7_noHour_20 (fun H locs hR hS => ?_)
  refine lv_aload_n hx hb d7_noHour_21 rfl (lv_at hl 0 rfl) ?_
  refine g7_46 S hK hR d7_noHour_22 ?_
  refine lv_iload_n hx hb d7_noHour_25 rfl (lv_at hl 1 rfl) ?_
  refine lv_iconst (v := 0) hx hb d7_noHour_26 (by decide) ?_
  obtain ⟨hi7, h0⟩ := og_if h0
  obtain ⟨σ8, hm8, h0⟩ := og_m h0
  refine q_st S hK hR hS (by decide) (eM_113 w) hi7 rfl hm8 d7_noHour_27 (fun H locs hR hS => ?_)
  refine lv_aload_n hx hb d7_noHour_28 rfl (lv_at hl 0 rfl) ?_
  refine g7_31 S hK hR d7_noHour_29 ?_
  refine lv_iconst (v := 4) hx hb d7_noHour_32 (by decide) ?_
  refine lv_iload_n hx hb d7_noHour_33 rfl (lv_at hl 1 rfl) ?_
  refine lv_imul hx hb d7_noHour_34 ?_
  refine lv_iconst (v := 4) hx hb d7_noHour_35 (by decide) ?_
  obtain ⟨hi9, h0⟩ := og_if h0
  obtain ⟨σ10, hm10, h0⟩ := og_m h0
  refine q_st S hK hR hS (by decide) (eM_108 w) hi9 rfl hm10 d7_noHour_36 (fun H locs hR hS => ?_)
  refine lv_aload_n hx hb d7_noHour_37 rfl (lv_at hl 0 rfl) ?_
  refine g7_31 S hK hR d7_noHour_38 ?_
  refine lv_iconst (v := 4) hx hb d7_noHour_41 (by decide) ?_
  refine lv_iload_n hx hb d7_noHour_42 rfl (lv_at hl 1 rfl) ?_
  refine lv_imul hx hb d7_noHour_43 ?_
  refine lv_iconst (v := 1) hx hb d7_noHour_44 (by decide) ?_
  refine lv_iadd hx hb d7_noHour_45 ?_
  refine lv_bipush (v := 20) hx hb d7_noHour_46 (by decide) ?_
  obtain ⟨hi11, h0⟩ := og_if h0
  obtain ⟨σ12, hm12, h0⟩ := og_m h0
  refine q_st S hK hR hS (by decide) (eM_108 w) hi11 rfl hm12 d7_noHour_48 (fun H locs hR hS => ?_)
  refine lv_aload_n hx hb d7_noHour_49 rfl (lv_at hl 0 rfl) ?_
  refine g7_31 S hK hR d7_noHour_50 ?_
  refine lv_iconst (v := 4) hx hb d7_noHour_53 (by decide) ?_
  refine lv_iload_n hx hb d7_noHour_54 rfl (lv_at hl 1 rfl) ?_
  refine lv_imul hx hb d7_noHour_55 ?_
  refine lv_iconst (v := 2) hx hb d7_noHour_56 (by decide) ?_
  refine lv_iadd hx hb d7_noHour_57 ?_
  refine lv_bipush (v := 60) hx hb d7_noHour_58 (by decide) ?_
  obtain ⟨hi13, h0⟩ := og_if h0
  obtain ⟨σ14, hm14, h0⟩ := og_m h0
  refine q_st S hK hR hS (by decide) (eM_108 w) hi13 rfl hm14 d7_noHour_60 (fun H locs hR hS => ?_)
  refine lv_aload_n hx hb d7_noHour_61 rfl (lv_at hl 0 rfl) ?_
  refine g7_31 S hK hR d7_noHour_62 ?_
  refine lv_iconst (v := 4) hx hb d7_noHour_65 (by decide) ?_
  refine lv_iload_n hx hb d7_noHour_66 rfl (lv_at hl 1 rfl) ?_
  refine lv_imul hx hb d7_noHour_67 ?_
  refine lv_iconst (v := 3) hx hb d7_noHour_68 (by decide) ?_
  refine lv_iadd hx hb d7_noHour_69 ?_
  refine lv_bipush (v := 30) hx hb d7_noHour_70 (by decide) ?_
  obtain ⟨hi15, h0⟩ := og_if h0
  obtain ⟨σ16, hm16, h0⟩ := og_m h0
  refine q_st S hK hR hS (by decide) (eM_108 w) hi15 rfl hm16 d7_noHour_72 (fun H locs hR hS => ?_)
  refine lv_iconst (v := 0) hx hb d7_noHour_73 (by decide) ?_
  refine lv_istore_n (lv' := [(2, .int 0), (0, .ref (w.2.2 0)), (1, .int x1)]) hx hb d7_noHour_74 rfl hl (by decide) rfl (fun ls hl => ?_)
  exact t7_noHour_b75 S hr hlk hK 1000 σ16 x1 0 h0 _ _ hR hS _ (lv_sub hl [1, 2, 0] rfl)
set_option maxHeartbeats 4000000 in
set_option maxRecDepth 100000 in
theorem k7_95 {p : Program} {l : Launch} {e : Env} {R : Room} {s : State} {m : MethodId} {args : Array Value} {below : List Frame} {meth : Method} {c : Code} {H : Heap} {locs : List Loc} {cells slots : Nat} {Q : State → Prop} {cc : ByteArray} {pc nL : Nat} {ls : Array Slot} {rest : List Value} {w : WV} {σ : Mem} {x1 : Int32} {σ1 : Mem} (S : CallFix p m c cc nL s args gtbl RX7) (hK : KS LM w s) (hR : Rp EM LM w σ H) (hS : va_S (AW LM w) s.heap H locs) (h0 : f7_noHour σ x1 = some σ1) (hf : cells + 0 ≤ R.cells ∧ slots + 0 ≤ R.slots) (hRm : rm7_noHour.frames + 1 ≤ R.frames ∧ 8 + (3 + 11) + rm7_noHour.locals ≤ R.locals) (hl : ls.size = nL) (hW : (rest.map fun v => v.category).sum ≤ 8) (hdg : decode cc pc = .ok (.invokevirtual 95, 3)) (kk : ∀ (H1 : Heap) (locs1 : List Loc), Rp EM LM w σ1 H1 → va_S (AW LM w) s.heap H1 locs1 → W p l e R s m args below meth c H1 locs1 cells slots Q (F0 m (pc + 3) ls (rest))) : W p l e R s m args below meth c H locs cells slots Q (F0 m pc ls (.int x1 :: .ref (w.2.2 0) :: rest)) := r_end hS (run_V (n := 1) (As := [.int x1]) S hK hR (by decide) (eM_7 w _) rfl (gw_V (gt_at 890 (by decide +kernel) (by decide +kernel)) (gt_at 892 (by decide +kernel) (by decide +kernel)) (gt_at 38 (by decide +kernel) (by decide +kernel)) (gt_at 86 (by decide +kernel) (by decide +kernel)) (gt_at 893 (by decide +kernel) (by decide +kernel))) (by decide +kernel) rfl (c7_noHour l h0) ⟨rfl, rfl⟩ hRm hf hl rfl hW hdg) kk
/-! FourTenGatesModel.addTrain(III)V -/
abbrev rm7_addTrain : Room := { frames := 0, cells := 0, slots := 0, locals := 0 }
theorem d7_addTrain_0 : decode cX7_addTrain 0 = .ok (.aload_n 0, 1) := by decide +kernel
theorem d7_addTrain_1 : decode cX7_addTrain 1 = .ok (.getfield 16, 3) := by decide +kernel
theorem d7_addTrain_4 : decode cX7_addTrain 4 = .ok (.bipush 6, 2) := by decide +kernel
theorem d7_addTrain_6 : decode cX7_addTrain 6 = .ok (.iload_n 1, 1) := by decide +kernel
theorem d7_addTrain_7 : decode cX7_addTrain 7 = .ok (.imul, 1) := by decide +kernel
theorem d7_addTrain_8 : decode cX7_addTrain 8 = .ok (.aload_n 0, 1) := by decide +kernel
theorem d7_addTrain_9 : decode cX7_addTrain 9 = .ok (.getfield 13, 3) := by decide +kernel
theorem d7_addTrain_12 : decode cX7_addTrain 12 = .ok (.iload_n 1, 1) := by decide +kernel
theorem d7_addTrain_13 : decode cX7_addTrain 13 = .ok (.iaload, 1) := by decide +kernel
theorem d7_addTrain_14 : decode cX7_addTrain 14 = .ok (.iadd, 1) := by decide +kernel
theorem d7_addTrain_15 : decode cX7_addTrain 15 = .ok (.iload_n 2, 1) := by decide +kernel
theorem d7_addTrain_16 : decode cX7_addTrain 16 = .ok (.iastore, 1) := by decide +kernel
theorem d7_addTrain_17 : decode cX7_addTrain 17 = .ok (.aload_n 0, 1) := by decide +kernel
theorem d7_addTrain_18 : decode cX7_addTrain 18 = .ok (.getfield 19, 3) := by decide +kernel
theorem d7_addTrain_21 : decode cX7_addTrain 21 = .ok (.bipush 6, 2) := by decide +kernel
theorem d7_addTrain_23 : decode cX7_addTrain 23 = .ok (.iload_n 1, 1) := by decide +kernel
theorem d7_addTrain_24 : decode cX7_addTrain 24 = .ok (.imul, 1) := by decide +kernel
theorem d7_addTrain_25 : decode cX7_addTrain 25 = .ok (.aload_n 0, 1) := by decide +kernel
theorem d7_addTrain_26 : decode cX7_addTrain 26 = .ok (.getfield 13, 3) := by decide +kernel
theorem d7_addTrain_29 : decode cX7_addTrain 29 = .ok (.iload_n 1, 1) := by decide +kernel
theorem d7_addTrain_30 : decode cX7_addTrain 30 = .ok (.iaload, 1) := by decide +kernel
theorem d7_addTrain_31 : decode cX7_addTrain 31 = .ok (.iadd, 1) := by decide +kernel
theorem d7_addTrain_32 : decode cX7_addTrain 32 = .ok (.iload_n 3, 1) := by decide +kernel
theorem d7_addTrain_33 : decode cX7_addTrain 33 = .ok (.iastore, 1) := by decide +kernel
theorem d7_addTrain_34 : decode cX7_addTrain 34 = .ok (.aload_n 0, 1) := by decide +kernel
theorem d7_addTrain_35 : decode cX7_addTrain 35 = .ok (.getfield 13, 3) := by decide +kernel
theorem d7_addTrain_38 : decode cX7_addTrain 38 = .ok (.iload_n 1, 1) := by decide +kernel
theorem d7_addTrain_39 : decode cX7_addTrain 39 = .ok (.dup2, 1) := by decide +kernel
theorem d7_addTrain_40 : decode cX7_addTrain 40 = .ok (.iaload, 1) := by decide +kernel
theorem d7_addTrain_41 : decode cX7_addTrain 41 = .ok (.iconst 1, 1) := by decide +kernel
theorem d7_addTrain_42 : decode cX7_addTrain 42 = .ok (.iadd, 1) := by decide +kernel
theorem d7_addTrain_43 : decode cX7_addTrain 43 = .ok (.iastore, 1) := by decide +kernel
theorem d7_addTrain_44 : decode cX7_addTrain 44 = .ok (.return_, 1) := by decide +kernel
def f7_addTrain (σ : Mem) (x1 : Int32) (x2 : Int32) (x3 : Int32) : Option Mem := if ¬ (x1 < 0 ∨ 2 ≤ x1.toNatClampNeg) then if ¬ ((6 * x1) + (σ 3 x1.toNatClampNeg) < 0 ∨ 12 ≤ ((6 * x1) + (σ 3 x1.toNatClampNeg)).toNatClampNeg) then (bm (mu σ 4 (((6 * x1) + (σ 3 x1.toNatClampNeg)).toNatClampNeg) x2) fun σ3 => if ¬ (x1 < 0 ∨ 2 ≤ x1.toNatClampNeg) then if ¬ ((6 * x1) + (σ3 3 x1.toNatClampNeg) < 0 ∨ 12 ≤ ((6 * x1) + (σ3 3 x1.toNatClampNeg)).toNatClampNeg) then (bm (mu σ3 5 (((6 * x1) + (σ3 3 x1.toNatClampNeg)).toNatClampNeg) x3) fun σ6 => if ¬ (x1 < 0 ∨ 2 ≤ x1.toNatClampNeg) then if ¬ (x1 < 0 ∨ 2 ≤ x1.toNatClampNeg) then (bm (mu σ6 3 x1.toNatClampNeg ((σ6 3 x1.toNatClampNeg) + 1)) fun σ9 => some σ9) else none else none) else none else none) else none else none
set_option maxHeartbeats 4000000 in
set_option maxRecDepth 100000 in
theorem c7_addTrain (l : Launch) {w : WV} {σ : Mem} {x1 : Int32} {x2 : Int32} {x3 : Int32} {σ' : Mem} (h0 : f7_addTrain σ x1 x2 x3 = some σ') : Met l yX7_addTrain (wy yX7_addTrain cX7_addTrain 4 none) rm7_addTrain (Pw EM LM w [.ref (w.2.2 0), .int x1, .int x2, .int x3] σ) (Qw EM LM w σ' none) 0 0 (AW LM w) := by
  refine mk_met (by decide) (Nat.le_of_ble_eq_true rfl) ?_
  intro p e s m below meth c S hr hlk hK hR ls hl
  obtain ⟨hx, hb, hml, hown, hts⟩ := id S
  have hl : lv_has ls 4 [(0, .ref (w.2.2 0)), (1, .int x1), (2, .int x2), (3, .int x3)] := hl
  have hS : va_S (AW LM w) s.heap s.heap [] := va_S.rf
  unfold f7_addTrain at h0
  refine lv_aload_n hx hb d7_addTrain_0 rfl (lv_at hl 0 rfl) ?_
  refine g7_16 S hK hR d7_addTrain_1 ?_
  refine lv_bipush (v := 6) hx hb d7_addTrain_4 (by decide) ?_
  refine lv_iload_n hx hb d7_addTrain_6 rfl (lv_at hl 1 rfl) ?_
  refine lv_imul hx hb d7_addTrain_7 ?_
  refine lv_aload_n hx hb d7_addTrain_8 rfl (lv_at hl 0 rfl) ?_
  refine g7_13 S hK hR d7_addTrain_9 ?_
  refine lv_iload_n hx hb d7_addTrain_12 rfl (lv_at hl 1 rfl) ?_
  obtain ⟨hi1, h0⟩ := og_if h0
  refine q_ld (k := x1.toNatClampNeg) S hK hR (by decide) (eM_102 w _) hi1 rfl d7_addTrain_13 ?_
  refine lv_iadd hx hb d7_addTrain_14 ?_
  refine lv_iload_n hx hb d7_addTrain_15 rfl (lv_at hl 2 rfl) ?_
  obtain ⟨hi2, h0⟩ := og_if h0
  obtain ⟨σ3, hm3, h0⟩ := og_m h0
  refine q_st S hK hR hS (by decide) (eM_103 w) hi2 rfl hm3 d7_addTrain_16 (fun H locs hR hS => ?_)
  refine lv_aload_n hx hb d7_addTrain_17 rfl (lv_at hl 0 rfl) ?_
  refine g7_19 S hK hR d7_addTrain_18 ?_
  refine lv_bipush (v := 6) hx hb d7_addTrain_21 (by decide) ?_
  refine lv_iload_n hx hb d7_addTrain_23 rfl (lv_at hl 1 rfl) ?_
  refine lv_imul hx hb d7_addTrain_24 ?_
  refine lv_aload_n hx hb d7_addTrain_25 rfl (lv_at hl 0 rfl) ?_
  refine g7_13 S hK hR d7_addTrain_26 ?_
  refine lv_iload_n hx hb d7_addTrain_29 rfl (lv_at hl 1 rfl) ?_
  obtain ⟨hi4, h0⟩ := og_if h0
  refine q_ld (k := x1.toNatClampNeg) S hK hR (by decide) (eM_102 w _) hi4 rfl d7_addTrain_30 ?_
  refine lv_iadd hx hb d7_addTrain_31 ?_
  refine lv_iload_n hx hb d7_addTrain_32 rfl (lv_at hl 3 rfl) ?_
  obtain ⟨hi5, h0⟩ := og_if h0
  obtain ⟨σ6, hm6, h0⟩ := og_m h0
  refine q_st S hK hR hS (by decide) (eM_104 w) hi5 rfl hm6 d7_addTrain_33 (fun H locs hR hS => ?_)
  refine lv_aload_n hx hb d7_addTrain_34 rfl (lv_at hl 0 rfl) ?_
  refine g7_13 S hK hR d7_addTrain_35 ?_
  refine lv_iload_n hx hb d7_addTrain_38 rfl (lv_at hl 1 rfl) ?_
  refine lv_dup2_11 hx hb d7_addTrain_39 rfl rfl ?_
  obtain ⟨hi7, h0⟩ := og_if h0
  refine q_ld (k := x1.toNatClampNeg) S hK hR (by decide) (eM_102 w _) hi7 rfl d7_addTrain_40 ?_
  refine lv_iconst (v := 1) hx hb d7_addTrain_41 (by decide) ?_
  refine lv_iadd hx hb d7_addTrain_42 ?_
  obtain ⟨hi8, h0⟩ := og_if h0
  obtain ⟨σ9, hm9, h0⟩ := og_m h0
  refine q_st S hK hR hS (by decide) (eM_102 w) hi8 rfl hm9 d7_addTrain_43 (fun H locs hR hS => ?_)
  exact q_vret S hr hlk hR hS h0 d7_addTrain_44
set_option maxHeartbeats 4000000 in
set_option maxRecDepth 100000 in
theorem k7_99 {p : Program} {l : Launch} {e : Env} {R : Room} {s : State} {m : MethodId} {args : Array Value} {below : List Frame} {meth : Method} {c : Code} {H : Heap} {locs : List Loc} {cells slots : Nat} {Q : State → Prop} {cc : ByteArray} {pc nL : Nat} {ls : Array Slot} {rest : List Value} {w : WV} {σ : Mem} {x1 : Int32} {x2 : Int32} {x3 : Int32} {σ1 : Mem} (S : CallFix p m c cc nL s args gtbl RX7) (hK : KS LM w s) (hR : Rp EM LM w σ H) (hS : va_S (AW LM w) s.heap H locs) (h0 : f7_addTrain σ x1 x2 x3 = some σ1) (hf : cells + 0 ≤ R.cells ∧ slots + 0 ≤ R.slots) (hRm : rm7_addTrain.frames + 1 ≤ R.frames ∧ 8 + (4 + 11) + rm7_addTrain.locals ≤ R.locals) (hl : ls.size = nL) (hW : (rest.map fun v => v.category).sum ≤ 8) (hdg : decode cc pc = .ok (.invokevirtual 99, 3)) (kk : ∀ (H1 : Heap) (locs1 : List Loc), Rp EM LM w σ1 H1 → va_S (AW LM w) s.heap H1 locs1 → W p l e R s m args below meth c H1 locs1 cells slots Q (F0 m (pc + 3) ls (rest))) : W p l e R s m args below meth c H locs cells slots Q (F0 m pc ls (.int x3 :: .int x2 :: .int x1 :: .ref (w.2.2 0) :: rest)) := r_end hS (run_V (n := 3) (As := [.int x1, .int x2, .int x3]) S hK hR (by decide) (eM_7 w _) rfl (gw_V (gt_at 894 (by decide +kernel) (by decide +kernel)) (gt_at 896 (by decide +kernel) (by decide +kernel)) (gt_at 39 (by decide +kernel) (by decide +kernel)) (gt_at 86 (by decide +kernel) (by decide +kernel)) (gt_at 897 (by decide +kernel) (by decide +kernel))) (by decide +kernel) rfl (c7_addTrain l h0) ⟨rfl, rfl⟩ hRm hf hl rfl hW hdg) kk
/-! FourTenGatesModel.addUser(III)V -/
abbrev rm7_addUser : Room := { frames := 0, cells := 0, slots := 0, locals := 0 }
theorem d7_addUser_0 : decode cX7_addUser 0 = .ok (.aload_n 0, 1) := by decide +kernel
theorem d7_addUser_1 : decode cX7_addUser 1 = .ok (.getfield 25, 3) := by decide +kernel
theorem d7_addUser_4 : decode cX7_addUser 4 = .ok (.bipush 8, 2) := by decide +kernel
theorem d7_addUser_6 : decode cX7_addUser 6 = .ok (.iload_n 1, 1) := by decide +kernel
theorem d7_addUser_7 : decode cX7_addUser 7 = .ok (.imul, 1) := by decide +kernel
theorem d7_addUser_8 : decode cX7_addUser 8 = .ok (.aload_n 0, 1) := by decide +kernel
theorem d7_addUser_9 : decode cX7_addUser 9 = .ok (.getfield 22, 3) := by decide +kernel
theorem d7_addUser_12 : decode cX7_addUser 12 = .ok (.iload_n 1, 1) := by decide +kernel
theorem d7_addUser_13 : decode cX7_addUser 13 = .ok (.iaload, 1) := by decide +kernel
theorem d7_addUser_14 : decode cX7_addUser 14 = .ok (.iadd, 1) := by decide +kernel
theorem d7_addUser_15 : decode cX7_addUser 15 = .ok (.iload_n 2, 1) := by decide +kernel
theorem d7_addUser_16 : decode cX7_addUser 16 = .ok (.iastore, 1) := by decide +kernel
theorem d7_addUser_17 : decode cX7_addUser 17 = .ok (.aload_n 0, 1) := by decide +kernel
theorem d7_addUser_18 : decode cX7_addUser 18 = .ok (.getfield 28, 3) := by decide +kernel
theorem d7_addUser_21 : decode cX7_addUser 21 = .ok (.bipush 8, 2) := by decide +kernel
theorem d7_addUser_23 : decode cX7_addUser 23 = .ok (.iload_n 1, 1) := by decide +kernel
theorem d7_addUser_24 : decode cX7_addUser 24 = .ok (.imul, 1) := by decide +kernel
theorem d7_addUser_25 : decode cX7_addUser 25 = .ok (.aload_n 0, 1) := by decide +kernel
theorem d7_addUser_26 : decode cX7_addUser 26 = .ok (.getfield 22, 3) := by decide +kernel
theorem d7_addUser_29 : decode cX7_addUser 29 = .ok (.iload_n 1, 1) := by decide +kernel
theorem d7_addUser_30 : decode cX7_addUser 30 = .ok (.iaload, 1) := by decide +kernel
theorem d7_addUser_31 : decode cX7_addUser 31 = .ok (.iadd, 1) := by decide +kernel
theorem d7_addUser_32 : decode cX7_addUser 32 = .ok (.iload_n 3, 1) := by decide +kernel
theorem d7_addUser_33 : decode cX7_addUser 33 = .ok (.iastore, 1) := by decide +kernel
theorem d7_addUser_34 : decode cX7_addUser 34 = .ok (.aload_n 0, 1) := by decide +kernel
theorem d7_addUser_35 : decode cX7_addUser 35 = .ok (.getfield 22, 3) := by decide +kernel
theorem d7_addUser_38 : decode cX7_addUser 38 = .ok (.iload_n 1, 1) := by decide +kernel
theorem d7_addUser_39 : decode cX7_addUser 39 = .ok (.dup2, 1) := by decide +kernel
theorem d7_addUser_40 : decode cX7_addUser 40 = .ok (.iaload, 1) := by decide +kernel
theorem d7_addUser_41 : decode cX7_addUser 41 = .ok (.iconst 1, 1) := by decide +kernel
theorem d7_addUser_42 : decode cX7_addUser 42 = .ok (.iadd, 1) := by decide +kernel
theorem d7_addUser_43 : decode cX7_addUser 43 = .ok (.iastore, 1) := by decide +kernel
theorem d7_addUser_44 : decode cX7_addUser 44 = .ok (.return_, 1) := by decide +kernel
def f7_addUser (σ : Mem) (x1 : Int32) (x2 : Int32) (x3 : Int32) : Option Mem := if ¬ (x1 < 0 ∨ 2 ≤ x1.toNatClampNeg) then if ¬ ((8 * x1) + (σ 6 x1.toNatClampNeg) < 0 ∨ 16 ≤ ((8 * x1) + (σ 6 x1.toNatClampNeg)).toNatClampNeg) then (bm (mu σ 7 (((8 * x1) + (σ 6 x1.toNatClampNeg)).toNatClampNeg) x2) fun σ3 => if ¬ (x1 < 0 ∨ 2 ≤ x1.toNatClampNeg) then if ¬ ((8 * x1) + (σ3 6 x1.toNatClampNeg) < 0 ∨ 16 ≤ ((8 * x1) + (σ3 6 x1.toNatClampNeg)).toNatClampNeg) then (bm (mu σ3 8 (((8 * x1) + (σ3 6 x1.toNatClampNeg)).toNatClampNeg) x3) fun σ6 => if ¬ (x1 < 0 ∨ 2 ≤ x1.toNatClampNeg) then if ¬ (x1 < 0 ∨ 2 ≤ x1.toNatClampNeg) then (bm (mu σ6 6 x1.toNatClampNeg ((σ6 6 x1.toNatClampNeg) + 1)) fun σ9 => some σ9) else none else none) else none else none) else none else none
set_option maxHeartbeats 4000000 in
set_option maxRecDepth 100000 in
theorem c7_addUser (l : Launch) {w : WV} {σ : Mem} {x1 : Int32} {x2 : Int32} {x3 : Int32} {σ' : Mem} (h0 : f7_addUser σ x1 x2 x3 = some σ') : Met l yX7_addUser (wy yX7_addUser cX7_addUser 4 none) rm7_addUser (Pw EM LM w [.ref (w.2.2 0), .int x1, .int x2, .int x3] σ) (Qw EM LM w σ' none) 0 0 (AW LM w) := by
  refine mk_met (by decide) (Nat.le_of_ble_eq_true rfl) ?_
  intro p e s m below meth c S hr hlk hK hR ls hl
  obtain ⟨hx, hb, hml, hown, hts⟩ := id S
  have hl : lv_has ls 4 [(0, .ref (w.2.2 0)), (1, .int x1), (2, .int x2), (3, .int x3)] := hl
  have hS : va_S (AW LM w) s.heap s.heap [] := va_S.rf
  unfold f7_addUser at h0
  refine lv_aload_n hx hb d7_addUser_0 rfl (lv_at hl 0 rfl) ?_
  refine g7_25 S hK hR d7_addUser_1 ?_
  refine lv_bipush (v := 8) hx hb d7_addUser_4 (by decide) ?_
  refine lv_iload_n hx hb d7_addUser_6 rfl (lv_at hl 1 rfl) ?_
  refine lv_imul hx hb d7_addUser_7 ?_
  refine lv_aload_n hx hb d7_addUser_8 rfl (lv_at hl 0 rfl) ?_
  refine g7_22 S hK hR d7_addUser_9 ?_
  refine lv_iload_n hx hb d7_addUser_12 rfl (lv_at hl 1 rfl) ?_
  obtain ⟨hi1, h0⟩ := og_if h0
  refine q_ld (k := x1.toNatClampNeg) S hK hR (by decide) (eM_105 w _) hi1 rfl d7_addUser_13 ?_
  refine lv_iadd hx hb d7_addUser_14 ?_
  refine lv_iload_n hx hb d7_addUser_15 rfl (lv_at hl 2 rfl) ?_
  obtain ⟨hi2, h0⟩ := og_if h0
  obtain ⟨σ3, hm3, h0⟩ := og_m h0
  refine q_st S hK hR hS (by decide) (eM_106 w) hi2 rfl hm3 d7_addUser_16 (fun H locs hR hS => ?_)
  refine lv_aload_n hx hb d7_addUser_17 rfl (lv_at hl 0 rfl) ?_
  refine g7_28 S hK hR d7_addUser_18 ?_
  refine lv_bipush (v := 8) hx hb d7_addUser_21 (by decide) ?_
  refine lv_iload_n hx hb d7_addUser_23 rfl (lv_at hl 1 rfl) ?_
  refine lv_imul hx hb d7_addUser_24 ?_
  refine lv_aload_n hx hb d7_addUser_25 rfl (lv_at hl 0 rfl) ?_
  refine g7_22 S hK hR d7_addUser_26 ?_
  refine lv_iload_n hx hb d7_addUser_29 rfl (lv_at hl 1 rfl) ?_
  obtain ⟨hi4, h0⟩ := og_if h0
  refine q_ld (k := x1.toNatClampNeg) S hK hR (by decide) (eM_105 w _) hi4 rfl d7_addUser_30 ?_
  refine lv_iadd hx hb d7_addUser_31 ?_
  refine lv_iload_n hx hb d7_addUser_32 rfl (lv_at hl 3 rfl) ?_
  obtain ⟨hi5, h0⟩ := og_if h0
  obtain ⟨σ6, hm6, h0⟩ := og_m h0
  refine q_st S hK hR hS (by decide) (eM_107 w) hi5 rfl hm6 d7_addUser_33 (fun H locs hR hS => ?_)
  refine lv_aload_n hx hb d7_addUser_34 rfl (lv_at hl 0 rfl) ?_
  refine g7_22 S hK hR d7_addUser_35 ?_
  refine lv_iload_n hx hb d7_addUser_38 rfl (lv_at hl 1 rfl) ?_
  refine lv_dup2_11 hx hb d7_addUser_39 rfl rfl ?_
  obtain ⟨hi7, h0⟩ := og_if h0
  refine q_ld (k := x1.toNatClampNeg) S hK hR (by decide) (eM_105 w _) hi7 rfl d7_addUser_40 ?_
  refine lv_iconst (v := 1) hx hb d7_addUser_41 (by decide) ?_
  refine lv_iadd hx hb d7_addUser_42 ?_
  obtain ⟨hi8, h0⟩ := og_if h0
  obtain ⟨σ9, hm9, h0⟩ := og_m h0
  refine q_st S hK hR hS (by decide) (eM_105 w) hi8 rfl hm9 d7_addUser_43 (fun H locs hR hS => ?_)
  exact q_vret S hr hlk hR hS h0 d7_addUser_44
set_option maxHeartbeats 4000000 in
set_option maxRecDepth 100000 in
theorem k7_103 {p : Program} {l : Launch} {e : Env} {R : Room} {s : State} {m : MethodId} {args : Array Value} {below : List Frame} {meth : Method} {c : Code} {H : Heap} {locs : List Loc} {cells slots : Nat} {Q : State → Prop} {cc : ByteArray} {pc nL : Nat} {ls : Array Slot} {rest : List Value} {w : WV} {σ : Mem} {x1 : Int32} {x2 : Int32} {x3 : Int32} {σ1 : Mem} (S : CallFix p m c cc nL s args gtbl RX7) (hK : KS LM w s) (hR : Rp EM LM w σ H) (hS : va_S (AW LM w) s.heap H locs) (h0 : f7_addUser σ x1 x2 x3 = some σ1) (hf : cells + 0 ≤ R.cells ∧ slots + 0 ≤ R.slots) (hRm : rm7_addUser.frames + 1 ≤ R.frames ∧ 8 + (4 + 11) + rm7_addUser.locals ≤ R.locals) (hl : ls.size = nL) (hW : (rest.map fun v => v.category).sum ≤ 8) (hdg : decode cc pc = .ok (.invokevirtual 103, 3)) (kk : ∀ (H1 : Heap) (locs1 : List Loc), Rp EM LM w σ1 H1 → va_S (AW LM w) s.heap H1 locs1 → W p l e R s m args below meth c H1 locs1 cells slots Q (F0 m (pc + 3) ls (rest))) : W p l e R s m args below meth c H locs cells slots Q (F0 m pc ls (.int x3 :: .int x2 :: .int x1 :: .ref (w.2.2 0) :: rest)) := r_end hS (run_V (n := 3) (As := [.int x1, .int x2, .int x3]) S hK hR (by decide) (eM_7 w _) rfl (gw_V (gt_at 898 (by decide +kernel) (by decide +kernel)) (gt_at 900 (by decide +kernel) (by decide +kernel)) (gt_at 40 (by decide +kernel) (by decide +kernel)) (gt_at 86 (by decide +kernel) (by decide +kernel)) (gt_at 901 (by decide +kernel) (by decide +kernel))) (by decide +kernel) rfl (c7_addUser l h0) ⟨rfl, rfl⟩ hRm hf hl rfl hW hdg) kk
/-! FourTenGatesModel.begin()V -/
abbrev rm7_begin : Room := { frames := 0, cells := 0, slots := 0, locals := 0 }
theorem d7_begin_0 : decode cX7_begin 0 = .ok (.iconst 0, 1) := by decide +kernel
theorem d7_begin_1 : decode cX7_begin 1 = .ok (.istore_n 1, 1) := by decide +kernel
theorem d7_begin_2 : decode cX7_begin 2 = .ok (.iload_n 1, 1) := by decide +kernel
theorem d7_begin_3 : decode cX7_begin 3 = .ok (.bipush 6, 2) := by decide +kernel
theorem d7_begin_5 : decode cX7_begin 5 = .ok (.if_icmp .ge 46, 3) := by decide +kernel
theorem d7_begin_8 : decode cX7_begin 8 = .ok (.aload_n 0, 1) := by decide +kernel
theorem d7_begin_9 : decode cX7_begin 9 = .ok (.getfield 55, 3) := by decide +kernel
theorem d7_begin_12 : decode cX7_begin 12 = .ok (.iload_n 1, 1) := by decide +kernel
theorem d7_begin_13 : decode cX7_begin 13 = .ok (.iconst 0, 1) := by decide +kernel
theorem d7_begin_14 : decode cX7_begin 14 = .ok (.iastore, 1) := by decide +kernel
theorem d7_begin_15 : decode cX7_begin 15 = .ok (.aload_n 0, 1) := by decide +kernel
theorem d7_begin_16 : decode cX7_begin 16 = .ok (.getfield 55, 3) := by decide +kernel
theorem d7_begin_19 : decode cX7_begin 19 = .ok (.bipush 7, 2) := by decide +kernel
theorem d7_begin_21 : decode cX7_begin 21 = .ok (.iload_n 1, 1) := by decide +kernel
theorem d7_begin_22 : decode cX7_begin 22 = .ok (.iadd, 1) := by decide +kernel
theorem d7_begin_23 : decode cX7_begin 23 = .ok (.aload_n 0, 1) := by decide +kernel
theorem d7_begin_24 : decode cX7_begin 24 = .ok (.getfield 40, 3) := by decide +kernel
theorem d7_begin_27 : decode cX7_begin 27 = .ok (.iload_n 1, 1) := by decide +kernel
theorem d7_begin_28 : decode cX7_begin 28 = .ok (.iaload, 1) := by decide +kernel
theorem d7_begin_29 : decode cX7_begin 29 = .ok (.iastore, 1) := by decide +kernel
theorem d7_begin_30 : decode cX7_begin 30 = .ok (.aload_n 0, 1) := by decide +kernel
theorem d7_begin_31 : decode cX7_begin 31 = .ok (.getfield 55, 3) := by decide +kernel
theorem d7_begin_34 : decode cX7_begin 34 = .ok (.bipush 13, 2) := by decide +kernel
theorem d7_begin_36 : decode cX7_begin 36 = .ok (.iload_n 1, 1) := by decide +kernel
theorem d7_begin_37 : decode cX7_begin 37 = .ok (.iadd, 1) := by decide +kernel
theorem d7_begin_38 : decode cX7_begin 38 = .ok (.aload_n 0, 1) := by decide +kernel
theorem d7_begin_39 : decode cX7_begin 39 = .ok (.getfield 43, 3) := by decide +kernel
theorem d7_begin_42 : decode cX7_begin 42 = .ok (.iload_n 1, 1) := by decide +kernel
theorem d7_begin_43 : decode cX7_begin 43 = .ok (.iaload, 1) := by decide +kernel
theorem d7_begin_44 : decode cX7_begin 44 = .ok (.iastore, 1) := by decide +kernel
theorem d7_begin_45 : decode cX7_begin 45 = .ok (.iinc 1 1, 3) := by decide +kernel
theorem d7_begin_48 : decode cX7_begin 48 = .ok (.goto (-46), 3) := by decide +kernel
theorem d7_begin_51 : decode cX7_begin 51 = .ok (.aload_n 0, 1) := by decide +kernel
theorem d7_begin_52 : decode cX7_begin 52 = .ok (.getfield 55, 3) := by decide +kernel
theorem d7_begin_55 : decode cX7_begin 55 = .ok (.bipush 6, 2) := by decide +kernel
theorem d7_begin_57 : decode cX7_begin 57 = .ok (.aload_n 0, 1) := by decide +kernel
theorem d7_begin_58 : decode cX7_begin 58 = .ok (.getfield 37, 3) := by decide +kernel
theorem d7_begin_61 : decode cX7_begin 61 = .ok (.iconst 0, 1) := by decide +kernel
theorem d7_begin_62 : decode cX7_begin 62 = .ok (.iaload, 1) := by decide +kernel
theorem d7_begin_63 : decode cX7_begin 63 = .ok (.iastore, 1) := by decide +kernel
theorem d7_begin_64 : decode cX7_begin 64 = .ok (.aload_n 0, 1) := by decide +kernel
theorem d7_begin_65 : decode cX7_begin 65 = .ok (.iconst 0, 1) := by decide +kernel
theorem d7_begin_66 : decode cX7_begin 66 = .ok (.putfield 159, 3) := by decide +kernel
theorem d7_begin_69 : decode cX7_begin 69 = .ok (.aload_n 0, 1) := by decide +kernel
theorem d7_begin_70 : decode cX7_begin 70 = .ok (.iconst 0, 1) := by decide +kernel
theorem d7_begin_71 : decode cX7_begin 71 = .ok (.putfield 162, 3) := by decide +kernel
theorem d7_begin_74 : decode cX7_begin 74 = .ok (.aload_n 0, 1) := by decide +kernel
theorem d7_begin_75 : decode cX7_begin 75 = .ok (.iconst 0, 1) := by decide +kernel
theorem d7_begin_76 : decode cX7_begin 76 = .ok (.putfield 165, 3) := by decide +kernel
theorem d7_begin_79 : decode cX7_begin 79 = .ok (.return_, 1) := by decide +kernel
def f7_begin_b2 : Nat → Mem → Int32 → Option Mem
  | 0, _, _ => none
  | n + 1, σ, x1 => if 6 ≤ x1 then bm (mu σ 17 6 (σ 11 0)) fun σ2 => bm (mu σ2 0 18 0) fun σ3 => bm (mu σ3 0 20 0) fun σ4 => bm (mu σ4 0 21 0) fun σ5 => some σ5 else if ¬ (x1 < 0 ∨ 19 ≤ x1.toNatClampNeg) then (bm (mu σ 17 x1.toNatClampNeg 0) fun σ3 => if ¬ (x1 < 0 ∨ 12 ≤ x1.toNatClampNeg) then if ¬ (7 + x1 < 0 ∨ 19 ≤ (7 + x1).toNatClampNeg) then (bm (mu σ3 17 ((7 + x1).toNatClampNeg) (σ3 12 x1.toNatClampNeg)) fun σ6 => if ¬ (x1 < 0 ∨ 12 ≤ x1.toNatClampNeg) then if ¬ (13 + x1 < 0 ∨ 19 ≤ (13 + x1).toNatClampNeg) then (bm (mu σ6 17 ((13 + x1).toNatClampNeg) (σ6 13 x1.toNatClampNeg)) fun σ9 => f7_begin_b2 n σ9 (x1 + 1)) else none else none) else none else none) else none
set_option maxHeartbeats 4000000 in
set_option maxRecDepth 100000 in
theorem t7_begin_b2 {p : Program} {l : Launch} {e : Env} {s : State} {m : MethodId} {args : Array Value} {below : List Frame} {meth : Method} {c : Code} {w : WV} {σ' : Mem} (S : CallFix p m c cX7_begin 2 s args gtbl RX7) (hr : meth.sig.returnType = none) (hlk : meth.locks = false) (hK : KS LM w s) : ∀ (n : Nat), ∀ (σ : Mem) (x1 : Int32), f7_begin_b2  n σ x1 = some σ' → ∀ (H : Heap) (locs : List Loc), Rp EM LM w σ H → va_S (AW LM w) s.heap H locs → ∀ (ls : Array Slot), lv_has ls 2 [(0, .ref (w.2.2 0)), (1, .int x1)] → W p l e rm7_begin s m args below meth c H locs 0 0 (MQ below (Qw EM LM w σ' none) args s 0 0 (AW LM w)) (F0 m 2 ls []) := by
  obtain ⟨hx, hb, hml, hown, hts⟩ := id S
  intro n
  induction n with
  | zero =>
    intro σ x1 h0
    cases (show none = _ from h0)
  | succ n ih =>
    intro σ x1 h0 H locs hR hS ls hl
    rw [f7_begin_b2] at h0
    refine lv_iload_n hx hb d7_begin_2 rfl (lv_at hl 1 rfl) ?_
    refine lv_bipush (v := 6) hx hb d7_begin_3 (by decide) ?_
    refine lv_icmp_ge (tgt := 51) hx hb d7_begin_5 (by decide) (fun hc1 => ?_) (fun hc1 => ?_)
    · have h0 := og_t hc1 h0
      refine lv_aload_n hx hb d7_begin_51 rfl (lv_at hl 0 rfl) ?_
      refine g7_55 S hK hR d7_begin_52 ?_
      refine lv_bipush (v := 6) hx hb d7_begin_55 (by decide) ?_
      refine lv_aload_n hx hb d7_begin_57 rfl (lv_at hl 0 rfl) ?_
      refine g7_37 S hK hR d7_begin_58 ?_
      refine lv_iconst (v := 0) hx hb d7_begin_61 (by decide) ?_
      refine q_ld (k := 0) S hK hR (by decide) (eM_110 w _) (vin (by decide)) (by decide) d7_begin_62 ?_
      obtain ⟨σ2, hm2, h0⟩ := og_m h0
      refine q_st S hK hR hS (by decide) (eM_116 w) (vin (by decide)) (by decide) hm2 d7_begin_63 (fun H locs hR hS => ?_)
      refine lv_aload_n hx hb d7_begin_64 rfl (lv_at hl 0 rfl) ?_
      refine lv_iconst (v := 0) hx hb d7_begin_65 (by decide) ?_
      obtain ⟨σ3, hm3, h0⟩ := og_m h0
      refine u7_159 S hK hR hS hm3 d7_begin_66 (fun H locs hR hS => ?_)
      refine lv_aload_n hx hb d7_begin_69 rfl (lv_at hl 0 rfl) ?_
      refine lv_iconst (v := 0) hx hb d7_begin_70 (by decide) ?_
      obtain ⟨σ4, hm4, h0⟩ := og_m h0
      refine u7_162 S hK hR hS hm4 d7_begin_71 (fun H locs hR hS => ?_)
      refine lv_aload_n hx hb d7_begin_74 rfl (lv_at hl 0 rfl) ?_
      refine lv_iconst (v := 0) hx hb d7_begin_75 (by decide) ?_
      obtain ⟨σ5, hm5, h0⟩ := og_m h0
      refine u7_165 S hK hR hS hm5 d7_begin_76 (fun H locs hR hS => ?_)
      exact q_vret S hr hlk hR hS h0 d7_begin_79
    · have h0 := og_f hc1 h0
      refine lv_aload_n hx hb d7_begin_8 rfl (lv_at hl 0 rfl) ?_
      refine g7_55 S hK hR d7_begin_9 ?_
      refine lv_iload_n hx hb d7_begin_12 rfl (lv_at hl 1 rfl) ?_
      refine lv_iconst (v := 0) hx hb d7_begin_13 (by decide) ?_
      obtain ⟨hi2, h0⟩ := og_if h0
      obtain ⟨σ3, hm3, h0⟩ := og_m h0
      refine q_st S hK hR hS (by decide) (eM_116 w) hi2 rfl hm3 d7_begin_14 (fun H locs hR hS => ?_)
      refine lv_aload_n hx hb d7_begin_15 rfl (lv_at hl 0 rfl) ?_
      refine g7_55 S hK hR d7_begin_16 ?_
      refine lv_bipush (v := 7) hx hb d7_begin_19 (by decide) ?_
      refine lv_iload_n hx hb d7_begin_21 rfl (lv_at hl 1 rfl) ?_
      refine lv_iadd hx hb d7_begin_22 ?_
      refine lv_aload_n hx hb d7_begin_23 rfl (lv_at hl 0 rfl) ?_
      refine g7_40 S hK hR d7_begin_24 ?_
      refine lv_iload_n hx hb d7_begin_27 rfl (lv_at hl 1 rfl) ?_
      obtain ⟨hi4, h0⟩ := og_if h0
      refine q_ld (k := x1.toNatClampNeg) S hK hR (by decide) (eM_111 w _) hi4 rfl d7_begin_28 ?_
      obtain ⟨hi5, h0⟩ := og_if h0
      obtain ⟨σ6, hm6, h0⟩ := og_m h0
      refine q_st S hK hR hS (by decide) (eM_116 w) hi5 rfl hm6 d7_begin_29 (fun H locs hR hS => ?_)
      refine lv_aload_n hx hb d7_begin_30 rfl (lv_at hl 0 rfl) ?_
      refine g7_55 S hK hR d7_begin_31 ?_
      refine lv_bipush (v := 13) hx hb d7_begin_34 (by decide) ?_
      refine lv_iload_n hx hb d7_begin_36 rfl (lv_at hl 1 rfl) ?_
      refine lv_iadd hx hb d7_begin_37 ?_
      refine lv_aload_n hx hb d7_begin_38 rfl (lv_at hl 0 rfl) ?_
      refine g7_43 S hK hR d7_begin_39 ?_
      refine lv_iload_n hx hb d7_begin_42 rfl (lv_at hl 1 rfl) ?_
      obtain ⟨hi7, h0⟩ := og_if h0
      refine q_ld (k := x1.toNatClampNeg) S hK hR (by decide) (eM_112 w _) hi7 rfl d7_begin_43 ?_
      obtain ⟨hi8, h0⟩ := og_if h0
      obtain ⟨σ9, hm9, h0⟩ := og_m h0
      refine q_st S hK hR hS (by decide) (eM_116 w) hi8 rfl hm9 d7_begin_44 (fun H locs hR hS => ?_)
      refine lv_iinc (v := x1 + 1) (lv' := [(1, .int (x1 + 1)), (0, .ref (w.2.2 0))]) hx hb d7_begin_45 hl (k := 1) rfl (ii1 _) (by decide) rfl (fun ls hl => ?_)
      refine lv_goto (tgt := 2) hx hb d7_begin_48 (by decide) ?_
      exact ih σ9 (x1 + 1) h0 _ _ hR hS _ (lv_sub hl [1, 0] rfl)
def f7_begin (σ : Mem) : Option Mem := f7_begin_b2 1000 σ 0
set_option maxHeartbeats 4000000 in
set_option maxRecDepth 100000 in
theorem c7_begin (l : Launch) {w : WV} {σ : Mem} {σ' : Mem} (h0 : f7_begin σ = some σ') : Met l yX7_begin (wy yX7_begin cX7_begin 2 none) rm7_begin (Pw EM LM w [.ref (w.2.2 0)] σ) (Qw EM LM w σ' none) 0 0 (AW LM w) := by
  refine mk_met (by decide) (Nat.le_of_ble_eq_true rfl) ?_
  intro p e s m below meth c S hr hlk hK hR ls hl
  obtain ⟨hx, hb, hml, hown, hts⟩ := id S
  have hl : lv_has ls 2 [(0, .ref (w.2.2 0))] := hl
  have hS : va_S (AW LM w) s.heap s.heap [] := va_S.rf
  unfold f7_begin at h0
  refine lv_iconst (v := 0) hx hb d7_begin_0 (by decide) ?_
  refine lv_istore_n (lv' := [(1, .int 0), (0, .ref (w.2.2 0))]) hx hb d7_begin_1 rfl hl (by decide) rfl (fun ls hl => ?_)
  exact t7_begin_b2 S hr hlk hK 1000 σ 0 h0 _ _ hR hS _ (lv_sub hl [1, 0] rfl)
set_option maxHeartbeats 4000000 in
set_option maxRecDepth 100000 in
theorem k7_106 {p : Program} {l : Launch} {e : Env} {R : Room} {s : State} {m : MethodId} {args : Array Value} {below : List Frame} {meth : Method} {c : Code} {H : Heap} {locs : List Loc} {cells slots : Nat} {Q : State → Prop} {cc : ByteArray} {pc nL : Nat} {ls : Array Slot} {rest : List Value} {w : WV} {σ : Mem} {σ1 : Mem} (S : CallFix p m c cc nL s args gtbl RX7) (hK : KS LM w s) (hR : Rp EM LM w σ H) (hS : va_S (AW LM w) s.heap H locs) (h0 : f7_begin σ = some σ1) (hf : cells + 0 ≤ R.cells ∧ slots + 0 ≤ R.slots) (hRm : rm7_begin.frames + 1 ≤ R.frames ∧ 8 + (2 + 11) + rm7_begin.locals ≤ R.locals) (hl : ls.size = nL) (hW : (rest.map fun v => v.category).sum ≤ 8) (hdg : decode cc pc = .ok (.invokevirtual 106, 3)) (kk : ∀ (H1 : Heap) (locs1 : List Loc), Rp EM LM w σ1 H1 → va_S (AW LM w) s.heap H1 locs1 → W p l e R s m args below meth c H1 locs1 cells slots Q (F0 m (pc + 3) ls (rest))) : W p l e R s m args below meth c H locs cells slots Q (F0 m pc ls (.ref (w.2.2 0) :: rest)) := r_end hS (run_V (n := 0) (As := []) S hK hR (by decide) (eM_7 w _) rfl (gw_V (gt_at 902 (by decide +kernel) (by decide +kernel)) (gt_at 904 (by decide +kernel) (by decide +kernel)) (gt_at 41 (by decide +kernel) (by decide +kernel)) (gt_at 86 (by decide +kernel) (by decide +kernel)) (gt_at 905 (by decide +kernel) (by decide +kernel))) (by decide +kernel) rfl (c7_begin l h0) ⟨rfl, rfl⟩ hRm hf hl rfl hW hdg) kk
/-! FourTenGatesModel.in(JJJ)Z -/
abbrev rm7_in : Room := { frames := 0, cells := 0, slots := 0, locals := 0 }
theorem d7_in_0 : decode cX7_in 0 = .ok (.lload_n 0, 1) := by decide +kernel
theorem d7_in_1 : decode cX7_in 1 = .ok (.lload_n 2, 1) := by decide +kernel
theorem d7_in_2 : decode cX7_in 2 = .ok (.lcmp, 1) := by decide +kernel
theorem d7_in_3 : decode cX7_in 3 = .ok (.ifCond .lt 14, 3) := by decide +kernel
theorem d7_in_6 : decode cX7_in 6 = .ok (.lload_n 0, 1) := by decide +kernel
theorem d7_in_7 : decode cX7_in 7 = .ok (.lload 4, 2) := by decide +kernel
theorem d7_in_9 : decode cX7_in 9 = .ok (.lcmp, 1) := by decide +kernel
theorem d7_in_10 : decode cX7_in 10 = .ok (.ifCond .gt 7, 3) := by decide +kernel
theorem d7_in_13 : decode cX7_in 13 = .ok (.iconst 1, 1) := by decide +kernel
theorem d7_in_14 : decode cX7_in 14 = .ok (.goto 4, 3) := by decide +kernel
theorem d7_in_17 : decode cX7_in 17 = .ok (.iconst 0, 1) := by decide +kernel
theorem d7_in_18 : decode cX7_in 18 = .ok (.ireturn, 1) := by decide +kernel
def f7_in (l0 : Int64) (l2 : Int64) (l4 : Int64) : Option Int32 := if (lg_cmp l0 l2) < 0 then some 0 else if 0 < (lg_cmp l0 l4) then some 0 else some 1
set_option maxHeartbeats 4000000 in
set_option maxRecDepth 100000 in
theorem c7_in (l : Launch) {l0 : Int64} {l2 : Int64} {l4 : Int64} {r : Int32} (h0 : f7_in l0 l2 l4 = some r) : Met l yX7_in (wy yX7_in cX7_in 6 (some .boolean)) rm7_in (Ps [.long l0, .long l2, .long l4]) (Qp (.int r)) 0 0 (fun _ => False) := by
  refine mk_mets (by decide) (Nat.le_of_ble_eq_true rfl) ?_
  intro p e s m below meth c S hr hlk ls hl
  obtain ⟨hx, hb, hml, hown, hts⟩ := id S
  have hl : lv_has ls 6 [(0, .long l0), (2, .long l2), (4, .long l4)] := hl
  unfold f7_in at h0
  refine lv_lload_n hx hb d7_in_0 rfl (lv_at hl 0 rfl) ?_
  refine lv_lload_n hx hb d7_in_1 rfl (lv_at hl 1 rfl) ?_
  refine W.lcmp hx hb d7_in_2 ?_
  refine lv_if_lt (tgt := 17) hx hb d7_in_3 (by decide) (fun hc1 => ?_) (fun hc1 => ?_)
  · have h0 := og_t hc1 h0
    refine lv_iconst (v := 0) hx hb d7_in_17 (by decide) ?_
    exact q_zpure S hr hlk (Or.inl rfl) h0 d7_in_18
  · have h0 := og_f hc1 h0
    refine lv_lload_n hx hb d7_in_6 rfl (lv_at hl 0 rfl) ?_
    refine lv_lload hx hb d7_in_7 (lv_at hl 2 rfl) ?_
    refine W.lcmp hx hb d7_in_9 ?_
    refine lv_if_gt (tgt := 17) hx hb d7_in_10 (by decide) (fun hc2 => ?_) (fun hc2 => ?_)
    · have h0 := og_t hc2 h0
      refine lv_iconst (v := 0) hx hb d7_in_17 (by decide) ?_
      exact q_zpure S hr hlk (Or.inl rfl) h0 d7_in_18
    · have h0 := og_f hc2 h0
      refine lv_iconst (v := 1) hx hb d7_in_13 (by decide) ?_
      refine lv_goto (tgt := 18) hx hb d7_in_14 (by decide) ?_
      exact q_zpure S hr hlk (Or.inr rfl) h0 d7_in_18
set_option maxHeartbeats 4000000 in
set_option maxRecDepth 100000 in
theorem k7_113 {p : Program} {l : Launch} {e : Env} {R : Room} {s : State} {m : MethodId} {args : Array Value} {below : List Frame} {meth : Method} {c : Code} {H : Heap} {locs : List Loc} {cells slots : Nat} {Q : State → Prop} {cc : ByteArray} {pc nL : Nat} {ls : Array Slot} {rest : List Value} {l0 : Int64} {l2 : Int64} {l4 : Int64} {r : Int32} (S : CallFix p m c cc nL s args gtbl RX7) (h0 : f7_in l0 l2 l4 = some r) (hf : cells + 0 ≤ R.cells ∧ slots + 0 ≤ R.slots) (hRm : rm7_in.frames + 1 ≤ R.frames ∧ 8 + (6 + 11) + rm7_in.locals ≤ R.locals) (hl : ls.size = nL) (hW : (rest.map fun v => v.category).sum ≤ 8) (hdg : decode cc pc = .ok (.invokestatic 113, 3)) (kk : W p l e R s m args below meth c H locs cells slots Q (F0 m (pc + 3) ls (.int r :: rest))) : W p l e R s m args below meth c H locs cells slots Q (F0 m pc ls (.long l4 :: .long l2 :: .long l0 :: rest)) := r_endp (run_S (n := 3) (As := [.long l0, .long l2, .long l4]) S (gw_S (gt_at 1028 (by decide +kernel) (by decide +kernel)) (gt_at 1029 (by decide +kernel) (by decide +kernel)) (gt_at 86 (by decide +kernel) (by decide +kernel)) (gt_at 1030 (by decide +kernel) (by decide +kernel))) (by decide +kernel) rfl (c7_in l h0) ⟨rfl, rfl⟩ hRm hf hl rfl hW hdg) kk
/-! FourTenGatesModel.write(I)I -/
abbrev rm7_write : Room := { frames := 1, cells := 0, slots := 0, locals := 25 }
theorem d7_write_0 : decode cX7_write 0 = .ok (.iload_n 1, 1) := by decide +kernel
theorem d7_write_1 : decode cX7_write 1 = .ok (.i2l, 1) := by decide +kernel
theorem d7_write_2 : decode cX7_write 2 = .ok (.ldc2_w 109, 3) := by decide +kernel
theorem d7_write_5 : decode cX7_write 5 = .ok (.ldc2_w 111, 3) := by decide +kernel
theorem d7_write_8 : decode cX7_write 8 = .ok (.invokestatic 113, 3) := by decide +kernel
theorem d7_write_11 : decode cX7_write 11 = .ok (.ifCond .ne 5, 3) := by decide +kernel
theorem d7_write_14 : decode cX7_write 14 = .ok (.iconst (-1), 1) := by decide +kernel
theorem d7_write_15 : decode cX7_write 15 = .ok (.ireturn, 1) := by decide +kernel
theorem d7_write_16 : decode cX7_write 16 = .ok (.aload_n 0, 1) := by decide +kernel
theorem d7_write_17 : decode cX7_write 17 = .ok (.getfield 117, 3) := by decide +kernel
theorem d7_write_20 : decode cX7_write 20 = .ok (.sipush 200, 3) := by decide +kernel
theorem d7_write_23 : decode cX7_write 23 = .ok (.if_icmp .ne 6, 3) := by decide +kernel
theorem d7_write_26 : decode cX7_write 26 = .ok (.bipush (-3), 2) := by decide +kernel
theorem d7_write_28 : decode cX7_write 28 = .ok (.ireturn, 1) := by decide +kernel
theorem d7_write_29 : decode cX7_write 29 = .ok (.aload_n 0, 1) := by decide +kernel
theorem d7_write_30 : decode cX7_write 30 = .ok (.getfield 7, 3) := by decide +kernel
theorem d7_write_33 : decode cX7_write 33 = .ok (.aload_n 0, 1) := by decide +kernel
theorem d7_write_34 : decode cX7_write 34 = .ok (.getfield 117, 3) := by decide +kernel
theorem d7_write_37 : decode cX7_write 37 = .ok (.iload_n 1, 1) := by decide +kernel
theorem d7_write_38 : decode cX7_write 38 = .ok (.iastore, 1) := by decide +kernel
theorem d7_write_39 : decode cX7_write 39 = .ok (.aload_n 0, 1) := by decide +kernel
theorem d7_write_40 : decode cX7_write 40 = .ok (.dup, 1) := by decide +kernel
theorem d7_write_41 : decode cX7_write 41 = .ok (.getfield 117, 3) := by decide +kernel
theorem d7_write_44 : decode cX7_write 44 = .ok (.iconst 1, 1) := by decide +kernel
theorem d7_write_45 : decode cX7_write 45 = .ok (.iadd, 1) := by decide +kernel
theorem d7_write_46 : decode cX7_write 46 = .ok (.putfield 117, 3) := by decide +kernel
theorem d7_write_49 : decode cX7_write 49 = .ok (.aload_n 0, 1) := by decide +kernel
theorem d7_write_50 : decode cX7_write 50 = .ok (.getfield 117, 3) := by decide +kernel
theorem d7_write_53 : decode cX7_write 53 = .ok (.ireturn, 1) := by decide +kernel
def f7_write (σ : Mem) (x1 : Int32) : Option (Mem × Int32) := Option.bind (f7_in x1.toInt64 (32 : Int64) (126 : Int64)) fun r1 => if r1 = 0 then some (σ, (-1)) else if (σ 0 0) = 200 then some (σ, (-3)) else if ¬ (σ 0 0 < 0 ∨ 200 ≤ (σ 0 0).toNatClampNeg) then (bm (mu σ 2 ((σ 0 0).toNatClampNeg) x1) fun σ5 => bm (mu σ5 0 0 ((σ5 0 0) + 1)) fun σ6 => some (σ6, σ6 0 0)) else none
set_option maxHeartbeats 4000000 in
set_option maxRecDepth 100000 in
theorem c7_write (l : Launch) {w : WV} {σ : Mem} {x1 : Int32} {σ' : Mem} {r : Int32} (h0 : f7_write σ x1 = some (σ', r)) : Met l yX7_write (wy yX7_write cX7_write 2 (some .int)) rm7_write (Pw EM LM w [.ref (w.2.2 0), .int x1] σ) (Qw EM LM w σ' (some (.int r))) 0 0 (AW LM w) := by
  refine mk_met (by decide) (Nat.le_of_ble_eq_true rfl) ?_
  intro p e s m below meth c S hr hlk hK hR ls hl
  obtain ⟨hx, hb, hml, hown, hts⟩ := id S
  have hl : lv_has ls 2 [(0, .ref (w.2.2 0)), (1, .int x1)] := hl
  have hS : va_S (AW LM w) s.heap s.heap [] := va_S.rf
  unfold f7_write at h0
  refine lv_iload_n hx hb d7_write_0 rfl (lv_at hl 1 rfl) ?_
  refine lv_i2l hx hb d7_write_1 rfl ?_
  refine lv_ldc2 (v := 32) hx hb hown (hts _ (gt_at 1026 (by decide +kernel) (by decide +kernel))) d7_write_2 ?_
  refine lv_ldc2 (v := 126) hx hb hown (hts _ (gt_at 1027 (by decide +kernel) (by decide +kernel))) d7_write_5 ?_
  obtain ⟨r1, hr1, h0⟩ := og_b h0
  refine k7_113 S  hr1 ⟨Nat.zero_le _, Nat.zero_le _⟩ ⟨Nat.le_of_ble_eq_true rfl, Nat.le_of_ble_eq_true rfl⟩ hl.1 (Nat.le_of_ble_eq_true rfl) d7_write_8 ?_
  refine lv_if_ne (tgt := 16) hx hb d7_write_11 (by decide) (fun hc2 => ?_) (fun hc2 => ?_)
  · have h0 := og_f hc2 h0
    refine lv_aload_n hx hb d7_write_16 rfl (lv_at hl 0 rfl) ?_
    refine g7_117 S hK hR d7_write_17 ?_
    refine lv_sipush (v := 200) hx hb d7_write_20 (by decide) ?_
    refine lv_icmp_ne (tgt := 29) hx hb d7_write_23 (by decide) (fun hc3 => ?_) (fun hc3 => ?_)
    · have h0 := og_f hc3 h0
      refine lv_aload_n hx hb d7_write_29 rfl (lv_at hl 0 rfl) ?_
      refine g7_7 S hK hR d7_write_30 ?_
      refine lv_aload_n hx hb d7_write_33 rfl (lv_at hl 0 rfl) ?_
      refine g7_117 S hK hR d7_write_34 ?_
      refine lv_iload_n hx hb d7_write_37 rfl (lv_at hl 1 rfl) ?_
      obtain ⟨hi4, h0⟩ := og_if h0
      obtain ⟨σ5, hm5, h0⟩ := og_m h0
      refine q_st S hK hR hS (by decide) (eM_101 w) hi4 rfl hm5 d7_write_38 (fun H locs hR hS => ?_)
      refine lv_aload_n hx hb d7_write_39 rfl (lv_at hl 0 rfl) ?_
      refine lv_dup hx hb d7_write_40 rfl ?_
      refine g7_117 S hK hR d7_write_41 ?_
      refine lv_iconst (v := 1) hx hb d7_write_44 (by decide) ?_
      refine lv_iadd hx hb d7_write_45 ?_
      obtain ⟨σ6, hm6, h0⟩ := og_m h0
      refine u7_117 S hK hR hS hm6 d7_write_46 (fun H locs hR hS => ?_)
      refine lv_aload_n hx hb d7_write_49 rfl (lv_at hl 0 rfl) ?_
      refine g7_117 S hK hR d7_write_50 ?_
      exact q_iret S hr hlk hR hS h0 d7_write_53
    · have h0 := og_t hc3 h0
      refine lv_bipush (v := (-3)) hx hb d7_write_26 (by decide) ?_
      exact q_iret S hr hlk hR hS h0 d7_write_28
  · have h0 := og_t hc2 h0
    refine lv_iconst (v := (-1)) hx hb d7_write_14 (by decide) ?_
    exact q_iret S hr hlk hR hS h0 d7_write_15
/-! FourTenGatesModel.wipe()I -/
abbrev rm7_wipe : Room := { frames := 0, cells := 0, slots := 0, locals := 0 }
theorem d7_wipe_0 : decode cX7_wipe 0 = .ok (.aload_n 0, 1) := by decide +kernel
theorem d7_wipe_1 : decode cX7_wipe 1 = .ok (.getfield 117, 3) := by decide +kernel
theorem d7_wipe_4 : decode cX7_wipe 4 = .ok (.istore_n 1, 1) := by decide +kernel
theorem d7_wipe_5 : decode cX7_wipe 5 = .ok (.aload_n 0, 1) := by decide +kernel
theorem d7_wipe_6 : decode cX7_wipe 6 = .ok (.iconst 0, 1) := by decide +kernel
theorem d7_wipe_7 : decode cX7_wipe 7 = .ok (.putfield 117, 3) := by decide +kernel
theorem d7_wipe_10 : decode cX7_wipe 10 = .ok (.iload_n 1, 1) := by decide +kernel
theorem d7_wipe_11 : decode cX7_wipe 11 = .ok (.ireturn, 1) := by decide +kernel
def f7_wipe (σ : Mem) : Option (Mem × Int32) := bm (mu σ 0 0 0) fun σ1 => some (σ1, σ 0 0)
set_option maxHeartbeats 4000000 in
set_option maxRecDepth 100000 in
theorem c7_wipe (l : Launch) {w : WV} {σ : Mem} {σ' : Mem} {r : Int32} (h0 : f7_wipe σ = some (σ', r)) : Met l yX7_wipe (wy yX7_wipe cX7_wipe 2 (some .int)) rm7_wipe (Pw EM LM w [.ref (w.2.2 0)] σ) (Qw EM LM w σ' (some (.int r))) 0 0 (AW LM w) := by
  refine mk_met (by decide) (Nat.le_of_ble_eq_true rfl) ?_
  intro p e s m below meth c S hr hlk hK hR ls hl
  obtain ⟨hx, hb, hml, hown, hts⟩ := id S
  have hl : lv_has ls 2 [(0, .ref (w.2.2 0))] := hl
  have hS : va_S (AW LM w) s.heap s.heap [] := va_S.rf
  unfold f7_wipe at h0
  refine lv_aload_n hx hb d7_wipe_0 rfl (lv_at hl 0 rfl) ?_
  refine g7_117 S hK hR d7_wipe_1 ?_
  refine lv_istore_n (lv' := [(1, .int (σ 0 0)), (0, .ref (w.2.2 0))]) hx hb d7_wipe_4 rfl hl (by decide) rfl (fun ls hl => ?_)
  refine lv_aload_n hx hb d7_wipe_5 rfl (lv_at hl 1 rfl) ?_
  refine lv_iconst (v := 0) hx hb d7_wipe_6 (by decide) ?_
  obtain ⟨σ1, hm1, h0⟩ := og_m h0
  refine u7_117 S hK hR hS hm1 d7_wipe_7 (fun H locs hR hS => ?_)
  refine lv_iload_n hx hb d7_wipe_10 rfl (lv_at hl 0 rfl) ?_
  exact q_iret S hr hlk hR hS h0 d7_wipe_11
/-! FourTenGatesModel.letterAt(I)I -/
abbrev rm7_letterAt : Room := { frames := 0, cells := 0, slots := 0, locals := 0 }
theorem d7_letterAt_0 : decode cX7_letterAt 0 = .ok (.iload_n 1, 1) := by decide +kernel
theorem d7_letterAt_1 : decode cX7_letterAt 1 = .ok (.aload_n 0, 1) := by decide +kernel
theorem d7_letterAt_2 : decode cX7_letterAt 2 = .ok (.getfield 117, 3) := by decide +kernel
theorem d7_letterAt_5 : decode cX7_letterAt 5 = .ok (.if_icmp .ge 12, 3) := by decide +kernel
theorem d7_letterAt_8 : decode cX7_letterAt 8 = .ok (.aload_n 0, 1) := by decide +kernel
theorem d7_letterAt_9 : decode cX7_letterAt 9 = .ok (.getfield 7, 3) := by decide +kernel
theorem d7_letterAt_12 : decode cX7_letterAt 12 = .ok (.iload_n 1, 1) := by decide +kernel
theorem d7_letterAt_13 : decode cX7_letterAt 13 = .ok (.iaload, 1) := by decide +kernel
theorem d7_letterAt_14 : decode cX7_letterAt 14 = .ok (.goto 4, 3) := by decide +kernel
theorem d7_letterAt_17 : decode cX7_letterAt 17 = .ok (.iconst 0, 1) := by decide +kernel
theorem d7_letterAt_18 : decode cX7_letterAt 18 = .ok (.ireturn, 1) := by decide +kernel
def f7_letterAt (σ : Mem) (x1 : Int32) : Option Int32 := if (σ 0 0) ≤ x1 then some 0 else if ¬ (x1 < 0 ∨ 200 ≤ x1.toNatClampNeg) then some (σ 2 x1.toNatClampNeg) else none
set_option maxHeartbeats 4000000 in
set_option maxRecDepth 100000 in
theorem c7_letterAt (l : Launch) {w : WV} {σ : Mem} {x1 : Int32} {r : Int32} (h0 : f7_letterAt σ x1 = some r) : Met l yX7_letterAt (wy yX7_letterAt cX7_letterAt 2 (some .int)) rm7_letterAt (Pw EM LM w [.ref (w.2.2 0), .int x1] σ) (Qp (.int r)) 0 0 (fun _ => False) := by
  refine mk_met (by decide) (Nat.le_of_ble_eq_true rfl) ?_
  intro p e s m below meth c S hr hlk hK hR ls hl
  obtain ⟨hx, hb, hml, hown, hts⟩ := id S
  have hl : lv_has ls 2 [(0, .ref (w.2.2 0)), (1, .int x1)] := hl
  unfold f7_letterAt at h0
  refine lv_iload_n hx hb d7_letterAt_0 rfl (lv_at hl 1 rfl) ?_
  refine lv_aload_n hx hb d7_letterAt_1 rfl (lv_at hl 0 rfl) ?_
  refine g7_117 S hK hR d7_letterAt_2 ?_
  refine lv_icmp_ge (tgt := 17) hx hb d7_letterAt_5 (by decide) (fun hc1 => ?_) (fun hc1 => ?_)
  · have h0 := og_t hc1 h0
    refine lv_iconst (v := 0) hx hb d7_letterAt_17 (by decide) ?_
    exact q_ipure S hr hlk h0 d7_letterAt_18
  · have h0 := og_f hc1 h0
    refine lv_aload_n hx hb d7_letterAt_8 rfl (lv_at hl 0 rfl) ?_
    refine g7_7 S hK hR d7_letterAt_9 ?_
    refine lv_iload_n hx hb d7_letterAt_12 rfl (lv_at hl 1 rfl) ?_
    obtain ⟨hi2, h0⟩ := og_if h0
    refine q_ld (k := x1.toNatClampNeg) S hK hR (by decide) (eM_101 w _) hi2 rfl d7_letterAt_13 ?_
    refine lv_goto (tgt := 18) hx hb d7_letterAt_14 (by decide) ?_
    exact q_ipure S hr hlk h0 d7_letterAt_18
set_option maxHeartbeats 4000000 in
set_option maxRecDepth 100000 in
theorem k7_124 {p : Program} {l : Launch} {e : Env} {R : Room} {s : State} {m : MethodId} {args : Array Value} {below : List Frame} {meth : Method} {c : Code} {H : Heap} {locs : List Loc} {cells slots : Nat} {Q : State → Prop} {cc : ByteArray} {pc nL : Nat} {ls : Array Slot} {rest : List Value} {w : WV} {σ : Mem} {x1 : Int32} {r : Int32} (S : CallFix p m c cc nL s args gtbl RX7) (hK : KS LM w s) (hR : Rp EM LM w σ H) (h0 : f7_letterAt σ x1 = some r) (hf : cells + 0 ≤ R.cells ∧ slots + 0 ≤ R.slots) (hRm : rm7_letterAt.frames + 1 ≤ R.frames ∧ 8 + (2 + 11) + rm7_letterAt.locals ≤ R.locals) (hl : ls.size = nL) (hW : (rest.map fun v => v.category).sum ≤ 8) (hdg : decode cc pc = .ok (.invokevirtual 124, 3)) (kk : W p l e R s m args below meth c H locs cells slots Q (F0 m (pc + 3) ls (.int r :: rest))) : W p l e R s m args below meth c H locs cells slots Q (F0 m pc ls (.int x1 :: .ref (w.2.2 0) :: rest)) := r_endp (run_V (n := 1) (As := [.int x1]) S hK hR (by decide) (eM_7 w _) rfl (gw_V (gt_at 1047 (by decide +kernel) (by decide +kernel)) (gt_at 1049 (by decide +kernel) (by decide +kernel)) (gt_at 44 (by decide +kernel) (by decide +kernel)) (gt_at 86 (by decide +kernel) (by decide +kernel)) (gt_at 1050 (by decide +kernel) (by decide +kernel))) (by decide +kernel) rfl (c7_letterAt l h0) ⟨rfl, rfl⟩ hRm hf hl rfl hW hdg) kk
/-! FourTenGatesModel.figures(I)Z -/
abbrev rm7_figures : Room := { frames := 1, cells := 0, slots := 0, locals := 25 }
theorem d7_figures_0 : decode cX7_figures 0 = .ok (.iconst 0, 1) := by decide +kernel
theorem d7_figures_1 : decode cX7_figures 1 = .ok (.istore_n 2, 1) := by decide +kernel
theorem d7_figures_2 : decode cX7_figures 2 = .ok (.iload_n 2, 1) := by decide +kernel
theorem d7_figures_3 : decode cX7_figures 3 = .ok (.iload_n 1, 1) := by decide +kernel
theorem d7_figures_4 : decode cX7_figures 4 = .ok (.if_icmp .ge 132, 3) := by decide +kernel
theorem d7_figures_7 : decode cX7_figures 7 = .ok (.iconst 0, 1) := by decide +kernel
theorem d7_figures_8 : decode cX7_figures 8 = .ok (.istore_n 3, 1) := by decide +kernel
theorem d7_figures_9 : decode cX7_figures 9 = .ok (.iconst 0, 1) := by decide +kernel
theorem d7_figures_10 : decode cX7_figures 10 = .ok (.istore 4, 2) := by decide +kernel
theorem d7_figures_12 : decode cX7_figures 12 = .ok (.aload_n 0, 1) := by decide +kernel
theorem d7_figures_13 : decode cX7_figures 13 = .ok (.aload_n 0, 1) := by decide +kernel
theorem d7_figures_14 : decode cX7_figures 14 = .ok (.getfield 121, 3) := by decide +kernel
theorem d7_figures_17 : decode cX7_figures 17 = .ok (.invokevirtual 124, 3) := by decide +kernel
theorem d7_figures_20 : decode cX7_figures 20 = .ok (.i2l, 1) := by decide +kernel
theorem d7_figures_21 : decode cX7_figures 21 = .ok (.ldc2_w 128, 3) := by decide +kernel
theorem d7_figures_24 : decode cX7_figures 24 = .ok (.ldc2_w 130, 3) := by decide +kernel
theorem d7_figures_27 : decode cX7_figures 27 = .ok (.invokestatic 113, 3) := by decide +kernel
theorem d7_figures_30 : decode cX7_figures 30 = .ok (.ifCond .eq 43, 3) := by decide +kernel
theorem d7_figures_33 : decode cX7_figures 33 = .ok (.iload_n 3, 1) := by decide +kernel
theorem d7_figures_34 : decode cX7_figures 34 = .ok (.iconst 3, 1) := by decide +kernel
theorem d7_figures_35 : decode cX7_figures 35 = .ok (.if_icmp .ge 38, 3) := by decide +kernel
theorem d7_figures_38 : decode cX7_figures 38 = .ok (.bipush 10, 2) := by decide +kernel
theorem d7_figures_40 : decode cX7_figures 40 = .ok (.iload 4, 2) := by decide +kernel
theorem d7_figures_42 : decode cX7_figures 42 = .ok (.imul, 1) := by decide +kernel
theorem d7_figures_43 : decode cX7_figures 43 = .ok (.aload_n 0, 1) := by decide +kernel
theorem d7_figures_44 : decode cX7_figures 44 = .ok (.aload_n 0, 1) := by decide +kernel
theorem d7_figures_45 : decode cX7_figures 45 = .ok (.getfield 121, 3) := by decide +kernel
theorem d7_figures_48 : decode cX7_figures 48 = .ok (.invokevirtual 124, 3) := by decide +kernel
theorem d7_figures_51 : decode cX7_figures 51 = .ok (.iadd, 1) := by decide +kernel
theorem d7_figures_52 : decode cX7_figures 52 = .ok (.bipush 48, 2) := by decide +kernel
theorem d7_figures_54 : decode cX7_figures 54 = .ok (.isub, 1) := by decide +kernel
theorem d7_figures_55 : decode cX7_figures 55 = .ok (.istore 4, 2) := by decide +kernel
theorem d7_figures_57 : decode cX7_figures 57 = .ok (.iinc 3 1, 3) := by decide +kernel
theorem d7_figures_60 : decode cX7_figures 60 = .ok (.aload_n 0, 1) := by decide +kernel
theorem d7_figures_61 : decode cX7_figures 61 = .ok (.dup, 1) := by decide +kernel
theorem d7_figures_62 : decode cX7_figures 62 = .ok (.getfield 121, 3) := by decide +kernel
theorem d7_figures_65 : decode cX7_figures 65 = .ok (.iconst 1, 1) := by decide +kernel
theorem d7_figures_66 : decode cX7_figures 66 = .ok (.iadd, 1) := by decide +kernel
theorem d7_figures_67 : decode cX7_figures 67 = .ok (.putfield 121, 3) := by decide +kernel
theorem d7_figures_70 : decode cX7_figures 70 = .ok (.goto (-58), 3) := by decide +kernel
theorem d7_figures_73 : decode cX7_figures 73 = .ok (.iload_n 3, 1) := by decide +kernel
theorem d7_figures_74 : decode cX7_figures 74 = .ok (.i2l, 1) := by decide +kernel
theorem d7_figures_75 : decode cX7_figures 75 = .ok (.lconst 1, 1) := by decide +kernel
theorem d7_figures_76 : decode cX7_figures 76 = .ok (.ldc2_w 132, 3) := by decide +kernel
theorem d7_figures_79 : decode cX7_figures 79 = .ok (.invokestatic 113, 3) := by decide +kernel
theorem d7_figures_82 : decode cX7_figures 82 = .ok (.ifCond .eq 28, 3) := by decide +kernel
theorem d7_figures_85 : decode cX7_figures 85 = .ok (.aload_n 0, 1) := by decide +kernel
theorem d7_figures_86 : decode cX7_figures 86 = .ok (.aload_n 0, 1) := by decide +kernel
theorem d7_figures_87 : decode cX7_figures 87 = .ok (.getfield 121, 3) := by decide +kernel
theorem d7_figures_90 : decode cX7_figures 90 = .ok (.invokevirtual 124, 3) := by decide +kernel
theorem d7_figures_93 : decode cX7_figures 93 = .ok (.iload_n 2, 1) := by decide +kernel
theorem d7_figures_94 : decode cX7_figures 94 = .ok (.iload_n 1, 1) := by decide +kernel
theorem d7_figures_95 : decode cX7_figures 95 = .ok (.iconst 1, 1) := by decide +kernel
theorem d7_figures_96 : decode cX7_figures 96 = .ok (.isub, 1) := by decide +kernel
theorem d7_figures_97 : decode cX7_figures 97 = .ok (.if_icmp .ge 8, 3) := by decide +kernel
theorem d7_figures_100 : decode cX7_figures 100 = .ok (.bipush 44, 2) := by decide +kernel
theorem d7_figures_102 : decode cX7_figures 102 = .ok (.goto 5, 3) := by decide +kernel
theorem d7_figures_105 : decode cX7_figures 105 = .ok (.bipush 59, 2) := by decide +kernel
theorem d7_figures_107 : decode cX7_figures 107 = .ok (.if_icmp .eq 5, 3) := by decide +kernel
theorem d7_figures_110 : decode cX7_figures 110 = .ok (.iconst 0, 1) := by decide +kernel
theorem d7_figures_111 : decode cX7_figures 111 = .ok (.ireturn, 1) := by decide +kernel
theorem d7_figures_112 : decode cX7_figures 112 = .ok (.aload_n 0, 1) := by decide +kernel
theorem d7_figures_113 : decode cX7_figures 113 = .ok (.getfield 70, 3) := by decide +kernel
theorem d7_figures_116 : decode cX7_figures 116 = .ok (.iload_n 2, 1) := by decide +kernel
theorem d7_figures_117 : decode cX7_figures 117 = .ok (.iload 4, 2) := by decide +kernel
theorem d7_figures_119 : decode cX7_figures 119 = .ok (.iastore, 1) := by decide +kernel
theorem d7_figures_120 : decode cX7_figures 120 = .ok (.aload_n 0, 1) := by decide +kernel
theorem d7_figures_121 : decode cX7_figures 121 = .ok (.dup, 1) := by decide +kernel
theorem d7_figures_122 : decode cX7_figures 122 = .ok (.getfield 121, 3) := by decide +kernel
theorem d7_figures_125 : decode cX7_figures 125 = .ok (.iconst 1, 1) := by decide +kernel
theorem d7_figures_126 : decode cX7_figures 126 = .ok (.iadd, 1) := by decide +kernel
theorem d7_figures_127 : decode cX7_figures 127 = .ok (.putfield 121, 3) := by decide +kernel
theorem d7_figures_130 : decode cX7_figures 130 = .ok (.iinc 2 1, 3) := by decide +kernel
theorem d7_figures_133 : decode cX7_figures 133 = .ok (.goto (-131), 3) := by decide +kernel
theorem d7_figures_136 : decode cX7_figures 136 = .ok (.iconst 1, 1) := by decide +kernel
theorem d7_figures_137 : decode cX7_figures 137 = .ok (.ireturn, 1) := by decide +kernel
def f7_figures_b107 (k2 : Mem → Int32 → Int32 → Option (Mem × Int32)) (σ : Mem) (x1 : Int32) (x2 : Int32) (x4 : Int32) (s0 : Int32) (s1 : Int32) : Option (Mem × Int32) := if s0 = s1 then if ¬ (x2 < 0 ∨ 2 ≤ x2.toNatClampNeg) then (bm (mu σ 26 x2.toNatClampNeg x4) fun σ3 => bm (mu σ3 0 24 ((σ3 0 24) + 1)) fun σ4 => k2 σ4 x1 (x2 + 1)) else none else some (σ, 0)
set_option maxHeartbeats 4000000 in
set_option maxRecDepth 100000 in
theorem t7_figures_b107 {p : Program} {l : Launch} {e : Env} {s : State} {m : MethodId} {args : Array Value} {below : List Frame} {meth : Method} {c : Code} {w : WV} {σ' : Mem} {r : Int32} {k2 : Mem → Int32 → Int32 → Option (Mem × Int32)} (S : CallFix p m c cX7_figures 5 s args gtbl RX7) (hr : meth.sig.returnType = (some .boolean)) (hlk : meth.locks = false) (hK : KS LM w s) (hk2 : ∀ (σ : Mem) (x1 : Int32) (x2 : Int32), k2 σ x1 x2 = some (σ', r) → ∀ (H : Heap) (locs : List Loc), Rp EM LM w σ H → va_S (AW LM w) s.heap H locs → ∀ (ls : Array Slot), lv_has ls 5 [(0, .ref (w.2.2 0)), (1, .int x1), (2, .int x2)] → W p l e rm7_figures s m args below meth c H locs 0 0 (MQ below (Qw EM LM w σ' (some (.int r))) args s 0 0 (AW LM w)) (F0 m 2 ls [])) : ∀ (σ : Mem) (x1 : Int32) (x2 : Int32) (x4 : Int32) (s0 : Int32) (s1 : Int32), f7_figures_b107 k2 σ x1 x2 x4 s0 s1 = some (σ', r) → ∀ (H : Heap) (locs : List Loc), Rp EM LM w σ H → va_S (AW LM w) s.heap H locs → ∀ (ls : Array Slot), lv_has ls 5 [(0, .ref (w.2.2 0)), (1, .int x1), (2, .int x2), (4, .int x4)] → W p l e rm7_figures s m args below meth c H locs 0 0 (MQ below (Qw EM LM w σ' (some (.int r))) args s 0 0 (AW LM w)) (F0 m 107 ls [.int s1, .int s0]) := by
  obtain ⟨hx, hb, hml, hown, hts⟩ := id S
  intro σ x1 x2 x4 s0 s1 h0 H locs hR hS ls hl
  unfold f7_figures_b107 at h0
  refine lv_icmp_eq (tgt := 112) hx hb d7_figures_107 (by decide) (fun hc1 => ?_) (fun hc1 => ?_)
  · have h0 := og_t hc1 h0
    refine lv_aload_n hx hb d7_figures_112 rfl (lv_at hl 0 rfl) ?_
    refine g7_70 S hK hR d7_figures_113 ?_
    refine lv_iload_n hx hb d7_figures_116 rfl (lv_at hl 2 rfl) ?_
    refine lv_iload hx hb d7_figures_117 (lv_at hl 3 rfl) ?_
    obtain ⟨hi2, h0⟩ := og_if h0
    obtain ⟨σ3, hm3, h0⟩ := og_m h0
    refine q_st S hK hR hS (by decide) (eM_125 w) hi2 rfl hm3 d7_figures_119 (fun H locs hR hS => ?_)
    refine lv_aload_n hx hb d7_figures_120 rfl (lv_at hl 0 rfl) ?_
    refine lv_dup hx hb d7_figures_121 rfl ?_
    refine g7_121 S hK hR d7_figures_122 ?_
    refine lv_iconst (v := 1) hx hb d7_figures_125 (by decide) ?_
    refine lv_iadd hx hb d7_figures_126 ?_
    obtain ⟨σ4, hm4, h0⟩ := og_m h0
    refine u7_121 S hK hR hS hm4 d7_figures_127 (fun H locs hR hS => ?_)
    refine lv_iinc (v := x2 + 1) (lv' := [(2, .int (x2 + 1)), (0, .ref (w.2.2 0)), (1, .int x1), (4, .int x4)]) hx hb d7_figures_130 hl (k := 2) rfl (ii1 _) (by decide) rfl (fun ls hl => ?_)
    refine lv_goto (tgt := 2) hx hb d7_figures_133 (by decide) ?_
    exact hk2 σ4 x1 (x2 + 1) h0 _ _ hR hS _ (lv_sub hl [1, 2, 0] rfl)
  · have h0 := og_f hc1 h0
    refine lv_iconst (v := 0) hx hb d7_figures_110 (by decide) ?_
    exact q_zret S hr hlk hR hS (Or.inl rfl) h0 d7_figures_111
def f7_figures_b73 (k2 : Mem → Int32 → Int32 → Option (Mem × Int32)) (σ : Mem) (x1 : Int32) (x2 : Int32) (x3 : Int32) (x4 : Int32) : Option (Mem × Int32) := Option.bind (f7_in x3.toInt64 (1 : Int64) (2 : Int64)) fun r1 => if r1 = 0 then some (σ, 0) else Option.bind (f7_letterAt σ (σ 0 24)) fun r3 => if (x1 - 1) ≤ x2 then f7_figures_b107 k2 σ x1 x2 x4 r3 59 else f7_figures_b107 k2 σ x1 x2 x4 r3 44
set_option maxHeartbeats 4000000 in
set_option maxRecDepth 100000 in
theorem t7_figures_b73 {p : Program} {l : Launch} {e : Env} {s : State} {m : MethodId} {args : Array Value} {below : List Frame} {meth : Method} {c : Code} {w : WV} {σ' : Mem} {r : Int32} {k2 : Mem → Int32 → Int32 → Option (Mem × Int32)} (S : CallFix p m c cX7_figures 5 s args gtbl RX7) (hr : meth.sig.returnType = (some .boolean)) (hlk : meth.locks = false) (hK : KS LM w s) (hk2 : ∀ (σ : Mem) (x1 : Int32) (x2 : Int32), k2 σ x1 x2 = some (σ', r) → ∀ (H : Heap) (locs : List Loc), Rp EM LM w σ H → va_S (AW LM w) s.heap H locs → ∀ (ls : Array Slot), lv_has ls 5 [(0, .ref (w.2.2 0)), (1, .int x1), (2, .int x2)] → W p l e rm7_figures s m args below meth c H locs 0 0 (MQ below (Qw EM LM w σ' (some (.int r))) args s 0 0 (AW LM w)) (F0 m 2 ls [])) : ∀ (σ : Mem) (x1 : Int32) (x2 : Int32) (x3 : Int32) (x4 : Int32), f7_figures_b73 k2 σ x1 x2 x3 x4 = some (σ', r) → ∀ (H : Heap) (locs : List Loc), Rp EM LM w σ H → va_S (AW LM w) s.heap H locs → ∀ (ls : Array Slot), lv_has ls 5 [(0, .ref (w.2.2 0)), (1, .int x1), (2, .int x2), (3, .int x3), (4, .int x4)] → W p l e rm7_figures s m args below meth c H locs 0 0 (MQ below (Qw EM LM w σ' (some (.int r))) args s 0 0 (AW LM w)) (F0 m 73 ls []) := by
  obtain ⟨hx, hb, hml, hown, hts⟩ := id S
  intro σ x1 x2 x3 x4 h0 H locs hR hS ls hl
  unfold f7_figures_b73 at h0
  refine lv_iload_n hx hb d7_figures_73 rfl (lv_at hl 3 rfl) ?_
  refine lv_i2l hx hb d7_figures_74 rfl ?_
  refine lv_lconst (v := 1) hx hb d7_figures_75 (by decide) ?_
  refine lv_ldc2 (v := 2) hx hb hown (hts _ (gt_at 1057 (by decide +kernel) (by decide +kernel))) d7_figures_76 ?_
  obtain ⟨r1, hr1, h0⟩ := og_b h0
  refine k7_113 S  hr1 ⟨Nat.zero_le _, Nat.zero_le _⟩ ⟨Nat.le_of_ble_eq_true rfl, Nat.le_of_ble_eq_true rfl⟩ hl.1 (Nat.le_of_ble_eq_true rfl) d7_figures_79 ?_
  refine lv_if_eq (tgt := 110) hx hb d7_figures_82 (by decide) (fun hc2 => ?_) (fun hc2 => ?_)
  · have h0 := og_t hc2 h0
    refine lv_iconst (v := 0) hx hb d7_figures_110 (by decide) ?_
    exact q_zret S hr hlk hR hS (Or.inl rfl) h0 d7_figures_111
  · have h0 := og_f hc2 h0
    refine lv_aload_n hx hb d7_figures_85 rfl (lv_at hl 0 rfl) ?_
    refine lv_aload_n hx hb d7_figures_86 rfl (lv_at hl 0 rfl) ?_
    refine g7_121 S hK hR d7_figures_87 ?_
    obtain ⟨r3, hr3, h0⟩ := og_b h0
    refine k7_124 S hK hR  hr3 ⟨Nat.zero_le _, Nat.zero_le _⟩ ⟨Nat.le_of_ble_eq_true rfl, Nat.le_of_ble_eq_true rfl⟩ hl.1 (Nat.le_of_ble_eq_true rfl) d7_figures_90 ?_
    refine lv_iload_n hx hb d7_figures_93 rfl (lv_at hl 2 rfl) ?_
    refine lv_iload_n hx hb d7_figures_94 rfl (lv_at hl 1 rfl) ?_
    refine lv_iconst (v := 1) hx hb d7_figures_95 (by decide) ?_
    refine lv_isub hx hb d7_figures_96 ?_
    refine lv_icmp_ge (tgt := 105) hx hb d7_figures_97 (by decide) (fun hc4 => ?_) (fun hc4 => ?_)
    · have h0 := og_t hc4 h0
      refine lv_bipush (v := 59) hx hb d7_figures_105 (by decide) ?_
      exact t7_figures_b107 S hr hlk hK hk2 σ x1 x2 x4 r3 59 h0 _ _ hR hS _ (lv_sub hl [0, 1, 2, 4] rfl)
    · have h0 := og_f hc4 h0
      refine lv_bipush (v := 44) hx hb d7_figures_100 (by decide) ?_
      refine lv_goto (tgt := 107) hx hb d7_figures_102 (by decide) ?_
      exact t7_figures_b107 S hr hlk hK hk2 σ x1 x2 x4 r3 44 h0 _ _ hR hS _ (lv_sub hl [0, 1, 2, 4] rfl)
def f7_figures_b12 (k2 : Mem → Int32 → Int32 → Option (Mem × Int32)) : Nat → Mem → Int32 → Int32 → Int32 → Int32 → Option (Mem × Int32)
  | 0, _, _, _, _, _ => none
  | n + 1, σ, x1, x2, x3, x4 => Option.bind (f7_letterAt σ (σ 0 24)) fun r1 => Option.bind (f7_in r1.toInt64 (48 : Int64) (57 : Int64)) fun r2 => if r2 = 0 then f7_figures_b73 k2 σ x1 x2 x3 x4 else if 3 ≤ x3 then f7_figures_b73 k2 σ x1 x2 x3 x4 else Option.bind (f7_letterAt σ (σ 0 24)) fun r5 => bm (mu σ 0 24 ((σ 0 24) + 1)) fun σ6 => f7_figures_b12 k2 n σ6 x1 x2 (x3 + 1) (((10 * x4) + r5) - 48)
set_option maxHeartbeats 4000000 in
set_option maxRecDepth 100000 in
theorem t7_figures_b12 {p : Program} {l : Launch} {e : Env} {s : State} {m : MethodId} {args : Array Value} {below : List Frame} {meth : Method} {c : Code} {w : WV} {σ' : Mem} {r : Int32} {k2 : Mem → Int32 → Int32 → Option (Mem × Int32)} (S : CallFix p m c cX7_figures 5 s args gtbl RX7) (hr : meth.sig.returnType = (some .boolean)) (hlk : meth.locks = false) (hK : KS LM w s) (hk2 : ∀ (σ : Mem) (x1 : Int32) (x2 : Int32), k2 σ x1 x2 = some (σ', r) → ∀ (H : Heap) (locs : List Loc), Rp EM LM w σ H → va_S (AW LM w) s.heap H locs → ∀ (ls : Array Slot), lv_has ls 5 [(0, .ref (w.2.2 0)), (1, .int x1), (2, .int x2)] → W p l e rm7_figures s m args below meth c H locs 0 0 (MQ below (Qw EM LM w σ' (some (.int r))) args s 0 0 (AW LM w)) (F0 m 2 ls [])) : ∀ (n : Nat), ∀ (σ : Mem) (x1 : Int32) (x2 : Int32) (x3 : Int32) (x4 : Int32), f7_figures_b12 k2 n σ x1 x2 x3 x4 = some (σ', r) → ∀ (H : Heap) (locs : List Loc), Rp EM LM w σ H → va_S (AW LM w) s.heap H locs → ∀ (ls : Array Slot), lv_has ls 5 [(0, .ref (w.2.2 0)), (1, .int x1), (2, .int x2), (3, .int x3), (4, .int x4)] → W p l e rm7_figures s m args below meth c H locs 0 0 (MQ below (Qw EM LM w σ' (some (.int r))) args s 0 0 (AW LM w)) (F0 m 12 ls []) := by
  obtain ⟨hx, hb, hml, hown, hts⟩ := id S
  intro n
  induction n with
  | zero =>
    intro σ x1 x2 x3 x4 h0
    cases (show none = _ from h0)
  | succ n ih =>
    intro σ x1 x2 x3 x4 h0 H locs hR hS ls hl
    rw [f7_figures_b12] at h0
    refine lv_aload_n hx hb d7_figures_12 rfl (lv_at hl 0 rfl) ?_
    refine lv_aload_n hx hb d7_figures_13 rfl (lv_at hl 0 rfl) ?_
    refine g7_121 S hK hR d7_figures_14 ?_
    obtain ⟨r1, hr1, h0⟩ := og_b h0
    refine k7_124 S hK hR  hr1 ⟨Nat.zero_le _, Nat.zero_le _⟩ ⟨Nat.le_of_ble_eq_true rfl, Nat.le_of_ble_eq_true rfl⟩ hl.1 (Nat.le_of_ble_eq_true rfl) d7_figures_17 ?_
    refine lv_i2l hx hb d7_figures_20 rfl ?_
    refine lv_ldc2 (v := 48) hx hb hown (hts _ (gt_at 1055 (by decide +kernel) (by decide +kernel))) d7_figures_21 ?_
    refine lv_ldc2 (v := 57) hx hb hown (hts _ (gt_at 1056 (by decide +kernel) (by decide +kernel))) d7_figures_24 ?_
    obtain ⟨r2, hr2, h0⟩ := og_b h0
    refine k7_113 S  hr2 ⟨Nat.zero_le _, Nat.zero_le _⟩ ⟨Nat.le_of_ble_eq_true rfl, Nat.le_of_ble_eq_true rfl⟩ hl.1 (Nat.le_of_ble_eq_true rfl) d7_figures_27 ?_
    refine lv_if_eq (tgt := 73) hx hb d7_figures_30 (by decide) (fun hc3 => ?_) (fun hc3 => ?_)
    · have h0 := og_t hc3 h0
      exact t7_figures_b73 S hr hlk hK hk2 σ x1 x2 x3 x4 h0 _ _ hR hS _ (lv_sub hl [0, 1, 2, 3, 4] rfl)
    · have h0 := og_f hc3 h0
      refine lv_iload_n hx hb d7_figures_33 rfl (lv_at hl 3 rfl) ?_
      refine lv_iconst (v := 3) hx hb d7_figures_34 (by decide) ?_
      refine lv_icmp_ge (tgt := 73) hx hb d7_figures_35 (by decide) (fun hc4 => ?_) (fun hc4 => ?_)
      · have h0 := og_t hc4 h0
        exact t7_figures_b73 S hr hlk hK hk2 σ x1 x2 x3 x4 h0 _ _ hR hS _ (lv_sub hl [0, 1, 2, 3, 4] rfl)
      · have h0 := og_f hc4 h0
        refine lv_bipush (v := 10) hx hb d7_figures_38 (by decide) ?_
        refine lv_iload hx hb d7_figures_40 (lv_at hl 4 rfl) ?_
        refine lv_imul hx hb d7_figures_42 ?_
        refine lv_aload_n hx hb d7_figures_43 rfl (lv_at hl 0 rfl) ?_
        refine lv_aload_n hx hb d7_figures_44 rfl (lv_at hl 0 rfl) ?_
        refine g7_121 S hK hR d7_figures_45 ?_
        obtain ⟨r5, hr5, h0⟩ := og_b h0
        refine k7_124 S hK hR  hr5 ⟨Nat.zero_le _, Nat.zero_le _⟩ ⟨Nat.le_of_ble_eq_true rfl, Nat.le_of_ble_eq_true rfl⟩ hl.1 (Nat.le_of_ble_eq_true rfl) d7_figures_48 ?_
        refine lv_iadd hx hb d7_figures_51 ?_
        refine lv_bipush (v := 48) hx hb d7_figures_52 (by decide) ?_
        refine lv_isub hx hb d7_figures_54 ?_
        refine lv_istore (lv' := [(4, .int (((10 * x4) + r5) - 48)), (0, .ref (w.2.2 0)), (1, .int x1), (2, .int x2), (3, .int x3)]) hx hb d7_figures_55 hl (by decide) rfl (fun ls hl => ?_)
        refine lv_iinc (v := x3 + 1) (lv' := [(3, .int (x3 + 1)), (4, .int (((10 * x4) + r5) - 48)), (0, .ref (w.2.2 0)), (1, .int x1), (2, .int x2)]) hx hb d7_figures_57 hl (k := 4) rfl (ii1 _) (by decide) rfl (fun ls hl => ?_)
        refine lv_aload_n hx hb d7_figures_60 rfl (lv_at hl 2 rfl) ?_
        refine lv_dup hx hb d7_figures_61 rfl ?_
        refine g7_121 S hK hR d7_figures_62 ?_
        refine lv_iconst (v := 1) hx hb d7_figures_65 (by decide) ?_
        refine lv_iadd hx hb d7_figures_66 ?_
        obtain ⟨σ6, hm6, h0⟩ := og_m h0
        refine u7_121 S hK hR hS hm6 d7_figures_67 (fun H locs hR hS => ?_)
        refine lv_goto (tgt := 12) hx hb d7_figures_70 (by decide) ?_
        exact ih σ6 x1 x2 (x3 + 1) (((10 * x4) + r5) - 48) h0 _ _ hR hS _ (lv_sub hl [2, 3, 4, 0, 1] rfl)
def f7_figures_b2 : Nat → Mem → Int32 → Int32 → Option (Mem × Int32)
  | 0, _, _, _ => none
  | n + 1, σ, x1, x2 => if x1 ≤ x2 then some (σ, 1) else f7_figures_b12 (f7_figures_b2 n) 1000 σ x1 x2 0 0
set_option maxHeartbeats 4000000 in
set_option maxRecDepth 100000 in
theorem t7_figures_b2 {p : Program} {l : Launch} {e : Env} {s : State} {m : MethodId} {args : Array Value} {below : List Frame} {meth : Method} {c : Code} {w : WV} {σ' : Mem} {r : Int32} (S : CallFix p m c cX7_figures 5 s args gtbl RX7) (hr : meth.sig.returnType = (some .boolean)) (hlk : meth.locks = false) (hK : KS LM w s) : ∀ (n : Nat), ∀ (σ : Mem) (x1 : Int32) (x2 : Int32), f7_figures_b2  n σ x1 x2 = some (σ', r) → ∀ (H : Heap) (locs : List Loc), Rp EM LM w σ H → va_S (AW LM w) s.heap H locs → ∀ (ls : Array Slot), lv_has ls 5 [(0, .ref (w.2.2 0)), (1, .int x1), (2, .int x2)] → W p l e rm7_figures s m args below meth c H locs 0 0 (MQ below (Qw EM LM w σ' (some (.int r))) args s 0 0 (AW LM w)) (F0 m 2 ls []) := by
  obtain ⟨hx, hb, hml, hown, hts⟩ := id S
  intro n
  induction n with
  | zero =>
    intro σ x1 x2 h0
    cases (show none = _ from h0)
  | succ n ih =>
    intro σ x1 x2 h0 H locs hR hS ls hl
    rw [f7_figures_b2] at h0
    refine lv_iload_n hx hb d7_figures_2 rfl (lv_at hl 2 rfl) ?_
    refine lv_iload_n hx hb d7_figures_3 rfl (lv_at hl 1 rfl) ?_
    refine lv_icmp_ge (tgt := 136) hx hb d7_figures_4 (by decide) (fun hc1 => ?_) (fun hc1 => ?_)
    · have h0 := og_t hc1 h0
      refine lv_iconst (v := 1) hx hb d7_figures_136 (by decide) ?_
      exact q_zret S hr hlk hR hS (Or.inr rfl) h0 d7_figures_137
    · have h0 := og_f hc1 h0
      refine lv_iconst (v := 0) hx hb d7_figures_7 (by decide) ?_
      refine lv_istore_n (lv' := [(3, .int 0), (0, .ref (w.2.2 0)), (1, .int x1), (2, .int x2)]) hx hb d7_figures_8 rfl hl (by decide) rfl (fun ls hl => ?_)
      refine lv_iconst (v := 0) hx hb d7_figures_9 (by decide) ?_
      refine lv_istore (lv' := [(4, .int 0), (3, .int 0), (0, .ref (w.2.2 0)), (1, .int x1), (2, .int x2)]) hx hb d7_figures_10 hl (by decide) rfl (fun ls hl => ?_)
      exact t7_figures_b12 S hr hlk hK ih 1000 σ x1 x2 0 0 h0 _ _ hR hS _ (lv_sub hl [2, 3, 4, 1, 0] rfl)
def f7_figures (σ : Mem) (x1 : Int32) : Option (Mem × Int32) := f7_figures_b2 1000 σ x1 0
set_option maxHeartbeats 4000000 in
set_option maxRecDepth 100000 in
theorem c7_figures (l : Launch) {w : WV} {σ : Mem} {x1 : Int32} {σ' : Mem} {r : Int32} (h0 : f7_figures σ x1 = some (σ', r)) : Met l yX7_figures (wy yX7_figures cX7_figures 5 (some .boolean)) rm7_figures (Pw EM LM w [.ref (w.2.2 0), .int x1] σ) (Qw EM LM w σ' (some (.int r))) 0 0 (AW LM w) := by
  refine mk_met (by decide) (Nat.le_of_ble_eq_true rfl) ?_
  intro p e s m below meth c S hr hlk hK hR ls hl
  obtain ⟨hx, hb, hml, hown, hts⟩ := id S
  have hl : lv_has ls 5 [(0, .ref (w.2.2 0)), (1, .int x1)] := hl
  have hS : va_S (AW LM w) s.heap s.heap [] := va_S.rf
  unfold f7_figures at h0
  refine lv_iconst (v := 0) hx hb d7_figures_0 (by decide) ?_
  refine lv_istore_n (lv' := [(2, .int 0), (0, .ref (w.2.2 0)), (1, .int x1)]) hx hb d7_figures_1 rfl hl (by decide) rfl (fun ls hl => ?_)
  exact t7_figures_b2 S hr hlk hK 1000 σ x1 0 h0 _ _ hR hS _ (lv_sub hl [1, 2, 0] rfl)
set_option maxHeartbeats 4000000 in
set_option maxRecDepth 100000 in
theorem k7_134 {p : Program} {l : Launch} {e : Env} {R : Room} {s : State} {m : MethodId} {args : Array Value} {below : List Frame} {meth : Method} {c : Code} {H : Heap} {locs : List Loc} {cells slots : Nat} {Q : State → Prop} {cc : ByteArray} {pc nL : Nat} {ls : Array Slot} {rest : List Value} {w : WV} {σ : Mem} {x1 : Int32} {σ1 : Mem} {r : Int32} (S : CallFix p m c cc nL s args gtbl RX7) (hK : KS LM w s) (hR : Rp EM LM w σ H) (hS : va_S (AW LM w) s.heap H locs) (h0 : f7_figures σ x1 = some (σ1, r)) (hf : cells + 0 ≤ R.cells ∧ slots + 0 ≤ R.slots) (hRm : rm7_figures.frames + 1 ≤ R.frames ∧ 8 + (5 + 11) + rm7_figures.locals ≤ R.locals) (hl : ls.size = nL) (hW : (rest.map fun v => v.category).sum ≤ 8) (hdg : decode cc pc = .ok (.invokevirtual 134, 3)) (kk : ∀ (H1 : Heap) (locs1 : List Loc), Rp EM LM w σ1 H1 → va_S (AW LM w) s.heap H1 locs1 → W p l e R s m args below meth c H1 locs1 cells slots Q (F0 m (pc + 3) ls (.int r :: rest))) : W p l e R s m args below meth c H locs cells slots Q (F0 m pc ls (.int x1 :: .ref (w.2.2 0) :: rest)) := r_end hS (run_V (n := 1) (As := [.int x1]) S hK hR (by decide) (eM_7 w _) rfl (gw_V (gt_at 1051 (by decide +kernel) (by decide +kernel)) (gt_at 1053 (by decide +kernel) (by decide +kernel)) (gt_at 45 (by decide +kernel) (by decide +kernel)) (gt_at 86 (by decide +kernel) (by decide +kernel)) (gt_at 1054 (by decide +kernel) (by decide +kernel))) (by decide +kernel) rfl (c7_figures l h0) ⟨rfl, rfl⟩ hRm hf hl rfl hW hdg) kk
/-! FourTenGatesModel.setTold(IIII)Z -/
abbrev rm7_setTold : Room := { frames := 1, cells := 0, slots := 0, locals := 25 }
theorem d7_setTold_0 : decode cX7_setTold 0 = .ok (.aload_n 0, 1) := by decide +kernel
theorem d7_setTold_1 : decode cX7_setTold 1 = .ok (.getfield 31, 3) := by decide +kernel
theorem d7_setTold_4 : decode cX7_setTold 4 = .ok (.iconst 4, 1) := by decide +kernel
theorem d7_setTold_5 : decode cX7_setTold 5 = .ok (.iload_n 1, 1) := by decide +kernel
theorem d7_setTold_6 : decode cX7_setTold 6 = .ok (.iadd, 1) := by decide +kernel
theorem d7_setTold_7 : decode cX7_setTold 7 = .ok (.iload_n 2, 1) := by decide +kernel
theorem d7_setTold_8 : decode cX7_setTold 8 = .ok (.iastore, 1) := by decide +kernel
theorem d7_setTold_9 : decode cX7_setTold 9 = .ok (.iload_n 2, 1) := by decide +kernel
theorem d7_setTold_10 : decode cX7_setTold 10 = .ok (.i2l, 1) := by decide +kernel
theorem d7_setTold_11 : decode cX7_setTold 11 = .ok (.iload_n 3, 1) := by decide +kernel
theorem d7_setTold_12 : decode cX7_setTold 12 = .ok (.i2l, 1) := by decide +kernel
theorem d7_setTold_13 : decode cX7_setTold 13 = .ok (.iload 4, 2) := by decide +kernel
theorem d7_setTold_15 : decode cX7_setTold 15 = .ok (.i2l, 1) := by decide +kernel
theorem d7_setTold_16 : decode cX7_setTold 16 = .ok (.invokestatic 113, 3) := by decide +kernel
theorem d7_setTold_19 : decode cX7_setTold 19 = .ok (.ireturn, 1) := by decide +kernel
def f7_setTold (σ : Mem) (x1 : Int32) (x2 : Int32) (x3 : Int32) (x4 : Int32) : Option (Mem × Int32) := if ¬ (4 + x1 < 0 ∨ 8 ≤ (4 + x1).toNatClampNeg) then (bm (mu σ 9 ((4 + x1).toNatClampNeg) x2) fun σ2 => Option.bind (f7_in x2.toInt64 x3.toInt64 x4.toInt64) fun r3 => if r3 = 0 ∨ r3 = 1 then some (σ2, r3) else none) else none
set_option maxHeartbeats 4000000 in
set_option maxRecDepth 100000 in
theorem c7_setTold (l : Launch) {w : WV} {σ : Mem} {x1 : Int32} {x2 : Int32} {x3 : Int32} {x4 : Int32} {σ' : Mem} {r : Int32} (h0 : f7_setTold σ x1 x2 x3 x4 = some (σ', r)) : Met l yX7_setTold (wy yX7_setTold cX7_setTold 5 (some .boolean)) rm7_setTold (Pw EM LM w [.ref (w.2.2 0), .int x1, .int x2, .int x3, .int x4] σ) (Qw EM LM w σ' (some (.int r))) 0 0 (AW LM w) := by
  refine mk_met (by decide) (Nat.le_of_ble_eq_true rfl) ?_
  intro p e s m below meth c S hr hlk hK hR ls hl
  obtain ⟨hx, hb, hml, hown, hts⟩ := id S
  have hl : lv_has ls 5 [(0, .ref (w.2.2 0)), (1, .int x1), (2, .int x2), (3, .int x3), (4, .int x4)] := hl
  have hS : va_S (AW LM w) s.heap s.heap [] := va_S.rf
  unfold f7_setTold at h0
  refine lv_aload_n hx hb d7_setTold_0 rfl (lv_at hl 0 rfl) ?_
  refine g7_31 S hK hR d7_setTold_1 ?_
  refine lv_iconst (v := 4) hx hb d7_setTold_4 (by decide) ?_
  refine lv_iload_n hx hb d7_setTold_5 rfl (lv_at hl 1 rfl) ?_
  refine lv_iadd hx hb d7_setTold_6 ?_
  refine lv_iload_n hx hb d7_setTold_7 rfl (lv_at hl 2 rfl) ?_
  obtain ⟨hi1, h0⟩ := og_if h0
  obtain ⟨σ2, hm2, h0⟩ := og_m h0
  refine q_st S hK hR hS (by decide) (eM_108 w) hi1 rfl hm2 d7_setTold_8 (fun H locs hR hS => ?_)
  refine lv_iload_n hx hb d7_setTold_9 rfl (lv_at hl 2 rfl) ?_
  refine lv_i2l hx hb d7_setTold_10 rfl ?_
  refine lv_iload_n hx hb d7_setTold_11 rfl (lv_at hl 3 rfl) ?_
  refine lv_i2l hx hb d7_setTold_12 rfl ?_
  refine lv_iload hx hb d7_setTold_13 (lv_at hl 4 rfl) ?_
  refine lv_i2l hx hb d7_setTold_15 rfl ?_
  obtain ⟨r3, hr3, h0⟩ := og_b h0
  refine k7_113 S  hr3 ⟨Nat.zero_le _, Nat.zero_le _⟩ ⟨Nat.le_of_ble_eq_true rfl, Nat.le_of_ble_eq_true rfl⟩ hl.1 (Nat.le_of_ble_eq_true rfl) d7_setTold_16 ?_
  obtain ⟨hb0, h0⟩ := og_if h0
  exact q_zret S hr hlk hR hS hb0 h0 d7_setTold_19
set_option maxHeartbeats 4000000 in
set_option maxRecDepth 100000 in
theorem k7_138 {p : Program} {l : Launch} {e : Env} {R : Room} {s : State} {m : MethodId} {args : Array Value} {below : List Frame} {meth : Method} {c : Code} {H : Heap} {locs : List Loc} {cells slots : Nat} {Q : State → Prop} {cc : ByteArray} {pc nL : Nat} {ls : Array Slot} {rest : List Value} {w : WV} {σ : Mem} {x1 : Int32} {x2 : Int32} {x3 : Int32} {x4 : Int32} {σ1 : Mem} {r : Int32} (S : CallFix p m c cc nL s args gtbl RX7) (hK : KS LM w s) (hR : Rp EM LM w σ H) (hS : va_S (AW LM w) s.heap H locs) (h0 : f7_setTold σ x1 x2 x3 x4 = some (σ1, r)) (hf : cells + 0 ≤ R.cells ∧ slots + 0 ≤ R.slots) (hRm : rm7_setTold.frames + 1 ≤ R.frames ∧ 8 + (5 + 11) + rm7_setTold.locals ≤ R.locals) (hl : ls.size = nL) (hW : (rest.map fun v => v.category).sum ≤ 8) (hdg : decode cc pc = .ok (.invokevirtual 138, 3)) (kk : ∀ (H1 : Heap) (locs1 : List Loc), Rp EM LM w σ1 H1 → va_S (AW LM w) s.heap H1 locs1 → W p l e R s m args below meth c H1 locs1 cells slots Q (F0 m (pc + 3) ls (.int r :: rest))) : W p l e R s m args below meth c H locs cells slots Q (F0 m pc ls (.int x4 :: .int x3 :: .int x2 :: .int x1 :: .ref (w.2.2 0) :: rest)) := r_end hS (run_V (n := 4) (As := [.int x1, .int x2, .int x3, .int x4]) S hK hR (by decide) (eM_7 w _) rfl (gw_V (gt_at 1058 (by decide +kernel) (by decide +kernel)) (gt_at 1060 (by decide +kernel) (by decide +kernel)) (gt_at 46 (by decide +kernel) (by decide +kernel)) (gt_at 86 (by decide +kernel) (by decide +kernel)) (gt_at 1061 (by decide +kernel) (by decide +kernel))) (by decide +kernel) rfl (c7_setTold l h0) ⟨rfl, rfl⟩ hRm hf hl rfl hW hdg) kk
/-! FourTenGatesModel.closingItem()Z -/
abbrev rm7_closingItem : Room := { frames := 2, cells := 0, slots := 0, locals := 49 }
theorem d7_closingItem_0 : decode cX7_closingItem 0 = .ok (.aload_n 0, 1) := by decide +kernel
theorem d7_closingItem_1 : decode cX7_closingItem 1 = .ok (.iconst 2, 1) := by decide +kernel
theorem d7_closingItem_2 : decode cX7_closingItem 2 = .ok (.invokevirtual 134, 3) := by decide +kernel
theorem d7_closingItem_5 : decode cX7_closingItem 5 = .ok (.ifCond .eq 40, 3) := by decide +kernel
theorem d7_closingItem_8 : decode cX7_closingItem 8 = .ok (.aload_n 0, 1) := by decide +kernel
theorem d7_closingItem_9 : decode cX7_closingItem 9 = .ok (.getfield 37, 3) := by decide +kernel
theorem d7_closingItem_12 : decode cX7_closingItem 12 = .ok (.iconst 1, 1) := by decide +kernel
theorem d7_closingItem_13 : decode cX7_closingItem 13 = .ok (.iaload, 1) := by decide +kernel
theorem d7_closingItem_14 : decode cX7_closingItem 14 = .ok (.bipush 6, 2) := by decide +kernel
theorem d7_closingItem_16 : decode cX7_closingItem 16 = .ok (.if_icmp .eq 29, 3) := by decide +kernel
theorem d7_closingItem_19 : decode cX7_closingItem 19 = .ok (.aload_n 0, 1) := by decide +kernel
theorem d7_closingItem_20 : decode cX7_closingItem 20 = .ok (.getfield 70, 3) := by decide +kernel
theorem d7_closingItem_23 : decode cX7_closingItem 23 = .ok (.iconst 1, 1) := by decide +kernel
theorem d7_closingItem_24 : decode cX7_closingItem 24 = .ok (.iaload, 1) := by decide +kernel
theorem d7_closingItem_25 : decode cX7_closingItem 25 = .ok (.bipush 60, 2) := by decide +kernel
theorem d7_closingItem_27 : decode cX7_closingItem 27 = .ok (.if_icmp .gt 18, 3) := by decide +kernel
theorem d7_closingItem_30 : decode cX7_closingItem 30 = .ok (.aload_n 0, 1) := by decide +kernel
theorem d7_closingItem_31 : decode cX7_closingItem 31 = .ok (.getfield 70, 3) := by decide +kernel
theorem d7_closingItem_34 : decode cX7_closingItem 34 = .ok (.iconst 0, 1) := by decide +kernel
theorem d7_closingItem_35 : decode cX7_closingItem 35 = .ok (.iaload, 1) := by decide +kernel
theorem d7_closingItem_36 : decode cX7_closingItem 36 = .ok (.aload_n 0, 1) := by decide +kernel
theorem d7_closingItem_37 : decode cX7_closingItem 37 = .ok (.getfield 70, 3) := by decide +kernel
theorem d7_closingItem_40 : decode cX7_closingItem 40 = .ok (.iconst 1, 1) := by decide +kernel
theorem d7_closingItem_41 : decode cX7_closingItem 41 = .ok (.iaload, 1) := by decide +kernel
theorem d7_closingItem_42 : decode cX7_closingItem 42 = .ok (.if_icmp .lt 5, 3) := by decide +kernel
theorem d7_closingItem_45 : decode cX7_closingItem 45 = .ok (.iconst 0, 1) := by decide +kernel
theorem d7_closingItem_46 : decode cX7_closingItem 46 = .ok (.ireturn, 1) := by decide +kernel
theorem d7_closingItem_47 : decode cX7_closingItem 47 = .ok (.aload_n 0, 1) := by decide +kernel
theorem d7_closingItem_48 : decode cX7_closingItem 48 = .ok (.getfield 40, 3) := by decide +kernel
theorem d7_closingItem_51 : decode cX7_closingItem 51 = .ok (.bipush 6, 2) := by decide +kernel
theorem d7_closingItem_53 : decode cX7_closingItem 53 = .ok (.aload_n 0, 1) := by decide +kernel
theorem d7_closingItem_54 : decode cX7_closingItem 54 = .ok (.getfield 37, 3) := by decide +kernel
theorem d7_closingItem_57 : decode cX7_closingItem 57 = .ok (.iconst 1, 1) := by decide +kernel
theorem d7_closingItem_58 : decode cX7_closingItem 58 = .ok (.iaload, 1) := by decide +kernel
theorem d7_closingItem_59 : decode cX7_closingItem 59 = .ok (.iadd, 1) := by decide +kernel
theorem d7_closingItem_60 : decode cX7_closingItem 60 = .ok (.aload_n 0, 1) := by decide +kernel
theorem d7_closingItem_61 : decode cX7_closingItem 61 = .ok (.getfield 70, 3) := by decide +kernel
theorem d7_closingItem_64 : decode cX7_closingItem 64 = .ok (.iconst 0, 1) := by decide +kernel
theorem d7_closingItem_65 : decode cX7_closingItem 65 = .ok (.iaload, 1) := by decide +kernel
theorem d7_closingItem_66 : decode cX7_closingItem 66 = .ok (.iastore, 1) := by decide +kernel
theorem d7_closingItem_67 : decode cX7_closingItem 67 = .ok (.aload_n 0, 1) := by decide +kernel
theorem d7_closingItem_68 : decode cX7_closingItem 68 = .ok (.getfield 43, 3) := by decide +kernel
theorem d7_closingItem_71 : decode cX7_closingItem 71 = .ok (.bipush 6, 2) := by decide +kernel
theorem d7_closingItem_73 : decode cX7_closingItem 73 = .ok (.aload_n 0, 1) := by decide +kernel
theorem d7_closingItem_74 : decode cX7_closingItem 74 = .ok (.getfield 37, 3) := by decide +kernel
theorem d7_closingItem_77 : decode cX7_closingItem 77 = .ok (.iconst 1, 1) := by decide +kernel
theorem d7_closingItem_78 : decode cX7_closingItem 78 = .ok (.iaload, 1) := by decide +kernel
theorem d7_closingItem_79 : decode cX7_closingItem 79 = .ok (.iadd, 1) := by decide +kernel
theorem d7_closingItem_80 : decode cX7_closingItem 80 = .ok (.aload_n 0, 1) := by decide +kernel
theorem d7_closingItem_81 : decode cX7_closingItem 81 = .ok (.getfield 70, 3) := by decide +kernel
theorem d7_closingItem_84 : decode cX7_closingItem 84 = .ok (.iconst 1, 1) := by decide +kernel
theorem d7_closingItem_85 : decode cX7_closingItem 85 = .ok (.iaload, 1) := by decide +kernel
theorem d7_closingItem_86 : decode cX7_closingItem 86 = .ok (.iastore, 1) := by decide +kernel
theorem d7_closingItem_87 : decode cX7_closingItem 87 = .ok (.aload_n 0, 1) := by decide +kernel
theorem d7_closingItem_88 : decode cX7_closingItem 88 = .ok (.getfield 37, 3) := by decide +kernel
theorem d7_closingItem_91 : decode cX7_closingItem 91 = .ok (.iconst 1, 1) := by decide +kernel
theorem d7_closingItem_92 : decode cX7_closingItem 92 = .ok (.dup2, 1) := by decide +kernel
theorem d7_closingItem_93 : decode cX7_closingItem 93 = .ok (.iaload, 1) := by decide +kernel
theorem d7_closingItem_94 : decode cX7_closingItem 94 = .ok (.iconst 1, 1) := by decide +kernel
theorem d7_closingItem_95 : decode cX7_closingItem 95 = .ok (.iadd, 1) := by decide +kernel
theorem d7_closingItem_96 : decode cX7_closingItem 96 = .ok (.iastore, 1) := by decide +kernel
theorem d7_closingItem_97 : decode cX7_closingItem 97 = .ok (.iconst 1, 1) := by decide +kernel
theorem d7_closingItem_98 : decode cX7_closingItem 98 = .ok (.ireturn, 1) := by decide +kernel
def f7_closingItem (σ : Mem) : Option (Mem × Int32) := ob (f7_figures σ 2) fun σ1 r1 => if r1 = 0 then some (σ1, 0) else if (σ1 11 1) = 6 then some (σ1, 0) else if 60 < (σ1 26 1) then some (σ1, 0) else if (σ1 26 0) < (σ1 26 1) then if ¬ (6 + (σ1 11 1) < 0 ∨ 12 ≤ (6 + (σ1 11 1)).toNatClampNeg) then (bm (mu σ1 12 ((6 + (σ1 11 1)).toNatClampNeg) (σ1 26 0)) fun σ7 => if ¬ (6 + (σ7 11 1) < 0 ∨ 12 ≤ (6 + (σ7 11 1)).toNatClampNeg) then (bm (mu σ7 13 ((6 + (σ7 11 1)).toNatClampNeg) (σ7 26 1)) fun σ9 => bm (mu σ9 11 1 ((σ9 11 1) + 1)) fun σ10 => some (σ10, 1)) else none) else none else some (σ1, 0)
set_option maxHeartbeats 4000000 in
set_option maxRecDepth 100000 in
theorem c7_closingItem (l : Launch) {w : WV} {σ : Mem} {σ' : Mem} {r : Int32} (h0 : f7_closingItem σ = some (σ', r)) : Met l yX7_closingItem (wy yX7_closingItem cX7_closingItem 1 (some .boolean)) rm7_closingItem (Pw EM LM w [.ref (w.2.2 0)] σ) (Qw EM LM w σ' (some (.int r))) 0 0 (AW LM w) := by
  refine mk_met (by decide) (Nat.le_of_ble_eq_true rfl) ?_
  intro p e s m below meth c S hr hlk hK hR ls hl
  obtain ⟨hx, hb, hml, hown, hts⟩ := id S
  have hl : lv_has ls 1 [(0, .ref (w.2.2 0))] := hl
  have hS : va_S (AW LM w) s.heap s.heap [] := va_S.rf
  unfold f7_closingItem at h0
  refine lv_aload_n hx hb d7_closingItem_0 rfl (lv_at hl 0 rfl) ?_
  refine lv_iconst (v := 2) hx hb d7_closingItem_1 (by decide) ?_
  obtain ⟨σ1, r1, hr1, h0⟩ := og_o h0
  refine k7_134 S hK hR hS  hr1 ⟨Nat.zero_le _, Nat.zero_le _⟩ ⟨Nat.le_of_ble_eq_true rfl, Nat.le_of_ble_eq_true rfl⟩ hl.1 (Nat.le_of_ble_eq_true rfl) d7_closingItem_2 (fun H locs hR hS => ?_)
  refine lv_if_eq (tgt := 45) hx hb d7_closingItem_5 (by decide) (fun hc2 => ?_) (fun hc2 => ?_)
  · have h0 := og_t hc2 h0
    refine lv_iconst (v := 0) hx hb d7_closingItem_45 (by decide) ?_
    exact q_zret S hr hlk hR hS (Or.inl rfl) h0 d7_closingItem_46
  · have h0 := og_f hc2 h0
    refine lv_aload_n hx hb d7_closingItem_8 rfl (lv_at hl 0 rfl) ?_
    refine g7_37 S hK hR d7_closingItem_9 ?_
    refine lv_iconst (v := 1) hx hb d7_closingItem_12 (by decide) ?_
    refine q_ld (k := 1) S hK hR (by decide) (eM_110 w _) (vin (by decide)) (by decide) d7_closingItem_13 ?_
    refine lv_bipush (v := 6) hx hb d7_closingItem_14 (by decide) ?_
    refine lv_icmp_eq (tgt := 45) hx hb d7_closingItem_16 (by decide) (fun hc3 => ?_) (fun hc3 => ?_)
    · have h0 := og_t hc3 h0
      refine lv_iconst (v := 0) hx hb d7_closingItem_45 (by decide) ?_
      exact q_zret S hr hlk hR hS (Or.inl rfl) h0 d7_closingItem_46
    · have h0 := og_f hc3 h0
      refine lv_aload_n hx hb d7_closingItem_19 rfl (lv_at hl 0 rfl) ?_
      refine g7_70 S hK hR d7_closingItem_20 ?_
      refine lv_iconst (v := 1) hx hb d7_closingItem_23 (by decide) ?_
      refine q_ld (k := 1) S hK hR (by decide) (eM_125 w _) (vin (by decide)) (by decide) d7_closingItem_24 ?_
      refine lv_bipush (v := 60) hx hb d7_closingItem_25 (by decide) ?_
      refine lv_icmp_gt (tgt := 45) hx hb d7_closingItem_27 (by decide) (fun hc4 => ?_) (fun hc4 => ?_)
      · have h0 := og_t hc4 h0
        refine lv_iconst (v := 0) hx hb d7_closingItem_45 (by decide) ?_
        exact q_zret S hr hlk hR hS (Or.inl rfl) h0 d7_closingItem_46
      · have h0 := og_f hc4 h0
        refine lv_aload_n hx hb d7_closingItem_30 rfl (lv_at hl 0 rfl) ?_
        refine g7_70 S hK hR d7_closingItem_31 ?_
        refine lv_iconst (v := 0) hx hb d7_closingItem_34 (by decide) ?_
        refine q_ld (k := 0) S hK hR (by decide) (eM_125 w _) (vin (by decide)) (by decide) d7_closingItem_35 ?_
        refine lv_aload_n hx hb d7_closingItem_36 rfl (lv_at hl 0 rfl) ?_
        refine g7_70 S hK hR d7_closingItem_37 ?_
        refine lv_iconst (v := 1) hx hb d7_closingItem_40 (by decide) ?_
        refine q_ld (k := 1) S hK hR (by decide) (eM_125 w _) (vin (by decide)) (by decide) d7_closingItem_41 ?_
        refine lv_icmp_lt (tgt := 47) hx hb d7_closingItem_42 (by decide) (fun hc5 => ?_) (fun hc5 => ?_)
        · have h0 := og_t hc5 h0
          refine lv_aload_n hx hb d7_closingItem_47 rfl (lv_at hl 0 rfl) ?_
          refine g7_40 S hK hR d7_closingItem_48 ?_
          refine lv_bipush (v := 6) hx hb d7_closingItem_51 (by decide) ?_
          refine lv_aload_n hx hb d7_closingItem_53 rfl (lv_at hl 0 rfl) ?_
          refine g7_37 S hK hR d7_closingItem_54 ?_
          refine lv_iconst (v := 1) hx hb d7_closingItem_57 (by decide) ?_
          refine q_ld (k := 1) S hK hR (by decide) (eM_110 w _) (vin (by decide)) (by decide) d7_closingItem_58 ?_
          refine lv_iadd hx hb d7_closingItem_59 ?_
          refine lv_aload_n hx hb d7_closingItem_60 rfl (lv_at hl 0 rfl) ?_
          refine g7_70 S hK hR d7_closingItem_61 ?_
          refine lv_iconst (v := 0) hx hb d7_closingItem_64 (by decide) ?_
          refine q_ld (k := 0) S hK hR (by decide) (eM_125 w _) (vin (by decide)) (by decide) d7_closingItem_65 ?_
          obtain ⟨hi6, h0⟩ := og_if h0
          obtain ⟨σ7, hm7, h0⟩ := og_m h0
          refine q_st S hK hR hS (by decide) (eM_111 w) hi6 rfl hm7 d7_closingItem_66 (fun H locs hR hS => ?_)
          refine lv_aload_n hx hb d7_closingItem_67 rfl (lv_at hl 0 rfl) ?_
          refine g7_43 S hK hR d7_closingItem_68 ?_
          refine lv_bipush (v := 6) hx hb d7_closingItem_71 (by decide) ?_
          refine lv_aload_n hx hb d7_closingItem_73 rfl (lv_at hl 0 rfl) ?_
          refine g7_37 S hK hR d7_closingItem_74 ?_
          refine lv_iconst (v := 1) hx hb d7_closingItem_77 (by decide) ?_
          refine q_ld (k := 1) S hK hR (by decide) (eM_110 w _) (vin (by decide)) (by decide) d7_closingItem_78 ?_
          refine lv_iadd hx hb d7_closingItem_79 ?_
          refine lv_aload_n hx hb d7_closingItem_80 rfl (lv_at hl 0 rfl) ?_
          refine g7_70 S hK hR d7_closingItem_81 ?_
          refine lv_iconst (v := 1) hx hb d7_closingItem_84 (by decide) ?_
          refine q_ld (k := 1) S hK hR (by decide) (eM_125 w _) (vin (by decide)) (by decide) d7_closingItem_85 ?_
          obtain ⟨hi8, h0⟩ := og_if h0
          obtain ⟨σ9, hm9, h0⟩ := og_m h0
          refine q_st S hK hR hS (by decide) (eM_112 w) hi8 rfl hm9 d7_closingItem_86 (fun H locs hR hS => ?_)
          refine lv_aload_n hx hb d7_closingItem_87 rfl (lv_at hl 0 rfl) ?_
          refine g7_37 S hK hR d7_closingItem_88 ?_
          refine lv_iconst (v := 1) hx hb d7_closingItem_91 (by decide) ?_
          refine lv_dup2_11 hx hb d7_closingItem_92 rfl rfl ?_
          refine q_ld (k := 1) S hK hR (by decide) (eM_110 w _) (vin (by decide)) (by decide) d7_closingItem_93 ?_
          refine lv_iconst (v := 1) hx hb d7_closingItem_94 (by decide) ?_
          refine lv_iadd hx hb d7_closingItem_95 ?_
          obtain ⟨σ10, hm10, h0⟩ := og_m h0
          refine q_st S hK hR hS (by decide) (eM_110 w) (vin (by decide)) (by decide) hm10 d7_closingItem_96 (fun H locs hR hS => ?_)
          refine lv_iconst (v := 1) hx hb d7_closingItem_97 (by decide) ?_
          exact q_zret S hr hlk hR hS (Or.inr rfl) h0 d7_closingItem_98
        · have h0 := og_f hc5 h0
          refine lv_iconst (v := 0) hx hb d7_closingItem_45 (by decide) ?_
          exact q_zret S hr hlk hR hS (Or.inl rfl) h0 d7_closingItem_46
set_option maxHeartbeats 4000000 in
set_option maxRecDepth 100000 in
theorem k7_142 {p : Program} {l : Launch} {e : Env} {R : Room} {s : State} {m : MethodId} {args : Array Value} {below : List Frame} {meth : Method} {c : Code} {H : Heap} {locs : List Loc} {cells slots : Nat} {Q : State → Prop} {cc : ByteArray} {pc nL : Nat} {ls : Array Slot} {rest : List Value} {w : WV} {σ : Mem} {σ1 : Mem} {r : Int32} (S : CallFix p m c cc nL s args gtbl RX7) (hK : KS LM w s) (hR : Rp EM LM w σ H) (hS : va_S (AW LM w) s.heap H locs) (h0 : f7_closingItem σ = some (σ1, r)) (hf : cells + 0 ≤ R.cells ∧ slots + 0 ≤ R.slots) (hRm : rm7_closingItem.frames + 1 ≤ R.frames ∧ 8 + (1 + 11) + rm7_closingItem.locals ≤ R.locals) (hl : ls.size = nL) (hW : (rest.map fun v => v.category).sum ≤ 8) (hdg : decode cc pc = .ok (.invokevirtual 142, 3)) (kk : ∀ (H1 : Heap) (locs1 : List Loc), Rp EM LM w σ1 H1 → va_S (AW LM w) s.heap H1 locs1 → W p l e R s m args below meth c H1 locs1 cells slots Q (F0 m (pc + 3) ls (.int r :: rest))) : W p l e R s m args below meth c H locs cells slots Q (F0 m pc ls (.ref (w.2.2 0) :: rest)) := r_end hS (run_V (n := 0) (As := []) S hK hR (by decide) (eM_7 w _) rfl (gw_V (gt_at 1062 (by decide +kernel) (by decide +kernel)) (gt_at 1064 (by decide +kernel) (by decide +kernel)) (gt_at 47 (by decide +kernel) (by decide +kernel)) (gt_at 86 (by decide +kernel) (by decide +kernel)) (gt_at 1065 (by decide +kernel) (by decide +kernel))) (by decide +kernel) rfl (c7_closingItem l h0) ⟨rfl, rfl⟩ hRm hf hl rfl hW hdg) kk
/-! FourTenGatesModel.oddsItem()Z -/
abbrev rm7_oddsItem : Room := { frames := 2, cells := 0, slots := 0, locals := 49 }
theorem d7_oddsItem_0 : decode cX7_oddsItem 0 = .ok (.aload_n 0, 1) := by decide +kernel
theorem d7_oddsItem_1 : decode cX7_oddsItem 1 = .ok (.iconst 2, 1) := by decide +kernel
theorem d7_oddsItem_2 : decode cX7_oddsItem 2 = .ok (.invokevirtual 134, 3) := by decide +kernel
theorem d7_oddsItem_5 : decode cX7_oddsItem 5 = .ok (.ifCond .eq 35, 3) := by decide +kernel
theorem d7_oddsItem_8 : decode cX7_oddsItem 8 = .ok (.aload_n 0, 1) := by decide +kernel
theorem d7_oddsItem_9 : decode cX7_oddsItem 9 = .ok (.getfield 46, 3) := by decide +kernel
theorem d7_oddsItem_12 : decode cX7_oddsItem 12 = .ok (.iconst 1, 1) := by decide +kernel
theorem d7_oddsItem_13 : decode cX7_oddsItem 13 = .ok (.iaload, 1) := by decide +kernel
theorem d7_oddsItem_14 : decode cX7_oddsItem 14 = .ok (.iconst 5, 1) := by decide +kernel
theorem d7_oddsItem_15 : decode cX7_oddsItem 15 = .ok (.if_icmp .eq 25, 3) := by decide +kernel
theorem d7_oddsItem_18 : decode cX7_oddsItem 18 = .ok (.aload_n 0, 1) := by decide +kernel
theorem d7_oddsItem_19 : decode cX7_oddsItem 19 = .ok (.getfield 70, 3) := by decide +kernel
theorem d7_oddsItem_22 : decode cX7_oddsItem 22 = .ok (.iconst 0, 1) := by decide +kernel
theorem d7_oddsItem_23 : decode cX7_oddsItem 23 = .ok (.iaload, 1) := by decide +kernel
theorem d7_oddsItem_24 : decode cX7_oddsItem 24 = .ok (.bipush 9, 2) := by decide +kernel
theorem d7_oddsItem_26 : decode cX7_oddsItem 26 = .ok (.if_icmp .gt 14, 3) := by decide +kernel
theorem d7_oddsItem_29 : decode cX7_oddsItem 29 = .ok (.aload_n 0, 1) := by decide +kernel
theorem d7_oddsItem_30 : decode cX7_oddsItem 30 = .ok (.getfield 70, 3) := by decide +kernel
theorem d7_oddsItem_33 : decode cX7_oddsItem 33 = .ok (.iconst 1, 1) := by decide +kernel
theorem d7_oddsItem_34 : decode cX7_oddsItem 34 = .ok (.iaload, 1) := by decide +kernel
theorem d7_oddsItem_35 : decode cX7_oddsItem 35 = .ok (.bipush 10, 2) := by decide +kernel
theorem d7_oddsItem_37 : decode cX7_oddsItem 37 = .ok (.if_icmp .le 5, 3) := by decide +kernel
theorem d7_oddsItem_40 : decode cX7_oddsItem 40 = .ok (.iconst 0, 1) := by decide +kernel
theorem d7_oddsItem_41 : decode cX7_oddsItem 41 = .ok (.ireturn, 1) := by decide +kernel
theorem d7_oddsItem_42 : decode cX7_oddsItem 42 = .ok (.aload_n 0, 1) := by decide +kernel
theorem d7_oddsItem_43 : decode cX7_oddsItem 43 = .ok (.getfield 49, 3) := by decide +kernel
theorem d7_oddsItem_46 : decode cX7_oddsItem 46 = .ok (.iconst 5, 1) := by decide +kernel
theorem d7_oddsItem_47 : decode cX7_oddsItem 47 = .ok (.aload_n 0, 1) := by decide +kernel
theorem d7_oddsItem_48 : decode cX7_oddsItem 48 = .ok (.getfield 46, 3) := by decide +kernel
theorem d7_oddsItem_51 : decode cX7_oddsItem 51 = .ok (.iconst 1, 1) := by decide +kernel
theorem d7_oddsItem_52 : decode cX7_oddsItem 52 = .ok (.iaload, 1) := by decide +kernel
theorem d7_oddsItem_53 : decode cX7_oddsItem 53 = .ok (.iadd, 1) := by decide +kernel
theorem d7_oddsItem_54 : decode cX7_oddsItem 54 = .ok (.aload_n 0, 1) := by decide +kernel
theorem d7_oddsItem_55 : decode cX7_oddsItem 55 = .ok (.getfield 70, 3) := by decide +kernel
theorem d7_oddsItem_58 : decode cX7_oddsItem 58 = .ok (.iconst 0, 1) := by decide +kernel
theorem d7_oddsItem_59 : decode cX7_oddsItem 59 = .ok (.iaload, 1) := by decide +kernel
theorem d7_oddsItem_60 : decode cX7_oddsItem 60 = .ok (.iastore, 1) := by decide +kernel
theorem d7_oddsItem_61 : decode cX7_oddsItem 61 = .ok (.aload_n 0, 1) := by decide +kernel
theorem d7_oddsItem_62 : decode cX7_oddsItem 62 = .ok (.getfield 52, 3) := by decide +kernel
theorem d7_oddsItem_65 : decode cX7_oddsItem 65 = .ok (.iconst 5, 1) := by decide +kernel
theorem d7_oddsItem_66 : decode cX7_oddsItem 66 = .ok (.aload_n 0, 1) := by decide +kernel
theorem d7_oddsItem_67 : decode cX7_oddsItem 67 = .ok (.getfield 46, 3) := by decide +kernel
theorem d7_oddsItem_70 : decode cX7_oddsItem 70 = .ok (.iconst 1, 1) := by decide +kernel
theorem d7_oddsItem_71 : decode cX7_oddsItem 71 = .ok (.iaload, 1) := by decide +kernel
theorem d7_oddsItem_72 : decode cX7_oddsItem 72 = .ok (.iadd, 1) := by decide +kernel
theorem d7_oddsItem_73 : decode cX7_oddsItem 73 = .ok (.aload_n 0, 1) := by decide +kernel
theorem d7_oddsItem_74 : decode cX7_oddsItem 74 = .ok (.getfield 70, 3) := by decide +kernel
theorem d7_oddsItem_77 : decode cX7_oddsItem 77 = .ok (.iconst 1, 1) := by decide +kernel
theorem d7_oddsItem_78 : decode cX7_oddsItem 78 = .ok (.iaload, 1) := by decide +kernel
theorem d7_oddsItem_79 : decode cX7_oddsItem 79 = .ok (.iastore, 1) := by decide +kernel
theorem d7_oddsItem_80 : decode cX7_oddsItem 80 = .ok (.aload_n 0, 1) := by decide +kernel
theorem d7_oddsItem_81 : decode cX7_oddsItem 81 = .ok (.getfield 46, 3) := by decide +kernel
theorem d7_oddsItem_84 : decode cX7_oddsItem 84 = .ok (.iconst 1, 1) := by decide +kernel
theorem d7_oddsItem_85 : decode cX7_oddsItem 85 = .ok (.dup2, 1) := by decide +kernel
theorem d7_oddsItem_86 : decode cX7_oddsItem 86 = .ok (.iaload, 1) := by decide +kernel
theorem d7_oddsItem_87 : decode cX7_oddsItem 87 = .ok (.iconst 1, 1) := by decide +kernel
theorem d7_oddsItem_88 : decode cX7_oddsItem 88 = .ok (.iadd, 1) := by decide +kernel
theorem d7_oddsItem_89 : decode cX7_oddsItem 89 = .ok (.iastore, 1) := by decide +kernel
theorem d7_oddsItem_90 : decode cX7_oddsItem 90 = .ok (.iconst 1, 1) := by decide +kernel
theorem d7_oddsItem_91 : decode cX7_oddsItem 91 = .ok (.ireturn, 1) := by decide +kernel
def f7_oddsItem (σ : Mem) : Option (Mem × Int32) := ob (f7_figures σ 2) fun σ1 r1 => if r1 = 0 then some (σ1, 0) else if (σ1 14 1) = 5 then some (σ1, 0) else if 9 < (σ1 26 0) then some (σ1, 0) else if (σ1 26 1) ≤ 10 then if ¬ (5 + (σ1 14 1) < 0 ∨ 10 ≤ (5 + (σ1 14 1)).toNatClampNeg) then (bm (mu σ1 15 ((5 + (σ1 14 1)).toNatClampNeg) (σ1 26 0)) fun σ7 => if ¬ (5 + (σ7 14 1) < 0 ∨ 10 ≤ (5 + (σ7 14 1)).toNatClampNeg) then (bm (mu σ7 16 ((5 + (σ7 14 1)).toNatClampNeg) (σ7 26 1)) fun σ9 => bm (mu σ9 14 1 ((σ9 14 1) + 1)) fun σ10 => some (σ10, 1)) else none) else none else some (σ1, 0)
set_option maxHeartbeats 4000000 in
set_option maxRecDepth 100000 in
theorem c7_oddsItem (l : Launch) {w : WV} {σ : Mem} {σ' : Mem} {r : Int32} (h0 : f7_oddsItem σ = some (σ', r)) : Met l yX7_oddsItem (wy yX7_oddsItem cX7_oddsItem 1 (some .boolean)) rm7_oddsItem (Pw EM LM w [.ref (w.2.2 0)] σ) (Qw EM LM w σ' (some (.int r))) 0 0 (AW LM w) := by
  refine mk_met (by decide) (Nat.le_of_ble_eq_true rfl) ?_
  intro p e s m below meth c S hr hlk hK hR ls hl
  obtain ⟨hx, hb, hml, hown, hts⟩ := id S
  have hl : lv_has ls 1 [(0, .ref (w.2.2 0))] := hl
  have hS : va_S (AW LM w) s.heap s.heap [] := va_S.rf
  unfold f7_oddsItem at h0
  refine lv_aload_n hx hb d7_oddsItem_0 rfl (lv_at hl 0 rfl) ?_
  refine lv_iconst (v := 2) hx hb d7_oddsItem_1 (by decide) ?_
  obtain ⟨σ1, r1, hr1, h0⟩ := og_o h0
  refine k7_134 S hK hR hS  hr1 ⟨Nat.zero_le _, Nat.zero_le _⟩ ⟨Nat.le_of_ble_eq_true rfl, Nat.le_of_ble_eq_true rfl⟩ hl.1 (Nat.le_of_ble_eq_true rfl) d7_oddsItem_2 (fun H locs hR hS => ?_)
  refine lv_if_eq (tgt := 40) hx hb d7_oddsItem_5 (by decide) (fun hc2 => ?_) (fun hc2 => ?_)
  · have h0 := og_t hc2 h0
    refine lv_iconst (v := 0) hx hb d7_oddsItem_40 (by decide) ?_
    exact q_zret S hr hlk hR hS (Or.inl rfl) h0 d7_oddsItem_41
  · have h0 := og_f hc2 h0
    refine lv_aload_n hx hb d7_oddsItem_8 rfl (lv_at hl 0 rfl) ?_
    refine g7_46 S hK hR d7_oddsItem_9 ?_
    refine lv_iconst (v := 1) hx hb d7_oddsItem_12 (by decide) ?_
    refine q_ld (k := 1) S hK hR (by decide) (eM_113 w _) (vin (by decide)) (by decide) d7_oddsItem_13 ?_
    refine lv_iconst (v := 5) hx hb d7_oddsItem_14 (by decide) ?_
    refine lv_icmp_eq (tgt := 40) hx hb d7_oddsItem_15 (by decide) (fun hc3 => ?_) (fun hc3 => ?_)
    · have h0 := og_t hc3 h0
      refine lv_iconst (v := 0) hx hb d7_oddsItem_40 (by decide) ?_
      exact q_zret S hr hlk hR hS (Or.inl rfl) h0 d7_oddsItem_41
    · have h0 := og_f hc3 h0
      refine lv_aload_n hx hb d7_oddsItem_18 rfl (lv_at hl 0 rfl) ?_
      refine g7_70 S hK hR d7_oddsItem_19 ?_
      refine lv_iconst (v := 0) hx hb d7_oddsItem_22 (by decide) ?_
      refine q_ld (k := 0) S hK hR (by decide) (eM_125 w _) (vin (by decide)) (by decide) d7_oddsItem_23 ?_
      refine lv_bipush (v := 9) hx hb d7_oddsItem_24 (by decide) ?_
      refine lv_icmp_gt (tgt := 40) hx hb d7_oddsItem_26 (by decide) (fun hc4 => ?_) (fun hc4 => ?_)
      · have h0 := og_t hc4 h0
        refine lv_iconst (v := 0) hx hb d7_oddsItem_40 (by decide) ?_
        exact q_zret S hr hlk hR hS (Or.inl rfl) h0 d7_oddsItem_41
      · have h0 := og_f hc4 h0
        refine lv_aload_n hx hb d7_oddsItem_29 rfl (lv_at hl 0 rfl) ?_
        refine g7_70 S hK hR d7_oddsItem_30 ?_
        refine lv_iconst (v := 1) hx hb d7_oddsItem_33 (by decide) ?_
        refine q_ld (k := 1) S hK hR (by decide) (eM_125 w _) (vin (by decide)) (by decide) d7_oddsItem_34 ?_
        refine lv_bipush (v := 10) hx hb d7_oddsItem_35 (by decide) ?_
        refine lv_icmp_le (tgt := 42) hx hb d7_oddsItem_37 (by decide) (fun hc5 => ?_) (fun hc5 => ?_)
        · have h0 := og_t hc5 h0
          refine lv_aload_n hx hb d7_oddsItem_42 rfl (lv_at hl 0 rfl) ?_
          refine g7_49 S hK hR d7_oddsItem_43 ?_
          refine lv_iconst (v := 5) hx hb d7_oddsItem_46 (by decide) ?_
          refine lv_aload_n hx hb d7_oddsItem_47 rfl (lv_at hl 0 rfl) ?_
          refine g7_46 S hK hR d7_oddsItem_48 ?_
          refine lv_iconst (v := 1) hx hb d7_oddsItem_51 (by decide) ?_
          refine q_ld (k := 1) S hK hR (by decide) (eM_113 w _) (vin (by decide)) (by decide) d7_oddsItem_52 ?_
          refine lv_iadd hx hb d7_oddsItem_53 ?_
          refine lv_aload_n hx hb d7_oddsItem_54 rfl (lv_at hl 0 rfl) ?_
          refine g7_70 S hK hR d7_oddsItem_55 ?_
          refine lv_iconst (v := 0) hx hb d7_oddsItem_58 (by decide) ?_
          refine q_ld (k := 0) S hK hR (by decide) (eM_125 w _) (vin (by decide)) (by decide) d7_oddsItem_59 ?_
          obtain ⟨hi6, h0⟩ := og_if h0
          obtain ⟨σ7, hm7, h0⟩ := og_m h0
          refine q_st S hK hR hS (by decide) (eM_114 w) hi6 rfl hm7 d7_oddsItem_60 (fun H locs hR hS => ?_)
          refine lv_aload_n hx hb d7_oddsItem_61 rfl (lv_at hl 0 rfl) ?_
          refine g7_52 S hK hR d7_oddsItem_62 ?_
          refine lv_iconst (v := 5) hx hb d7_oddsItem_65 (by decide) ?_
          refine lv_aload_n hx hb d7_oddsItem_66 rfl (lv_at hl 0 rfl) ?_
          refine g7_46 S hK hR d7_oddsItem_67 ?_
          refine lv_iconst (v := 1) hx hb d7_oddsItem_70 (by decide) ?_
          refine q_ld (k := 1) S hK hR (by decide) (eM_113 w _) (vin (by decide)) (by decide) d7_oddsItem_71 ?_
          refine lv_iadd hx hb d7_oddsItem_72 ?_
          refine lv_aload_n hx hb d7_oddsItem_73 rfl (lv_at hl 0 rfl) ?_
          refine g7_70 S hK hR d7_oddsItem_74 ?_
          refine lv_iconst (v := 1) hx hb d7_oddsItem_77 (by decide) ?_
          refine q_ld (k := 1) S hK hR (by decide) (eM_125 w _) (vin (by decide)) (by decide) d7_oddsItem_78 ?_
          obtain ⟨hi8, h0⟩ := og_if h0
          obtain ⟨σ9, hm9, h0⟩ := og_m h0
          refine q_st S hK hR hS (by decide) (eM_115 w) hi8 rfl hm9 d7_oddsItem_79 (fun H locs hR hS => ?_)
          refine lv_aload_n hx hb d7_oddsItem_80 rfl (lv_at hl 0 rfl) ?_
          refine g7_46 S hK hR d7_oddsItem_81 ?_
          refine lv_iconst (v := 1) hx hb d7_oddsItem_84 (by decide) ?_
          refine lv_dup2_11 hx hb d7_oddsItem_85 rfl rfl ?_
          refine q_ld (k := 1) S hK hR (by decide) (eM_113 w _) (vin (by decide)) (by decide) d7_oddsItem_86 ?_
          refine lv_iconst (v := 1) hx hb d7_oddsItem_87 (by decide) ?_
          refine lv_iadd hx hb d7_oddsItem_88 ?_
          obtain ⟨σ10, hm10, h0⟩ := og_m h0
          refine q_st S hK hR hS (by decide) (eM_113 w) (vin (by decide)) (by decide) hm10 d7_oddsItem_89 (fun H locs hR hS => ?_)
          refine lv_iconst (v := 1) hx hb d7_oddsItem_90 (by decide) ?_
          exact q_zret S hr hlk hR hS (Or.inr rfl) h0 d7_oddsItem_91
        · have h0 := og_f hc5 h0
          refine lv_iconst (v := 0) hx hb d7_oddsItem_40 (by decide) ?_
          exact q_zret S hr hlk hR hS (Or.inl rfl) h0 d7_oddsItem_41
set_option maxHeartbeats 4000000 in
set_option maxRecDepth 100000 in
theorem k7_146 {p : Program} {l : Launch} {e : Env} {R : Room} {s : State} {m : MethodId} {args : Array Value} {below : List Frame} {meth : Method} {c : Code} {H : Heap} {locs : List Loc} {cells slots : Nat} {Q : State → Prop} {cc : ByteArray} {pc nL : Nat} {ls : Array Slot} {rest : List Value} {w : WV} {σ : Mem} {σ1 : Mem} {r : Int32} (S : CallFix p m c cc nL s args gtbl RX7) (hK : KS LM w s) (hR : Rp EM LM w σ H) (hS : va_S (AW LM w) s.heap H locs) (h0 : f7_oddsItem σ = some (σ1, r)) (hf : cells + 0 ≤ R.cells ∧ slots + 0 ≤ R.slots) (hRm : rm7_oddsItem.frames + 1 ≤ R.frames ∧ 8 + (1 + 11) + rm7_oddsItem.locals ≤ R.locals) (hl : ls.size = nL) (hW : (rest.map fun v => v.category).sum ≤ 8) (hdg : decode cc pc = .ok (.invokevirtual 146, 3)) (kk : ∀ (H1 : Heap) (locs1 : List Loc), Rp EM LM w σ1 H1 → va_S (AW LM w) s.heap H1 locs1 → W p l e R s m args below meth c H1 locs1 cells slots Q (F0 m (pc + 3) ls (.int r :: rest))) : W p l e R s m args below meth c H locs cells slots Q (F0 m pc ls (.ref (w.2.2 0) :: rest)) := r_end hS (run_V (n := 0) (As := []) S hK hR (by decide) (eM_7 w _) rfl (gw_V (gt_at 1066 (by decide +kernel) (by decide +kernel)) (gt_at 1068 (by decide +kernel) (by decide +kernel)) (gt_at 48 (by decide +kernel) (by decide +kernel)) (gt_at 86 (by decide +kernel) (by decide +kernel)) (gt_at 1069 (by decide +kernel) (by decide +kernel))) (by decide +kernel) rfl (c7_oddsItem l h0) ⟨rfl, rfl⟩ hRm hf hl rfl hW hdg) kk
end
